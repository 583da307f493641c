theorem dX3_count_19 : decode cX3_count 19 = .ok (.invokevirtual 79, 3) := by decide +kernel
theorem dX3_count_22 : decode cX3_count 22 = .ok (.ireturn, 1) := by decide +kernel
theorem dX3_digest_0 : decode cX3_digest 0 = .ok (.ldc2_w 240, 3) := by decide +kernel
theorem dX3_digest_3 : decode cX3_digest 3 = .ok (.lstore_n 1, 1) := by decide +kernel
theorem dX3_digest_4 : decode cX3_digest 4 = .ok (.iconst 0, 1) := by decide +kernel
theorem dX3_digest_5 : decode cX3_digest 5 = .ok (.istore_n 3, 1) := by decide +kernel
theorem dX3_digest_6 : decode cX3_digest 6 = .ok (.iload_n 3, 1) := by decide +kernel
theorem dX3_digest_7 : decode cX3_digest 7 = .ok (.bipush 6, 2) := by decide +kernel
theorem dX3_digest_9 : decode cX3_digest 9 = .ok (.if_icmp .gt 22, 3) := by decide +kernel
theorem dX3_digest_12 : decode cX3_digest 12 = .ok (.ldc2_w 242, 3) := by decide +kernel
theorem dX3_digest_15 : decode cX3_digest 15 = .ok (.lload_n 1, 1) := by decide +kernel
theorem dX3_digest_16 : decode cX3_digest 16 = .ok (.lmul, 1) := by decide +kernel
theorem dX3_digest_17 : decode cX3_digest 17 = .ok (.aload_n 0, 1) := by decide +kernel
theorem dX3_digest_18 : decode cX3_digest 18 = .ok (.iload_n 3, 1) := by decide +kernel
theorem dX3_digest_19 : decode cX3_digest 19 = .ok (.invokevirtual 237, 3) := by decide +kernel
theorem dX3_digest_22 : decode cX3_digest 22 = .ok (.i2l, 1) := by decide +kernel
theorem dX3_digest_23 : decode cX3_digest 23 = .ok (.ladd, 1) := by decide +kernel
theorem dX3_digest_24 : decode cX3_digest 24 = .ok (.lstore_n 1, 1) := by decide +kernel
theorem dX3_digest_25 : decode cX3_digest 25 = .ok (.iinc 3 1, 3) := by decide +kernel
theorem dX3_digest_28 : decode cX3_digest 28 = .ok (.goto (-22), 3) := by decide +kernel
theorem dX3_digest_31 : decode cX3_digest 31 = .ok (.aload_n 0, 1) := by decide +kernel
theorem dX3_digest_32 : decode cX3_digest 32 = .ok (.getfield 10, 3) := by decide +kernel
theorem dX3_digest_35 : decode cX3_digest 35 = .ok (.lload_n 1, 1) := by decide +kernel
theorem dX3_digest_36 : decode cX3_digest 36 = .ok (.invokevirtual 244, 3) := by decide +kernel
theorem dX3_digest_39 : decode cX3_digest 39 = .ok (.lstore_n 1, 1) := by decide +kernel
theorem dX3_digest_40 : decode cX3_digest 40 = .ok (.ldc2_w 242, 3) := by decide +kernel
theorem dX3_digest_43 : decode cX3_digest 43 = .ok (.lload_n 1, 1) := by decide +kernel
theorem dX3_digest_44 : decode cX3_digest 44 = .ok (.lmul, 1) := by decide +kernel
theorem dX3_digest_45 : decode cX3_digest 45 = .ok (.aload_n 0, 1) := by decide +kernel
theorem dX3_digest_46 : decode cX3_digest 46 = .ok (.getfield 46, 3) := by decide +kernel
theorem dX3_digest_49 : decode cX3_digest 49 = .ok (.ladd, 1) := by decide +kernel
theorem dX3_digest_50 : decode cX3_digest 50 = .ok (.lstore_n 1, 1) := by decide +kernel
theorem dX3_digest_51 : decode cX3_digest 51 = .ok (.ldc2_w 242, 3) := by decide +kernel
theorem dX3_digest_54 : decode cX3_digest 54 = .ok (.lload_n 1, 1) := by decide +kernel
theorem dX3_digest_55 : decode cX3_digest 55 = .ok (.lmul, 1) := by decide +kernel
theorem dX3_digest_56 : decode cX3_digest 56 = .ok (.aload_n 0, 1) := by decide +kernel
theorem dX3_digest_57 : decode cX3_digest 57 = .ok (.getfield 50, 3) := by decide +kernel
theorem dX3_digest_60 : decode cX3_digest 60 = .ok (.ladd, 1) := by decide +kernel
theorem dX3_digest_61 : decode cX3_digest 61 = .ok (.lreturn, 1) := by decide +kernel
theorem dX3_bad_0 : decode cX3_bad 0 = .ok (.aload_n 0, 1) := by decide +kernel
theorem dX3_bad_1 : decode cX3_bad 1 = .ok (.dup, 1) := by decide +kernel
theorem dX3_bad_2 : decode cX3_bad 2 = .ok (.getfield 53, 3) := by decide +kernel
theorem dX3_bad_5 : decode cX3_bad 5 = .ok (.iconst 1, 1) := by decide +kernel
theorem dX3_bad_6 : decode cX3_bad 6 = .ok (.iadd, 1) := by decide +kernel
theorem dX3_bad_7 : decode cX3_bad 7 = .ok (.putfield 53, 3) := by decide +kernel
theorem dX3_bad_10 : decode cX3_bad 10 = .ok (.bipush (-2), 2) := by decide +kernel
theorem dX3_bad_12 : decode cX3_bad 12 = .ok (.ireturn, 1) := by decide +kernel
theorem dX3_badByTen_0 : decode cX3_badByTen 0 = .ok (.aload_n 0, 1) := by decide +kernel
theorem dX3_badByTen_1 : decode cX3_badByTen 1 = .ok (.dup, 1) := by decide +kernel
theorem dX3_badByTen_2 : decode cX3_badByTen 2 = .ok (.getfield 53, 3) := by decide +kernel
theorem dX3_badByTen_5 : decode cX3_badByTen 5 = .ok (.iconst 1, 1) := by decide +kernel
theorem dX3_badByTen_6 : decode cX3_badByTen 6 = .ok (.iadd, 1) := by decide +kernel
theorem dX3_badByTen_7 : decode cX3_badByTen 7 = .ok (.putfield 53, 3) := by decide +kernel
theorem dX3_badByTen_10 : decode cX3_badByTen 10 = .ok (.bipush (-10), 2) := by decide +kernel
theorem dX3_badByTen_12 : decode cX3_badByTen 12 = .ok (.ireturn, 1) := by decide +kernel
theorem dX3_no_0 : decode cX3_no 0 = .ok (.aload_n 0, 1) := by decide +kernel
theorem dX3_no_1 : decode cX3_no 1 = .ok (.dup, 1) := by decide +kernel
theorem dX3_no_2 : decode cX3_no 2 = .ok (.getfield 57, 3) := by decide +kernel
theorem dX3_no_5 : decode cX3_no 5 = .ok (.iconst 1, 1) := by decide +kernel
theorem dX3_no_6 : decode cX3_no 6 = .ok (.iadd, 1) := by decide +kernel
theorem dX3_no_7 : decode cX3_no 7 = .ok (.putfield 57, 3) := by decide +kernel
theorem dX3_no_10 : decode cX3_no 10 = .ok (.bipush (-3), 2) := by decide +kernel
theorem dX3_no_12 : decode cX3_no 12 = .ok (.ireturn, 1) := by decide +kernel
theorem dX3_full_0 : decode cX3_full 0 = .ok (.aload_n 0, 1) := by decide +kernel
theorem dX3_full_1 : decode cX3_full 1 = .ok (.dup, 1) := by decide +kernel
theorem dX3_full_2 : decode cX3_full 2 = .ok (.getfield 60, 3) := by decide +kernel
theorem dX3_full_5 : decode cX3_full 5 = .ok (.iconst 1, 1) := by decide +kernel
theorem dX3_full_6 : decode cX3_full 6 = .ok (.iadd, 1) := by decide +kernel
theorem dX3_full_7 : decode cX3_full 7 = .ok (.putfield 60, 3) := by decide +kernel
theorem dX3_full_10 : decode cX3_full 10 = .ok (.bipush (-4), 2) := by decide +kernel
theorem dX3_full_12 : decode cX3_full 12 = .ok (.ireturn, 1) := by decide +kernel
theorem dX3_within_0 : decode cX3_within 0 = .ok (.iload_n 0, 1) := by decide +kernel
theorem dX3_within_1 : decode cX3_within 1 = .ok (.iload_n 1, 1) := by decide +kernel
theorem dX3_within_2 : decode cX3_within 2 = .ok (.if_icmp .lt 12, 3) := by decide +kernel
theorem dX3_within_5 : decode cX3_within 5 = .ok (.iload_n 0, 1) := by decide +kernel
theorem dX3_within_6 : decode cX3_within 6 = .ok (.iload_n 2, 1) := by decide +kernel
theorem dX3_within_7 : decode cX3_within 7 = .ok (.if_icmp .gt 7, 3) := by decide +kernel
theorem dX3_within_10 : decode cX3_within 10 = .ok (.iconst 1, 1) := by decide +kernel
theorem dX3_within_11 : decode cX3_within 11 = .ok (.goto 4, 3) := by decide +kernel
theorem dX3_within_14 : decode cX3_within 14 = .ok (.iconst 0, 1) := by decide +kernel
theorem dX3_within_15 : decode cX3_within 15 = .ok (.ireturn, 1) := by decide +kernel
theorem dX3_isSort_0 : decode cX3_isSort 0 = .ok (.iload_n 0, 1) := by decide +kernel
theorem dX3_isSort_1 : decode cX3_isSort 1 = .ok (.iconst 0, 1) := by decide +kernel
theorem dX3_isSort_2 : decode cX3_isSort 2 = .ok (.bipush 9, 2) := by decide +kernel
theorem dX3_isSort_4 : decode cX3_isSort 4 = .ok (.invokestatic 71, 3) := by decide +kernel
theorem dX3_isSort_7 : decode cX3_isSort 7 = .ok (.ireturn, 1) := by decide +kernel
theorem dX3_isThere_0 : decode cX3_isThere 0 = .ok (.iload_n 1, 1) := by decide +kernel
theorem dX3_isThere_1 : decode cX3_isThere 1 = .ok (.iconst 0, 1) := by decide +kernel
theorem dX3_isThere_2 : decode cX3_isThere 2 = .ok (.aload_n 0, 1) := by decide +kernel
theorem dX3_isThere_3 : decode cX3_isThere 3 = .ok (.getfield 10, 3) := by decide +kernel
theorem dX3_isThere_6 : decode cX3_isThere 6 = .ok (.getfield 63, 3) := by decide +kernel
theorem dX3_isThere_9 : decode cX3_isThere 9 = .ok (.iconst 1, 1) := by decide +kernel
theorem dX3_isThere_10 : decode cX3_isThere 10 = .ok (.isub, 1) := by decide +kernel
theorem dX3_isThere_11 : decode cX3_isThere 11 = .ok (.invokestatic 71, 3) := by decide +kernel
theorem dX3_isThere_14 : decode cX3_isThere 14 = .ok (.ireturn, 1) := by decide +kernel
theorem dX3_howMany_0 : decode cX3_howMany 0 = .ok (.iload_n 1, 1) := by decide +kernel
theorem dX3_howMany_1 : decode cX3_howMany 1 = .ok (.tableswitch 87 0 5 #[39, 47, 55, 63, 71, 79], 39) := by decide +kernel
theorem dX3_howMany_40 : decode cX3_howMany 40 = .ok (.aload_n 0, 1) := by decide +kernel
theorem dX3_howMany_41 : decode cX3_howMany 41 = .ok (.getfield 10, 3) := by decide +kernel
theorem dX3_howMany_44 : decode cX3_howMany 44 = .ok (.getfield 63, 3) := by decide +kernel
theorem dX3_howMany_47 : decode cX3_howMany 47 = .ok (.ireturn, 1) := by decide +kernel
theorem dX3_howMany_48 : decode cX3_howMany 48 = .ok (.aload_n 0, 1) := by decide +kernel
theorem dX3_howMany_49 : decode cX3_howMany 49 = .ok (.getfield 10, 3) := by decide +kernel
theorem dX3_howMany_52 : decode cX3_howMany 52 = .ok (.getfield 140, 3) := by decide +kernel
theorem dX3_howMany_55 : decode cX3_howMany 55 = .ok (.ireturn, 1) := by decide +kernel
theorem dX3_howMany_56 : decode cX3_howMany 56 = .ok (.aload_n 0, 1) := by decide +kernel
theorem dX3_howMany_57 : decode cX3_howMany 57 = .ok (.getfield 10, 3) := by decide +kernel
theorem dX3_howMany_60 : decode cX3_howMany 60 = .ok (.invokevirtual 216, 3) := by decide +kernel
theorem dX3_howMany_63 : decode cX3_howMany 63 = .ok (.ireturn, 1) := by decide +kernel
theorem dX3_howMany_64 : decode cX3_howMany 64 = .ok (.aload_n 0, 1) := by decide +kernel
theorem dX3_howMany_65 : decode cX3_howMany 65 = .ok (.getfield 10, 3) := by decide +kernel
theorem dX3_howMany_68 : decode cX3_howMany 68 = .ok (.invokevirtual 247, 3) := by decide +kernel
theorem dX3_howMany_71 : decode cX3_howMany 71 = .ok (.ireturn, 1) := by decide +kernel
theorem dX3_howMany_72 : decode cX3_howMany 72 = .ok (.aload_n 0, 1) := by decide +kernel
theorem dX3_howMany_73 : decode cX3_howMany 73 = .ok (.getfield 10, 3) := by decide +kernel
theorem dX3_howMany_76 : decode cX3_howMany 76 = .ok (.getfield 198, 3) := by decide +kernel
theorem dX3_howMany_79 : decode cX3_howMany 79 = .ok (.ireturn, 1) := by decide +kernel
theorem dX3_howMany_80 : decode cX3_howMany 80 = .ok (.aload_n 0, 1) := by decide +kernel
theorem dX3_howMany_81 : decode cX3_howMany 81 = .ok (.getfield 10, 3) := by decide +kernel
theorem dX3_howMany_84 : decode cX3_howMany 84 = .ok (.getfield 134, 3) := by decide +kernel
theorem dX3_howMany_87 : decode cX3_howMany 87 = .ok (.ireturn, 1) := by decide +kernel
theorem dX3_howMany_88 : decode cX3_howMany 88 = .ok (.aload_n 0, 1) := by decide +kernel
theorem dX3_howMany_89 : decode cX3_howMany 89 = .ok (.getfield 35, 3) := by decide +kernel
theorem dX3_howMany_92 : decode cX3_howMany 92 = .ok (.getfield 90, 3) := by decide +kernel
theorem dX3_howMany_95 : decode cX3_howMany 95 = .ok (.ireturn, 1) := by decide +kernel
theorem dX3_findBest_0 : decode cX3_findBest 0 = .ok (.iconst 1, 1) := by decide +kernel
theorem dX3_findBest_1 : decode cX3_findBest 1 = .ok (.aload_n 0, 1) := by decide +kernel
theorem dX3_findBest_2 : decode cX3_findBest 2 = .ok (.getfield 10, 3) := by decide +kernel
theorem dX3_findBest_5 : decode cX3_findBest 5 = .ok (.getfield 63, 3) := by decide +kernel
theorem dX3_findBest_8 : decode cX3_findBest 8 = .ok (.ishl, 1) := by decide +kernel
theorem dX3_findBest_9 : decode cX3_findBest 9 = .ok (.iconst 1, 1) := by decide +kernel
theorem dX3_findBest_10 : decode cX3_findBest 10 = .ok (.isub, 1) := by decide +kernel
theorem dX3_findBest_11 : decode cX3_findBest 11 = .ok (.istore_n 1, 1) := by decide +kernel
theorem dX3_findBest_12 : decode cX3_findBest 12 = .ok (.aload_n 0, 1) := by decide +kernel
theorem dX3_findBest_13 : decode cX3_findBest 13 = .ok (.getfield 39, 3) := by decide +kernel
theorem dX3_findBest_16 : decode cX3_findBest 16 = .ok (.iload_n 1, 1) := by decide +kernel
theorem dX3_findBest_17 : decode cX3_findBest 17 = .ok (.iconst 0, 1) := by decide +kernel
theorem dX3_findBest_18 : decode cX3_findBest 18 = .ok (.iastore, 1) := by decide +kernel
theorem dX3_findBest_19 : decode cX3_findBest 19 = .ok (.iload_n 1, 1) := by decide +kernel
theorem dX3_findBest_20 : decode cX3_findBest 20 = .ok (.iconst 1, 1) := by decide +kernel
theorem dX3_findBest_21 : decode cX3_findBest 21 = .ok (.isub, 1) := by decide +kernel
theorem dX3_findBest_22 : decode cX3_findBest 22 = .ok (.istore_n 2, 1) := by decide +kernel
theorem dX3_findBest_23 : decode cX3_findBest 23 = .ok (.iload_n 2, 1) := by decide +kernel
theorem dX3_findBest_24 : decode cX3_findBest 24 = .ok (.ifCond .lt 98, 3) := by decide +kernel
theorem dX3_findBest_27 : decode cX3_findBest 27 = .ok (.iload_n 2, 1) := by decide +kernel
theorem dX3_findBest_28 : decode cX3_findBest 28 = .ok (.invokestatic 250, 3) := by decide +kernel
theorem dX3_findBest_31 : decode cX3_findBest 31 = .ok (.istore_n 3, 1) := by decide +kernel
theorem dX3_findBest_32 : decode cX3_findBest 32 = .ok (.iconst (-1), 1) := by decide +kernel
theorem dX3_findBest_33 : decode cX3_findBest 33 = .ok (.istore 4, 2) := by decide +kernel
theorem dX3_findBest_35 : decode cX3_findBest 35 = .ok (.iconst 0, 1) := by decide +kernel
theorem dX3_findBest_36 : decode cX3_findBest 36 = .ok (.istore 5, 2) := by decide +kernel
theorem dX3_findBest_38 : decode cX3_findBest 38 = .ok (.iload 5, 2) := by decide +kernel
theorem dX3_findBest_40 : decode cX3_findBest 40 = .ok (.aload_n 0, 1) := by decide +kernel
theorem dX3_findBest_41 : decode cX3_findBest 41 = .ok (.getfield 10, 3) := by decide +kernel
theorem dX3_findBest_44 : decode cX3_findBest 44 = .ok (.getfield 63, 3) := by decide +kernel
theorem dX3_findBest_47 : decode cX3_findBest 47 = .ok (.if_icmp .ge 61, 3) := by decide +kernel
theorem dX3_findBest_50 : decode cX3_findBest 50 = .ok (.iload_n 2, 1) := by decide +kernel
theorem dX3_findBest_51 : decode cX3_findBest 51 = .ok (.iload 5, 2) := by decide +kernel
theorem dX3_findBest_53 : decode cX3_findBest 53 = .ok (.ishr, 1) := by decide +kernel
theorem dX3_findBest_54 : decode cX3_findBest 54 = .ok (.iconst 1, 1) := by decide +kernel
theorem dX3_findBest_55 : decode cX3_findBest 55 = .ok (.iand, 1) := by decide +kernel
theorem dX3_findBest_56 : decode cX3_findBest 56 = .ok (.ifCond .ne 46, 3) := by decide +kernel
theorem dX3_findBest_59 : decode cX3_findBest 59 = .ok (.aload_n 0, 1) := by decide +kernel
theorem dX3_findBest_60 : decode cX3_findBest 60 = .ok (.getfield 10, 3) := by decide +kernel
theorem dX3_findBest_63 : decode cX3_findBest 63 = .ok (.iload_n 3, 1) := by decide +kernel
theorem dX3_findBest_64 : decode cX3_findBest 64 = .ok (.iload 5, 2) := by decide +kernel
theorem dX3_findBest_66 : decode cX3_findBest 66 = .ok (.invokevirtual 164, 3) := by decide +kernel
theorem dX3_findBest_69 : decode cX3_findBest 69 = .ok (.aload_n 0, 1) := by decide +kernel
theorem dX3_findBest_70 : decode cX3_findBest 70 = .ok (.getfield 39, 3) := by decide +kernel
theorem dX3_findBest_73 : decode cX3_findBest 73 = .ok (.iload_n 2, 1) := by decide +kernel
theorem dX3_findBest_74 : decode cX3_findBest 74 = .ok (.iconst 1, 1) := by decide +kernel
theorem dX3_findBest_75 : decode cX3_findBest 75 = .ok (.iload 5, 2) := by decide +kernel
theorem dX3_findBest_77 : decode cX3_findBest 77 = .ok (.ishl, 1) := by decide +kernel
theorem dX3_findBest_78 : decode cX3_findBest 78 = .ok (.ior, 1) := by decide +kernel
theorem dX3_findBest_79 : decode cX3_findBest 79 = .ok (.iaload, 1) := by decide +kernel
theorem dX3_findBest_80 : decode cX3_findBest 80 = .ok (.iadd, 1) := by decide +kernel
theorem dX3_findBest_81 : decode cX3_findBest 81 = .ok (.istore 6, 2) := by decide +kernel
theorem dX3_findBest_83 : decode cX3_findBest 83 = .ok (.iload 6, 2) := by decide +kernel
theorem dX3_findBest_85 : decode cX3_findBest 85 = .ok (.iload 4, 2) := by decide +kernel
theorem dX3_findBest_87 : decode cX3_findBest 87 = .ok (.if_icmp .le 15, 3) := by decide +kernel
theorem dX3_findBest_90 : decode cX3_findBest 90 = .ok (.iload 6, 2) := by decide +kernel
theorem dX3_findBest_92 : decode cX3_findBest 92 = .ok (.istore 4, 2) := by decide +kernel
theorem dX3_findBest_94 : decode cX3_findBest 94 = .ok (.aload_n 0, 1) := by decide +kernel
theorem dX3_findBest_95 : decode cX3_findBest 95 = .ok (.getfield 43, 3) := by decide +kernel
theorem dX3_findBest_98 : decode cX3_findBest 98 = .ok (.iload_n 2, 1) := by decide +kernel
theorem dX3_findBest_99 : decode cX3_findBest 99 = .ok (.iload 5, 2) := by decide +kernel
theorem dX3_findBest_101 : decode cX3_findBest 101 = .ok (.iastore, 1) := by decide +kernel
theorem dX3_findBest_102 : decode cX3_findBest 102 = .ok (.iinc 5 1, 3) := by decide +kernel
theorem dX3_findBest_105 : decode cX3_findBest 105 = .ok (.goto (-67), 3) := by decide +kernel
theorem dX3_findBest_108 : decode cX3_findBest 108 = .ok (.aload_n 0, 1) := by decide +kernel
theorem dX3_findBest_109 : decode cX3_findBest 109 = .ok (.getfield 39, 3) := by decide +kernel
theorem dX3_findBest_112 : decode cX3_findBest 112 = .ok (.iload_n 2, 1) := by decide +kernel
theorem dX3_findBest_113 : decode cX3_findBest 113 = .ok (.iload 4, 2) := by decide +kernel
theorem dX3_findBest_115 : decode cX3_findBest 115 = .ok (.iastore, 1) := by decide +kernel
theorem dX3_findBest_116 : decode cX3_findBest 116 = .ok (.iinc 2 (-1), 3) := by decide +kernel
theorem dX3_findBest_119 : decode cX3_findBest 119 = .ok (.goto (-96), 3) := by decide +kernel
theorem dX3_findBest_122 : decode cX3_findBest 122 = .ok (.return_, 1) := by decide +kernel
theorem dX3_bestVoiceOf_0 : decode cX3_bestVoiceOf 0 = .ok (.iconst 0, 1) := by decide +kernel
theorem dX3_bestVoiceOf_1 : decode cX3_bestVoiceOf 1 = .ok (.istore_n 2, 1) := by decide +kernel
theorem dX3_bestVoiceOf_2 : decode cX3_bestVoiceOf 2 = .ok (.iconst 0, 1) := by decide +kernel
theorem dX3_bestVoiceOf_3 : decode cX3_bestVoiceOf 3 = .ok (.istore_n 3, 1) := by decide +kernel
theorem dX3_bestVoiceOf_4 : decode cX3_bestVoiceOf 4 = .ok (.iload_n 3, 1) := by decide +kernel
theorem dX3_bestVoiceOf_5 : decode cX3_bestVoiceOf 5 = .ok (.iload_n 1, 1) := by decide +kernel
theorem dX3_bestVoiceOf_6 : decode cX3_bestVoiceOf 6 = .ok (.if_icmp .ge 20, 3) := by decide +kernel
theorem dX3_bestVoiceOf_9 : decode cX3_bestVoiceOf 9 = .ok (.iload_n 2, 1) := by decide +kernel
theorem dX3_bestVoiceOf_10 : decode cX3_bestVoiceOf 10 = .ok (.iconst 1, 1) := by decide +kernel
theorem dX3_bestVoiceOf_11 : decode cX3_bestVoiceOf 11 = .ok (.aload_n 0, 1) := by decide +kernel
theorem dX3_bestVoiceOf_12 : decode cX3_bestVoiceOf 12 = .ok (.getfield 43, 3) := by decide +kernel
theorem dX3_bestVoiceOf_15 : decode cX3_bestVoiceOf 15 = .ok (.iload_n 2, 1) := by decide +kernel
theorem dX3_bestVoiceOf_16 : decode cX3_bestVoiceOf 16 = .ok (.iaload, 1) := by decide +kernel
theorem dX3_bestVoiceOf_17 : decode cX3_bestVoiceOf 17 = .ok (.ishl, 1) := by decide +kernel
theorem dX3_bestVoiceOf_18 : decode cX3_bestVoiceOf 18 = .ok (.ior, 1) := by decide +kernel
theorem dX3_bestVoiceOf_19 : decode cX3_bestVoiceOf 19 = .ok (.istore_n 2, 1) := by decide +kernel
theorem dX3_bestVoiceOf_20 : decode cX3_bestVoiceOf 20 = .ok (.iinc 3 1, 3) := by decide +kernel
theorem dX3_bestVoiceOf_23 : decode cX3_bestVoiceOf 23 = .ok (.goto (-19), 3) := by decide +kernel
theorem dX3_bestVoiceOf_26 : decode cX3_bestVoiceOf 26 = .ok (.aload_n 0, 1) := by decide +kernel
theorem dX3_bestVoiceOf_27 : decode cX3_bestVoiceOf 27 = .ok (.getfield 43, 3) := by decide +kernel
theorem dX3_bestVoiceOf_30 : decode cX3_bestVoiceOf 30 = .ok (.iload_n 2, 1) := by decide +kernel
theorem dX3_bestVoiceOf_31 : decode cX3_bestVoiceOf 31 = .ok (.iaload, 1) := by decide +kernel
theorem dX3_bestVoiceOf_32 : decode cX3_bestVoiceOf 32 = .ok (.ireturn, 1) := by decide +kernel
theorem dX3_isContent_0 : decode cX3_isContent 0 = .ok (.iload_n 1, 1) := by decide +kernel
theorem dX3_isContent_1 : decode cX3_isContent 1 = .ok (.iconst 1, 1) := by decide +kernel
theorem dX3_isContent_2 : decode cX3_isContent 2 = .ok (.isub, 1) := by decide +kernel
theorem dX3_isContent_3 : decode cX3_isContent 3 = .ok (.istore_n 3, 1) := by decide +kernel
theorem dX3_isContent_4 : decode cX3_isContent 4 = .ok (.iload_n 0, 1) := by decide +kernel
theorem dX3_isContent_5 : decode cX3_isContent 5 = .ok (.ifCond .eq 16, 3) := by decide +kernel
theorem dX3_isContent_8 : decode cX3_isContent 8 = .ok (.iload_n 3, 1) := by decide +kernel
theorem dX3_isContent_9 : decode cX3_isContent 9 = .ok (.iload_n 2, 1) := by decide +kernel
theorem dX3_isContent_10 : decode cX3_isContent 10 = .ok (.if_icmp .lt 7, 3) := by decide +kernel
theorem dX3_isContent_13 : decode cX3_isContent 13 = .ok (.iconst 1, 1) := by decide +kernel
theorem dX3_isContent_14 : decode cX3_isContent 14 = .ok (.goto 17, 3) := by decide +kernel
theorem dX3_isContent_17 : decode cX3_isContent 17 = .ok (.iconst 0, 1) := by decide +kernel
theorem dX3_isContent_18 : decode cX3_isContent 18 = .ok (.goto 13, 3) := by decide +kernel
theorem dX3_isContent_21 : decode cX3_isContent 21 = .ok (.iload_n 2, 1) := by decide +kernel
theorem dX3_isContent_22 : decode cX3_isContent 22 = .ok (.iload_n 3, 1) := by decide +kernel
theorem dX3_isContent_23 : decode cX3_isContent 23 = .ok (.if_icmp .lt 7, 3) := by decide +kernel
theorem dX3_isContent_26 : decode cX3_isContent 26 = .ok (.iconst 1, 1) := by decide +kernel
theorem dX3_isContent_27 : decode cX3_isContent 27 = .ok (.goto 4, 3) := by decide +kernel
theorem dX3_isContent_30 : decode cX3_isContent 30 = .ok (.iconst 0, 1) := by decide +kernel
theorem dX3_isContent_31 : decode cX3_isContent 31 = .ok (.ireturn, 1) := by decide +kernel
theorem dX3_power_0 : decode cX3_power 0 = .ok (.lconst 1, 1) := by decide +kernel
theorem dX3_power_1 : decode cX3_power 1 = .ok (.lstore_n 2, 1) := by decide +kernel
theorem dX3_power_2 : decode cX3_power 2 = .ok (.iconst 0, 1) := by decide +kernel
theorem dX3_power_3 : decode cX3_power 3 = .ok (.istore 4, 2) := by decide +kernel
theorem dX3_power_5 : decode cX3_power 5 = .ok (.iload 4, 2) := by decide +kernel
theorem dX3_power_7 : decode cX3_power 7 = .ok (.iload_n 1, 1) := by decide +kernel
theorem dX3_power_8 : decode cX3_power 8 = .ok (.if_icmp .ge 14, 3) := by decide +kernel
theorem dX3_power_11 : decode cX3_power 11 = .ok (.lload_n 2, 1) := by decide +kernel
theorem dX3_power_12 : decode cX3_power 12 = .ok (.iload_n 0, 1) := by decide +kernel
theorem dX3_power_13 : decode cX3_power 13 = .ok (.i2l, 1) := by decide +kernel
theorem dX3_power_14 : decode cX3_power 14 = .ok (.lmul, 1) := by decide +kernel
theorem dX3_power_15 : decode cX3_power 15 = .ok (.lstore_n 2, 1) := by decide +kernel
theorem dX3_power_16 : decode cX3_power 16 = .ok (.iinc 4 1, 3) := by decide +kernel
theorem dX3_power_19 : decode cX3_power 19 = .ok (.goto (-14), 3) := by decide +kernel
theorem dX3_power_22 : decode cX3_power 22 = .ok (.lload_n 2, 1) := by decide +kernel
theorem dX3_power_23 : decode cX3_power 23 = .ok (.lreturn, 1) := by decide +kernel
theorem dX3_setFraction_0 : decode cX3_setFraction 0 = .ok (.lload_n 1, 1) := by decide +kernel
theorem dX3_setFraction_1 : decode cX3_setFraction 1 = .ok (.lload_n 3, 1) := by decide +kernel
theorem dX3_setFraction_2 : decode cX3_setFraction 2 = .ok (.invokestatic 255, 3) := by decide +kernel
theorem dX3_setFraction_5 : decode cX3_setFraction 5 = .ok (.lstore 5, 2) := by decide +kernel
theorem dX3_setFraction_7 : decode cX3_setFraction 7 = .ok (.lload 5, 2) := by decide +kernel
theorem dX3_setFraction_9 : decode cX3_setFraction 9 = .ok (.lconst 0, 1) := by decide +kernel
theorem dX3_setFraction_10 : decode cX3_setFraction 10 = .ok (.lcmp, 1) := by decide +kernel
theorem dX3_setFraction_11 : decode cX3_setFraction 11 = .ok (.ifCond .le 19, 3) := by decide +kernel
theorem dX3_setFraction_14 : decode cX3_setFraction 14 = .ok (.aload_n 0, 1) := by decide +kernel
theorem dX3_setFraction_15 : decode cX3_setFraction 15 = .ok (.lload_n 1, 1) := by decide +kernel
theorem dX3_setFraction_16 : decode cX3_setFraction 16 = .ok (.lload 5, 2) := by decide +kernel
theorem dX3_setFraction_18 : decode cX3_setFraction 18 = .ok (.ldiv, 1) := by decide +kernel
theorem dX3_setFraction_19 : decode cX3_setFraction 19 = .ok (.putfield 46, 3) := by decide +kernel
theorem dX3_setFraction_22 : decode cX3_setFraction 22 = .ok (.aload_n 0, 1) := by decide +kernel
theorem dX3_setFraction_23 : decode cX3_setFraction 23 = .ok (.lload_n 3, 1) := by decide +kernel
theorem dX3_setFraction_24 : decode cX3_setFraction 24 = .ok (.lload 5, 2) := by decide +kernel
theorem dX3_setFraction_26 : decode cX3_setFraction 26 = .ok (.ldiv, 1) := by decide +kernel
theorem dX3_setFraction_27 : decode cX3_setFraction 27 = .ok (.putfield 50, 3) := by decide +kernel
theorem dX3_setFraction_30 : decode cX3_setFraction 30 = .ok (.return_, 1) := by decide +kernel
theorem dX3_greatestCommonDivisor_0 : decode cX3_greatestCommonDivisor 0 = .ok (.iconst 0, 1) := by decide +kernel
theorem dX3_greatestCommonDivisor_1 : decode cX3_greatestCommonDivisor 1 = .ok (.istore 4, 2) := by decide +kernel
theorem dX3_greatestCommonDivisor_3 : decode cX3_greatestCommonDivisor 3 = .ok (.iload 4, 2) := by decide +kernel
theorem dX3_greatestCommonDivisor_5 : decode cX3_greatestCommonDivisor 5 = .ok (.bipush 100, 2) := by decide +kernel
theorem dX3_greatestCommonDivisor_7 : decode cX3_greatestCommonDivisor 7 = .ok (.if_icmp .ge 25, 3) := by decide +kernel
theorem dX3_greatestCommonDivisor_10 : decode cX3_greatestCommonDivisor 10 = .ok (.lload_n 2, 1) := by decide +kernel
theorem dX3_greatestCommonDivisor_11 : decode cX3_greatestCommonDivisor 11 = .ok (.lconst 0, 1) := by decide +kernel
theorem dX3_greatestCommonDivisor_12 : decode cX3_greatestCommonDivisor 12 = .ok (.lcmp, 1) := by decide +kernel
theorem dX3_greatestCommonDivisor_13 : decode cX3_greatestCommonDivisor 13 = .ok (.ifCond .eq 19, 3) := by decide +kernel
theorem dX3_greatestCommonDivisor_16 : decode cX3_greatestCommonDivisor 16 = .ok (.lload_n 0, 1) := by decide +kernel
theorem dX3_greatestCommonDivisor_17 : decode cX3_greatestCommonDivisor 17 = .ok (.lload_n 2, 1) := by decide +kernel
theorem dX3_greatestCommonDivisor_18 : decode cX3_greatestCommonDivisor 18 = .ok (.lrem, 1) := by decide +kernel
theorem dX3_greatestCommonDivisor_19 : decode cX3_greatestCommonDivisor 19 = .ok (.lstore 5, 2) := by decide +kernel
theorem dX3_greatestCommonDivisor_21 : decode cX3_greatestCommonDivisor 21 = .ok (.lload_n 2, 1) := by decide +kernel
theorem dX3_greatestCommonDivisor_22 : decode cX3_greatestCommonDivisor 22 = .ok (.lstore_n 0, 1) := by decide +kernel
theorem dX3_greatestCommonDivisor_23 : decode cX3_greatestCommonDivisor 23 = .ok (.lload 5, 2) := by decide +kernel
theorem dX3_greatestCommonDivisor_25 : decode cX3_greatestCommonDivisor 25 = .ok (.lstore_n 2, 1) := by decide +kernel
theorem dX3_greatestCommonDivisor_26 : decode cX3_greatestCommonDivisor 26 = .ok (.iinc 4 1, 3) := by decide +kernel
theorem dX3_greatestCommonDivisor_29 : decode cX3_greatestCommonDivisor 29 = .ok (.goto (-26), 3) := by decide +kernel
theorem dX3_greatestCommonDivisor_32 : decode cX3_greatestCommonDivisor 32 = .ok (.lload_n 0, 1) := by decide +kernel
theorem dX3_greatestCommonDivisor_33 : decode cX3_greatestCommonDivisor 33 = .ok (.lreturn, 1) := by decide +kernel
theorem dX3_nextOfSeed_0 : decode cX3_nextOfSeed 0 = .ok (.lload_n 0, 1) := by decide +kernel
theorem dX3_nextOfSeed_1 : decode cX3_nextOfSeed 1 = .ok (.ldc2_w 259, 3) := by decide +kernel
theorem dX3_nextOfSeed_4 : decode cX3_nextOfSeed 4 = .ok (.lmul, 1) := by decide +kernel
theorem dX3_nextOfSeed_5 : decode cX3_nextOfSeed 5 = .ok (.ldc2_w 261, 3) := by decide +kernel
theorem dX3_nextOfSeed_8 : decode cX3_nextOfSeed 8 = .ok (.ladd, 1) := by decide +kernel
theorem dX3_nextOfSeed_9 : decode cX3_nextOfSeed 9 = .ok (.ldc2_w 263, 3) := by decide +kernel
theorem dX3_nextOfSeed_12 : decode cX3_nextOfSeed 12 = .ok (.lrem, 1) := by decide +kernel
theorem dX3_nextOfSeed_13 : decode cX3_nextOfSeed 13 = .ok (.lreturn, 1) := by decide +kernel
theorem dX4_bad_0 : decode cX4_bad 0 = .ok (.aload_n 0, 1) := by decide +kernel
theorem dX4_bad_1 : decode cX4_bad 1 = .ok (.getfield 1, 3) := by decide +kernel
theorem dX4_bad_4 : decode cX4_bad 4 = .ok (.iconst 0, 1) := by decide +kernel
theorem dX4_bad_5 : decode cX4_bad 5 = .ok (.dup2, 1) := by decide +kernel
theorem dX4_bad_6 : decode cX4_bad 6 = .ok (.iaload, 1) := by decide +kernel
theorem dX4_bad_7 : decode cX4_bad 7 = .ok (.iconst 1, 1) := by decide +kernel
theorem dX4_bad_8 : decode cX4_bad 8 = .ok (.iadd, 1) := by decide +kernel
theorem dX4_bad_9 : decode cX4_bad 9 = .ok (.iastore, 1) := by decide +kernel
theorem dX4_bad_10 : decode cX4_bad 10 = .ok (.bipush (-2), 2) := by decide +kernel
theorem dX4_bad_12 : decode cX4_bad 12 = .ok (.ireturn, 1) := by decide +kernel
theorem dX4_ten_0 : decode cX4_ten 0 = .ok (.aload_n 0, 1) := by decide +kernel
theorem dX4_ten_1 : decode cX4_ten 1 = .ok (.getfield 1, 3) := by decide +kernel
theorem dX4_ten_4 : decode cX4_ten 4 = .ok (.iconst 0, 1) := by decide +kernel
theorem dX4_ten_5 : decode cX4_ten 5 = .ok (.dup2, 1) := by decide +kernel
theorem dX4_ten_6 : decode cX4_ten 6 = .ok (.iaload, 1) := by decide +kernel
theorem dX4_ten_7 : decode cX4_ten 7 = .ok (.iconst 1, 1) := by decide +kernel
theorem dX4_ten_8 : decode cX4_ten 8 = .ok (.iadd, 1) := by decide +kernel
theorem dX4_ten_9 : decode cX4_ten 9 = .ok (.iastore, 1) := by decide +kernel
theorem dX4_ten_10 : decode cX4_ten 10 = .ok (.bipush (-10), 2) := by decide +kernel
theorem dX4_ten_12 : decode cX4_ten 12 = .ok (.ireturn, 1) := by decide +kernel
theorem dX4_no_0 : decode cX4_no 0 = .ok (.aload_n 0, 1) := by decide +kernel
theorem dX4_no_1 : decode cX4_no 1 = .ok (.getfield 1, 3) := by decide +kernel
theorem dX4_no_4 : decode cX4_no 4 = .ok (.iconst 1, 1) := by decide +kernel
theorem dX4_no_5 : decode cX4_no 5 = .ok (.dup2, 1) := by decide +kernel
theorem dX4_no_6 : decode cX4_no 6 = .ok (.iaload, 1) := by decide +kernel
theorem dX4_no_7 : decode cX4_no 7 = .ok (.iconst 1, 1) := by decide +kernel
theorem dX4_no_8 : decode cX4_no 8 = .ok (.iadd, 1) := by decide +kernel
theorem dX4_no_9 : decode cX4_no 9 = .ok (.iastore, 1) := by decide +kernel
theorem dX4_no_10 : decode cX4_no 10 = .ok (.bipush (-3), 2) := by decide +kernel
theorem dX4_no_12 : decode cX4_no 12 = .ok (.ireturn, 1) := by decide +kernel
theorem dX4_full_0 : decode cX4_full 0 = .ok (.aload_n 0, 1) := by decide +kernel
theorem dX4_full_1 : decode cX4_full 1 = .ok (.getfield 1, 3) := by decide +kernel
theorem dX4_full_4 : decode cX4_full 4 = .ok (.iconst 2, 1) := by decide +kernel
theorem dX4_full_5 : decode cX4_full 5 = .ok (.dup2, 1) := by decide +kernel
theorem dX4_full_6 : decode cX4_full 6 = .ok (.iaload, 1) := by decide +kernel
theorem dX4_full_7 : decode cX4_full 7 = .ok (.iconst 1, 1) := by decide +kernel
theorem dX4_full_8 : decode cX4_full 8 = .ok (.iadd, 1) := by decide +kernel
theorem dX4_full_9 : decode cX4_full 9 = .ok (.iastore, 1) := by decide +kernel
theorem dX4_full_10 : decode cX4_full 10 = .ok (.bipush (-4), 2) := by decide +kernel
theorem dX4_full_12 : decode cX4_full 12 = .ok (.ireturn, 1) := by decide +kernel
theorem dX4_in_0 : decode cX4_in 0 = .ok (.iload_n 0, 1) := by decide +kernel
theorem dX4_in_1 : decode cX4_in 1 = .ok (.iload_n 1, 1) := by decide +kernel
theorem dX4_in_2 : decode cX4_in 2 = .ok (.if_icmp .lt 12, 3) := by decide +kernel
theorem dX4_in_5 : decode cX4_in 5 = .ok (.iload_n 0, 1) := by decide +kernel
theorem dX4_in_6 : decode cX4_in 6 = .ok (.iload_n 2, 1) := by decide +kernel
theorem dX4_in_7 : decode cX4_in 7 = .ok (.if_icmp .gt 7, 3) := by decide +kernel
theorem dX4_in_10 : decode cX4_in 10 = .ok (.iconst 1, 1) := by decide +kernel
theorem dX4_in_11 : decode cX4_in 11 = .ok (.goto 4, 3) := by decide +kernel
theorem dX4_in_14 : decode cX4_in 14 = .ok (.iconst 0, 1) := by decide +kernel
theorem dX4_in_15 : decode cX4_in 15 = .ok (.ireturn, 1) := by decide +kernel
theorem dX4_has_0 : decode cX4_has 0 = .ok (.iload_n 0, 1) := by decide +kernel
theorem dX4_has_1 : decode cX4_has 1 = .ok (.iload_n 1, 1) := by decide +kernel
theorem dX4_has_2 : decode cX4_has 2 = .ok (.ishr, 1) := by decide +kernel
theorem dX4_has_3 : decode cX4_has 3 = .ok (.iconst 1, 1) := by decide +kernel
theorem dX4_has_4 : decode cX4_has 4 = .ok (.iand, 1) := by decide +kernel
theorem dX4_has_5 : decode cX4_has 5 = .ok (.iconst 1, 1) := by decide +kernel
theorem dX4_has_6 : decode cX4_has 6 = .ok (.if_icmp .ne 7, 3) := by decide +kernel
theorem dX4_has_9 : decode cX4_has 9 = .ok (.iconst 1, 1) := by decide +kernel
theorem dX4_has_10 : decode cX4_has 10 = .ok (.goto 4, 3) := by decide +kernel
theorem dX4_has_13 : decode cX4_has 13 = .ok (.iconst 0, 1) := by decide +kernel
theorem dX4_has_14 : decode cX4_has 14 = .ok (.ireturn, 1) := by decide +kernel
theorem dX4_init_0 : decode cX4_init 0 = .ok (.aload_n 0, 1) := by decide +kernel
theorem dX4_init_1 : decode cX4_init 1 = .ok (.invokespecial 7, 3) := by decide +kernel
theorem dX4_init_4 : decode cX4_init 4 = .ok (.aload_n 0, 1) := by decide +kernel
theorem dX4_init_5 : decode cX4_init 5 = .ok (.iconst 3, 1) := by decide +kernel
theorem dX4_init_6 : decode cX4_init 6 = .ok (.newarray .int, 2) := by decide +kernel
theorem dX4_init_8 : decode cX4_init 8 = .ok (.putfield 1, 3) := by decide +kernel
theorem dX4_init_11 : decode cX4_init 11 = .ok (.aload_n 0, 1) := by decide +kernel
theorem dX4_init_12 : decode cX4_init 12 = .ok (.bipush 6, 2) := by decide +kernel
theorem dX4_init_14 : decode cX4_init 14 = .ok (.newarray .int, 2) := by decide +kernel
theorem dX4_init_16 : decode cX4_init 16 = .ok (.putfield 13, 3) := by decide +kernel
theorem dX4_init_19 : decode cX4_init 19 = .ok (.aload_n 0, 1) := by decide +kernel
theorem dX4_init_20 : decode cX4_init 20 = .ok (.bipush 6, 2) := by decide +kernel
theorem dX4_init_22 : decode cX4_init 22 = .ok (.newarray .int, 2) := by decide +kernel
theorem dX4_init_24 : decode cX4_init 24 = .ok (.putfield 16, 3) := by decide +kernel
theorem dX4_init_27 : decode cX4_init 27 = .ok (.aload_n 0, 1) := by decide +kernel
theorem dX4_init_28 : decode cX4_init 28 = .ok (.bipush 6, 2) := by decide +kernel
theorem dX4_init_30 : decode cX4_init 30 = .ok (.newarray .int, 2) := by decide +kernel
theorem dX4_init_32 : decode cX4_init 32 = .ok (.putfield 19, 3) := by decide +kernel
theorem dX4_init_35 : decode cX4_init 35 = .ok (.aload_n 0, 1) := by decide +kernel
theorem dX4_init_36 : decode cX4_init 36 = .ok (.bipush 6, 2) := by decide +kernel
theorem dX4_init_38 : decode cX4_init 38 = .ok (.newarray .int, 2) := by decide +kernel
theorem dX4_init_40 : decode cX4_init 40 = .ok (.putfield 22, 3) := by decide +kernel
theorem dX4_init_43 : decode cX4_init 43 = .ok (.aload_n 0, 1) := by decide +kernel
theorem dX4_init_44 : decode cX4_init 44 = .ok (.bipush 6, 2) := by decide +kernel
theorem dX4_init_46 : decode cX4_init 46 = .ok (.newarray .int, 2) := by decide +kernel
theorem dX4_init_48 : decode cX4_init 48 = .ok (.putfield 25, 3) := by decide +kernel
theorem dX4_init_51 : decode cX4_init 51 = .ok (.aload_n 0, 1) := by decide +kernel
theorem dX4_init_52 : decode cX4_init 52 = .ok (.bipush 6, 2) := by decide +kernel
theorem dX4_init_54 : decode cX4_init 54 = .ok (.newarray .int, 2) := by decide +kernel
theorem dX4_init_56 : decode cX4_init 56 = .ok (.putfield 28, 3) := by decide +kernel
theorem dX4_init_59 : decode cX4_init 59 = .ok (.aload_n 0, 1) := by decide +kernel
theorem dX4_init_60 : decode cX4_init 60 = .ok (.bipush 6, 2) := by decide +kernel
theorem dX4_init_62 : decode cX4_init 62 = .ok (.newarray .int, 2) := by decide +kernel
theorem dX4_init_64 : decode cX4_init 64 = .ok (.putfield 31, 3) := by decide +kernel
theorem dX4_init_67 : decode cX4_init 67 = .ok (.aload_n 0, 1) := by decide +kernel
theorem dX4_init_68 : decode cX4_init 68 = .ok (.bipush 6, 2) := by decide +kernel
theorem dX4_init_70 : decode cX4_init 70 = .ok (.newarray .int, 2) := by decide +kernel
theorem dX4_init_72 : decode cX4_init 72 = .ok (.putfield 34, 3) := by decide +kernel
theorem dX4_init_75 : decode cX4_init 75 = .ok (.aload_n 0, 1) := by decide +kernel
theorem dX4_init_76 : decode cX4_init 76 = .ok (.bipush 6, 2) := by decide +kernel
theorem dX4_init_78 : decode cX4_init 78 = .ok (.newarray .int, 2) := by decide +kernel
theorem dX4_init_80 : decode cX4_init 80 = .ok (.putfield 37, 3) := by decide +kernel
theorem dX4_init_83 : decode cX4_init 83 = .ok (.aload_n 0, 1) := by decide +kernel
theorem dX4_init_84 : decode cX4_init 84 = .ok (.bipush 6, 2) := by decide +kernel
theorem dX4_init_86 : decode cX4_init 86 = .ok (.newarray .int, 2) := by decide +kernel
theorem dX4_init_88 : decode cX4_init 88 = .ok (.putfield 40, 3) := by decide +kernel
theorem dX4_init_91 : decode cX4_init 91 = .ok (.aload_n 0, 1) := by decide +kernel
theorem dX4_init_92 : decode cX4_init 92 = .ok (.bipush 6, 2) := by decide +kernel
theorem dX4_init_94 : decode cX4_init 94 = .ok (.newarray .int, 2) := by decide +kernel
theorem dX4_init_96 : decode cX4_init 96 = .ok (.putfield 43, 3) := by decide +kernel
theorem dX4_init_99 : decode cX4_init 99 = .ok (.aload_n 0, 1) := by decide +kernel
theorem dX4_init_100 : decode cX4_init 100 = .ok (.sipush 150, 3) := by decide +kernel
theorem dX4_init_103 : decode cX4_init 103 = .ok (.newarray .int, 2) := by decide +kernel
theorem dX4_init_105 : decode cX4_init 105 = .ok (.putfield 46, 3) := by decide +kernel
theorem dX4_init_108 : decode cX4_init 108 = .ok (.aload_n 0, 1) := by decide +kernel
theorem dX4_init_109 : decode cX4_init 109 = .ok (.bipush 18, 2) := by decide +kernel
theorem dX4_init_111 : decode cX4_init 111 = .ok (.newarray .int, 2) := by decide +kernel
theorem dX4_init_113 : decode cX4_init 113 = .ok (.putfield 49, 3) := by decide +kernel
theorem dX4_init_116 : decode cX4_init 116 = .ok (.aload_n 0, 1) := by decide +kernel
theorem dX4_init_117 : decode cX4_init 117 = .ok (.bipush 6, 2) := by decide +kernel
theorem dX4_init_119 : decode cX4_init 119 = .ok (.newarray .int, 2) := by decide +kernel
theorem dX4_init_121 : decode cX4_init 121 = .ok (.putfield 52, 3) := by decide +kernel
theorem dX4_init_124 : decode cX4_init 124 = .ok (.aload_n 0, 1) := by decide +kernel
theorem dX4_init_125 : decode cX4_init 125 = .ok (.sipush 152, 3) := by decide +kernel
theorem dX4_init_128 : decode cX4_init 128 = .ok (.newarray .int, 2) := by decide +kernel
theorem dX4_init_130 : decode cX4_init 130 = .ok (.putfield 55, 3) := by decide +kernel
theorem dX4_init_133 : decode cX4_init 133 = .ok (.aload_n 0, 1) := by decide +kernel
theorem dX4_init_134 : decode cX4_init 134 = .ok (.bipush 19, 2) := by decide +kernel
theorem dX4_init_136 : decode cX4_init 136 = .ok (.newarray .int, 2) := by decide +kernel
theorem dX4_init_138 : decode cX4_init 138 = .ok (.putfield 58, 3) := by decide +kernel
theorem dX4_init_141 : decode cX4_init 141 = .ok (.aload_n 0, 1) := by decide +kernel
theorem dX4_init_142 : decode cX4_init 142 = .ok (.bipush 6, 2) := by decide +kernel
theorem dX4_init_144 : decode cX4_init 144 = .ok (.newarray .int, 2) := by decide +kernel
theorem dX4_init_146 : decode cX4_init 146 = .ok (.putfield 61, 3) := by decide +kernel
theorem dX4_init_149 : decode cX4_init 149 = .ok (.aload_n 0, 1) := by decide +kernel
theorem dX4_init_150 : decode cX4_init 150 = .ok (.bipush 6, 2) := by decide +kernel
theorem dX4_init_152 : decode cX4_init 152 = .ok (.newarray .int, 2) := by decide +kernel
theorem dX4_init_154 : decode cX4_init 154 = .ok (.putfield 64, 3) := by decide +kernel
theorem dX4_init_157 : decode cX4_init 157 = .ok (.aload_n 0, 1) := by decide +kernel
theorem dX4_init_158 : decode cX4_init 158 = .ok (.lconst 1, 1) := by decide +kernel
theorem dX4_init_159 : decode cX4_init 159 = .ok (.putfield 67, 3) := by decide +kernel
theorem dX4_init_162 : decode cX4_init 162 = .ok (.aload_n 0, 1) := by decide +kernel
theorem dX4_init_163 : decode cX4_init 163 = .ok (.sipush 460, 3) := by decide +kernel
theorem dX4_init_166 : decode cX4_init 166 = .ok (.newarray .int, 2) := by decide +kernel
theorem dX4_init_168 : decode cX4_init 168 = .ok (.putfield 71, 3) := by decide +kernel
theorem dX4_init_171 : decode cX4_init 171 = .ok (.aload_n 0, 1) := by decide +kernel
theorem dX4_init_172 : decode cX4_init 172 = .ok (.iconst 2, 1) := by decide +kernel
theorem dX4_init_173 : decode cX4_init 173 = .ok (.newarray .int, 2) := by decide +kernel
theorem dX4_init_175 : decode cX4_init 175 = .ok (.putfield 74, 3) := by decide +kernel
theorem dX4_init_178 : decode cX4_init 178 = .ok (.aload_n 0, 1) := by decide +kernel
theorem dX4_init_179 : decode cX4_init 179 = .ok (.invokevirtual 77, 3) := by decide +kernel
theorem dX4_init_182 : decode cX4_init 182 = .ok (.return_, 1) := by decide +kernel
theorem dX4_begin_0 : decode cX4_begin 0 = .ok (.aload_n 0, 1) := by decide +kernel
theorem dX4_begin_1 : decode cX4_begin 1 = .ok (.iconst 0, 1) := by decide +kernel
theorem dX4_begin_2 : decode cX4_begin 2 = .ok (.putfield 80, 3) := by decide +kernel
theorem dX4_begin_5 : decode cX4_begin 5 = .ok (.aload_n 0, 1) := by decide +kernel
theorem dX4_begin_6 : decode cX4_begin 6 = .ok (.iconst 0, 1) := by decide +kernel
theorem dX4_begin_7 : decode cX4_begin 7 = .ok (.putfield 84, 3) := by decide +kernel
theorem dX4_begin_10 : decode cX4_begin 10 = .ok (.aload_n 0, 1) := by decide +kernel
theorem dX4_begin_11 : decode cX4_begin 11 = .ok (.iconst 0, 1) := by decide +kernel
theorem dX4_begin_12 : decode cX4_begin 12 = .ok (.putfield 87, 3) := by decide +kernel
theorem dX4_begin_15 : decode cX4_begin 15 = .ok (.aload_n 0, 1) := by decide +kernel
theorem dX4_begin_16 : decode cX4_begin 16 = .ok (.iconst 0, 1) := by decide +kernel
theorem dX4_begin_17 : decode cX4_begin 17 = .ok (.putfield 90, 3) := by decide +kernel
theorem dX4_begin_20 : decode cX4_begin 20 = .ok (.return_, 1) := by decide +kernel
theorem dX4_isOne_0 : decode cX4_isOne 0 = .ok (.iload_n 1, 1) := by decide +kernel
theorem dX4_isOne_1 : decode cX4_isOne 1 = .ok (.iconst 0, 1) := by decide +kernel
theorem dX4_isOne_2 : decode cX4_isOne 2 = .ok (.aload_n 0, 1) := by decide +kernel
theorem dX4_isOne_3 : decode cX4_isOne 3 = .ok (.getfield 80, 3) := by decide +kernel
theorem dX4_isOne_6 : decode cX4_isOne 6 = .ok (.iconst 1, 1) := by decide +kernel
theorem dX4_isOne_7 : decode cX4_isOne 7 = .ok (.isub, 1) := by decide +kernel
theorem dX4_isOne_8 : decode cX4_isOne 8 = .ok (.invokestatic 93, 3) := by decide +kernel
theorem dX4_isOne_11 : decode cX4_isOne 11 = .ok (.ireturn, 1) := by decide +kernel
theorem dX4_counter_0 : decode cX4_counter 0 = .ok (.aload_n 0, 1) := by decide +kernel
theorem dX4_counter_1 : decode cX4_counter 1 = .ok (.getfield 80, 3) := by decide +kernel
theorem dX4_counter_4 : decode cX4_counter 4 = .ok (.istore_n 1, 1) := by decide +kernel
theorem dX4_counter_5 : decode cX4_counter 5 = .ok (.aload_n 0, 1) := by decide +kernel
theorem dX4_counter_6 : decode cX4_counter 6 = .ok (.invokevirtual 77, 3) := by decide +kernel
theorem dX4_counter_9 : decode cX4_counter 9 = .ok (.iload_n 1, 1) := by decide +kernel
theorem dX4_counter_10 : decode cX4_counter 10 = .ok (.ireturn, 1) := by decide +kernel
theorem dX4_addOne_0 : decode cX4_addOne 0 = .ok (.aload_n 0, 1) := by decide +kernel
theorem dX4_addOne_1 : decode cX4_addOne 1 = .ok (.getfield 13, 3) := by decide +kernel
theorem dX4_addOne_4 : decode cX4_addOne 4 = .ok (.aload_n 0, 1) := by decide +kernel
theorem dX4_addOne_5 : decode cX4_addOne 5 = .ok (.getfield 80, 3) := by decide +kernel
theorem dX4_addOne_8 : decode cX4_addOne 8 = .ok (.iload_n 1, 1) := by decide +kernel
theorem dX4_addOne_9 : decode cX4_addOne 9 = .ok (.iastore, 1) := by decide +kernel
theorem dX4_addOne_10 : decode cX4_addOne 10 = .ok (.aload_n 0, 1) := by decide +kernel
theorem dX4_addOne_11 : decode cX4_addOne 11 = .ok (.getfield 16, 3) := by decide +kernel
theorem dX4_addOne_14 : decode cX4_addOne 14 = .ok (.aload_n 0, 1) := by decide +kernel
theorem dX4_addOne_15 : decode cX4_addOne 15 = .ok (.getfield 80, 3) := by decide +kernel
theorem dX4_addOne_18 : decode cX4_addOne 18 = .ok (.iload_n 2, 1) := by decide +kernel
theorem dX4_addOne_19 : decode cX4_addOne 19 = .ok (.iastore, 1) := by decide +kernel
theorem dX4_addOne_20 : decode cX4_addOne 20 = .ok (.aload_n 0, 1) := by decide +kernel
theorem dX4_addOne_21 : decode cX4_addOne 21 = .ok (.getfield 19, 3) := by decide +kernel
theorem dX4_addOne_24 : decode cX4_addOne 24 = .ok (.aload_n 0, 1) := by decide +kernel
theorem dX4_addOne_25 : decode cX4_addOne 25 = .ok (.getfield 80, 3) := by decide +kernel
theorem dX4_addOne_28 : decode cX4_addOne 28 = .ok (.iload_n 3, 1) := by decide +kernel
theorem dX4_addOne_29 : decode cX4_addOne 29 = .ok (.iastore, 1) := by decide +kernel
theorem dX4_addOne_30 : decode cX4_addOne 30 = .ok (.aload_n 0, 1) := by decide +kernel
theorem dX4_addOne_31 : decode cX4_addOne 31 = .ok (.getfield 22, 3) := by decide +kernel
theorem dX4_addOne_34 : decode cX4_addOne 34 = .ok (.aload_n 0, 1) := by decide +kernel
theorem dX4_addOne_35 : decode cX4_addOne 35 = .ok (.getfield 80, 3) := by decide +kernel
theorem dX4_addOne_38 : decode cX4_addOne 38 = .ok (.aload_n 0, 1) := by decide +kernel
theorem dX4_addOne_39 : decode cX4_addOne 39 = .ok (.getfield 80, 3) := by decide +kernel
theorem dX4_addOne_42 : decode cX4_addOne 42 = .ok (.iastore, 1) := by decide +kernel
theorem dX4_addOne_43 : decode cX4_addOne 43 = .ok (.aload_n 0, 1) := by decide +kernel
theorem dX4_addOne_44 : decode cX4_addOne 44 = .ok (.getfield 25, 3) := by decide +kernel
theorem dX4_addOne_47 : decode cX4_addOne 47 = .ok (.aload_n 0, 1) := by decide +kernel
theorem dX4_addOne_48 : decode cX4_addOne 48 = .ok (.getfield 80, 3) := by decide +kernel
theorem dX4_addOne_51 : decode cX4_addOne 51 = .ok (.iconst 0, 1) := by decide +kernel
theorem dX4_addOne_52 : decode cX4_addOne 52 = .ok (.iastore, 1) := by decide +kernel
theorem dX4_addOne_53 : decode cX4_addOne 53 = .ok (.aload_n 0, 1) := by decide +kernel
theorem dX4_addOne_54 : decode cX4_addOne 54 = .ok (.getfield 28, 3) := by decide +kernel
theorem dX4_addOne_57 : decode cX4_addOne 57 = .ok (.aload_n 0, 1) := by decide +kernel
theorem dX4_addOne_58 : decode cX4_addOne 58 = .ok (.getfield 80, 3) := by decide +kernel
theorem dX4_addOne_61 : decode cX4_addOne 61 = .ok (.iconst 0, 1) := by decide +kernel
theorem dX4_addOne_62 : decode cX4_addOne 62 = .ok (.iastore, 1) := by decide +kernel
theorem dX4_addOne_63 : decode cX4_addOne 63 = .ok (.aload_n 0, 1) := by decide +kernel
theorem dX4_addOne_64 : decode cX4_addOne 64 = .ok (.dup, 1) := by decide +kernel
theorem dX4_addOne_65 : decode cX4_addOne 65 = .ok (.getfield 80, 3) := by decide +kernel
theorem dX4_addOne_68 : decode cX4_addOne 68 = .ok (.iconst 1, 1) := by decide +kernel
theorem dX4_addOne_69 : decode cX4_addOne 69 = .ok (.iadd, 1) := by decide +kernel
theorem dX4_addOne_70 : decode cX4_addOne 70 = .ok (.putfield 80, 3) := by decide +kernel
theorem dX4_addOne_73 : decode cX4_addOne 73 = .ok (.aload_n 0, 1) := by decide +kernel
theorem dX4_addOne_74 : decode cX4_addOne 74 = .ok (.iconst 0, 1) := by decide +kernel
theorem dX4_addOne_75 : decode cX4_addOne 75 = .ok (.putfield 90, 3) := by decide +kernel
theorem dX4_addOne_78 : decode cX4_addOne 78 = .ok (.aload_n 0, 1) := by decide +kernel
theorem dX4_addOne_79 : decode cX4_addOne 79 = .ok (.getfield 80, 3) := by decide +kernel
theorem dX4_addOne_82 : decode cX4_addOne 82 = .ok (.iconst 1, 1) := by decide +kernel
theorem dX4_addOne_83 : decode cX4_addOne 83 = .ok (.isub, 1) := by decide +kernel
theorem dX4_addOne_84 : decode cX4_addOne 84 = .ok (.ireturn, 1) := by decide +kernel
theorem dX4_one_0 : decode cX4_one 0 = .ok (.iload_n 1, 1) := by decide +kernel
theorem dX4_one_1 : decode cX4_one 1 = .ok (.iconst 0, 1) := by decide +kernel
theorem dX4_one_2 : decode cX4_one 2 = .ok (.iconst 5, 1) := by decide +kernel
theorem dX4_one_3 : decode cX4_one 3 = .ok (.invokestatic 93, 3) := by decide +kernel
theorem dX4_one_6 : decode cX4_one 6 = .ok (.ifCond .eq 23, 3) := by decide +kernel
theorem dX4_one_9 : decode cX4_one 9 = .ok (.iload_n 2, 1) := by decide +kernel
theorem dX4_one_10 : decode cX4_one 10 = .ok (.iconst 0, 1) := by decide +kernel
theorem dX4_one_11 : decode cX4_one 11 = .ok (.bipush 9, 2) := by decide +kernel
theorem dX4_one_13 : decode cX4_one 13 = .ok (.invokestatic 93, 3) := by decide +kernel
theorem dX4_one_16 : decode cX4_one 16 = .ok (.ifCond .eq 13, 3) := by decide +kernel
theorem dX4_one_19 : decode cX4_one 19 = .ok (.iload_n 3, 1) := by decide +kernel
theorem dX4_one_20 : decode cX4_one 20 = .ok (.iconst 0, 1) := by decide +kernel
theorem dX4_one_21 : decode cX4_one 21 = .ok (.bipush 9, 2) := by decide +kernel
theorem dX4_one_23 : decode cX4_one 23 = .ok (.invokestatic 93, 3) := by decide +kernel
theorem dX4_one_26 : decode cX4_one 26 = .ok (.ifCond .ne 8, 3) := by decide +kernel
theorem dX4_one_29 : decode cX4_one 29 = .ok (.aload_n 0, 1) := by decide +kernel
theorem dX4_one_30 : decode cX4_one 30 = .ok (.invokevirtual 97, 3) := by decide +kernel
theorem dX4_one_33 : decode cX4_one 33 = .ok (.ireturn, 1) := by decide +kernel
theorem dX4_one_34 : decode cX4_one 34 = .ok (.aload_n 0, 1) := by decide +kernel
theorem dX4_one_35 : decode cX4_one 35 = .ok (.getfield 80, 3) := by decide +kernel
theorem dX4_one_38 : decode cX4_one 38 = .ok (.bipush 6, 2) := by decide +kernel
theorem dX4_one_40 : decode cX4_one 40 = .ok (.if_icmp .ne 10, 3) := by decide +kernel
theorem dX4_one_43 : decode cX4_one 43 = .ok (.aload_n 0, 1) := by decide +kernel
theorem dX4_one_44 : decode cX4_one 44 = .ok (.invokevirtual 101, 3) := by decide +kernel
theorem dX4_one_47 : decode cX4_one 47 = .ok (.goto 10, 3) := by decide +kernel
theorem dX4_one_50 : decode cX4_one 50 = .ok (.aload_n 0, 1) := by decide +kernel
theorem dX4_one_51 : decode cX4_one 51 = .ok (.iload_n 1, 1) := by decide +kernel
theorem dX4_one_52 : decode cX4_one 52 = .ok (.iload_n 2, 1) := by decide +kernel
theorem dX4_one_53 : decode cX4_one 53 = .ok (.iload_n 3, 1) := by decide +kernel
theorem dX4_one_54 : decode cX4_one 54 = .ok (.invokevirtual 104, 3) := by decide +kernel
theorem dX4_one_57 : decode cX4_one 57 = .ok (.ireturn, 1) := by decide +kernel
theorem dX4_type_0 : decode cX4_type 0 = .ok (.iload_n 1, 1) := by decide +kernel
theorem dX4_type_1 : decode cX4_type 1 = .ok (.iconst 0, 1) := by decide +kernel
theorem dX4_type_2 : decode cX4_type 2 = .ok (.bipush 127, 2) := by decide +kernel
theorem dX4_type_4 : decode cX4_type 4 = .ok (.invokestatic 93, 3) := by decide +kernel
theorem dX4_type_7 : decode cX4_type 7 = .ok (.ifCond .ne 8, 3) := by decide +kernel
theorem dX4_type_10 : decode cX4_type 10 = .ok (.aload_n 0, 1) := by decide +kernel
theorem dX4_type_11 : decode cX4_type 11 = .ok (.invokevirtual 97, 3) := by decide +kernel
theorem dX4_type_14 : decode cX4_type 14 = .ok (.ireturn, 1) := by decide +kernel
theorem dX4_type_15 : decode cX4_type 15 = .ok (.aload_n 0, 1) := by decide +kernel
theorem dX4_type_16 : decode cX4_type 16 = .ok (.getfield 108, 3) := by decide +kernel
theorem dX4_type_19 : decode cX4_type 19 = .ok (.sipush 150, 3) := by decide +kernel
theorem dX4_type_22 : decode cX4_type 22 = .ok (.if_icmp .ne 8, 3) := by decide +kernel
theorem dX4_type_25 : decode cX4_type 25 = .ok (.aload_n 0, 1) := by decide +kernel
theorem dX4_type_26 : decode cX4_type 26 = .ok (.invokevirtual 101, 3) := by decide +kernel
theorem dX4_type_29 : decode cX4_type 29 = .ok (.ireturn, 1) := by decide +kernel
theorem dX4_type_30 : decode cX4_type 30 = .ok (.aload_n 0, 1) := by decide +kernel
theorem dX4_type_31 : decode cX4_type 31 = .ok (.getfield 46, 3) := by decide +kernel
theorem dX4_type_34 : decode cX4_type 34 = .ok (.aload_n 0, 1) := by decide +kernel
theorem dX4_type_35 : decode cX4_type 35 = .ok (.getfield 108, 3) := by decide +kernel
theorem dX4_type_38 : decode cX4_type 38 = .ok (.iload_n 1, 1) := by decide +kernel
theorem dX4_type_39 : decode cX4_type 39 = .ok (.iastore, 1) := by decide +kernel
theorem dX4_type_40 : decode cX4_type 40 = .ok (.aload_n 0, 1) := by decide +kernel
theorem dX4_type_41 : decode cX4_type 41 = .ok (.dup, 1) := by decide +kernel
theorem dX4_type_42 : decode cX4_type 42 = .ok (.getfield 108, 3) := by decide +kernel
theorem dX4_type_45 : decode cX4_type 45 = .ok (.iconst 1, 1) := by decide +kernel
theorem dX4_type_46 : decode cX4_type 46 = .ok (.iadd, 1) := by decide +kernel
theorem dX4_type_47 : decode cX4_type 47 = .ok (.putfield 108, 3) := by decide +kernel
theorem dX4_type_50 : decode cX4_type 50 = .ok (.aload_n 0, 1) := by decide +kernel
theorem dX4_type_51 : decode cX4_type 51 = .ok (.getfield 108, 3) := by decide +kernel
theorem dX4_type_54 : decode cX4_type 54 = .ok (.ireturn, 1) := by decide +kernel
theorem dX4_clear_0 : decode cX4_clear 0 = .ok (.aload_n 0, 1) := by decide +kernel
theorem dX4_clear_1 : decode cX4_clear 1 = .ok (.getfield 108, 3) := by decide +kernel
theorem dX4_clear_4 : decode cX4_clear 4 = .ok (.istore_n 1, 1) := by decide +kernel
theorem dX4_clear_5 : decode cX4_clear 5 = .ok (.aload_n 0, 1) := by decide +kernel
theorem dX4_clear_6 : decode cX4_clear 6 = .ok (.iconst 0, 1) := by decide +kernel
theorem dX4_clear_7 : decode cX4_clear 7 = .ok (.putfield 108, 3) := by decide +kernel
theorem dX4_clear_10 : decode cX4_clear 10 = .ok (.iload_n 1, 1) := by decide +kernel
theorem dX4_clear_11 : decode cX4_clear 11 = .ok (.ireturn, 1) := by decide +kernel
theorem dX4_here_0 : decode cX4_here 0 = .ok (.aload_n 0, 1) := by decide +kernel
theorem dX4_here_1 : decode cX4_here 1 = .ok (.getfield 111, 3) := by decide +kernel
theorem dX4_here_4 : decode cX4_here 4 = .ok (.aload_n 0, 1) := by decide +kernel
theorem dX4_here_5 : decode cX4_here 5 = .ok (.getfield 108, 3) := by decide +kernel
theorem dX4_here_8 : decode cX4_here 8 = .ok (.if_icmp .ge 15, 3) := by decide +kernel
theorem dX4_here_11 : decode cX4_here 11 = .ok (.aload_n 0, 1) := by decide +kernel
theorem dX4_here_12 : decode cX4_here 12 = .ok (.getfield 46, 3) := by decide +kernel
theorem dX4_here_15 : decode cX4_here 15 = .ok (.aload_n 0, 1) := by decide +kernel
theorem dX4_here_16 : decode cX4_here 16 = .ok (.getfield 111, 3) := by decide +kernel
theorem dX4_here_19 : decode cX4_here 19 = .ok (.iaload, 1) := by decide +kernel
theorem dX4_here_20 : decode cX4_here 20 = .ok (.goto 4, 3) := by decide +kernel
theorem dX4_here_23 : decode cX4_here 23 = .ok (.iconst (-1), 1) := by decide +kernel
theorem dX4_here_24 : decode cX4_here 24 = .ok (.ireturn, 1) := by decide +kernel
theorem dX4_skip_0 : decode cX4_skip 0 = .ok (.aload_n 0, 1) := by decide +kernel
theorem dX4_skip_1 : decode cX4_skip 1 = .ok (.invokevirtual 114, 3) := by decide +kernel
theorem dX4_skip_4 : decode cX4_skip 4 = .ok (.bipush 32, 2) := by decide +kernel
theorem dX4_skip_6 : decode cX4_skip 6 = .ok (.if_icmp .ne 16, 3) := by decide +kernel
theorem dX4_skip_9 : decode cX4_skip 9 = .ok (.aload_n 0, 1) := by decide +kernel
theorem dX4_skip_10 : decode cX4_skip 10 = .ok (.dup, 1) := by decide +kernel
theorem dX4_skip_11 : decode cX4_skip 11 = .ok (.getfield 111, 3) := by decide +kernel
theorem dX4_skip_14 : decode cX4_skip 14 = .ok (.iconst 1, 1) := by decide +kernel
theorem dX4_skip_15 : decode cX4_skip 15 = .ok (.iadd, 1) := by decide +kernel
theorem dX4_skip_16 : decode cX4_skip 16 = .ok (.putfield 111, 3) := by decide +kernel
theorem dX4_skip_19 : decode cX4_skip 19 = .ok (.goto (-19), 3) := by decide +kernel
theorem dX4_skip_22 : decode cX4_skip 22 = .ok (.return_, 1) := by decide +kernel
theorem dX4_isLetter_0 : decode cX4_isLetter 0 = .ok (.iload_n 0, 1) := by decide +kernel
theorem dX4_isLetter_1 : decode cX4_isLetter 1 = .ok (.bipush 97, 2) := by decide +kernel
theorem dX4_isLetter_3 : decode cX4_isLetter 3 = .ok (.bipush 122, 2) := by decide +kernel
theorem dX4_isLetter_5 : decode cX4_isLetter 5 = .ok (.invokestatic 93, 3) := by decide +kernel
theorem dX4_isLetter_8 : decode cX4_isLetter 8 = .ok (.ireturn, 1) := by decide +kernel
theorem dX4_isFigure_0 : decode cX4_isFigure 0 = .ok (.iload_n 0, 1) := by decide +kernel
theorem dX4_isFigure_1 : decode cX4_isFigure 1 = .ok (.bipush 48, 2) := by decide +kernel
theorem dX4_isFigure_3 : decode cX4_isFigure 3 = .ok (.bipush 57, 2) := by decide +kernel
theorem dX4_isFigure_5 : decode cX4_isFigure 5 = .ok (.invokestatic 93, 3) := by decide +kernel
theorem dX4_isFigure_8 : decode cX4_isFigure 8 = .ok (.ireturn, 1) := by decide +kernel
theorem dX4_wordSize_0 : decode cX4_wordSize 0 = .ok (.iconst 0, 1) := by decide +kernel
theorem dX4_wordSize_1 : decode cX4_wordSize 1 = .ok (.istore_n 1, 1) := by decide +kernel
theorem dX4_wordSize_2 : decode cX4_wordSize 2 = .ok (.aload_n 0, 1) := by decide +kernel
theorem dX4_wordSize_3 : decode cX4_wordSize 3 = .ok (.getfield 111, 3) := by decide +kernel
theorem dX4_wordSize_6 : decode cX4_wordSize 6 = .ok (.iload_n 1, 1) := by decide +kernel
theorem dX4_wordSize_7 : decode cX4_wordSize 7 = .ok (.iadd, 1) := by decide +kernel
theorem dX4_wordSize_8 : decode cX4_wordSize 8 = .ok (.aload_n 0, 1) := by decide +kernel
theorem dX4_wordSize_9 : decode cX4_wordSize 9 = .ok (.getfield 108, 3) := by decide +kernel
theorem dX4_wordSize_12 : decode cX4_wordSize 12 = .ok (.if_icmp .ge 26, 3) := by decide +kernel
theorem dX4_wordSize_15 : decode cX4_wordSize 15 = .ok (.aload_n 0, 1) := by decide +kernel
theorem dX4_wordSize_16 : decode cX4_wordSize 16 = .ok (.getfield 46, 3) := by decide +kernel
theorem dX4_wordSize_19 : decode cX4_wordSize 19 = .ok (.aload_n 0, 1) := by decide +kernel
theorem dX4_wordSize_20 : decode cX4_wordSize 20 = .ok (.getfield 111, 3) := by decide +kernel
theorem dX4_wordSize_23 : decode cX4_wordSize 23 = .ok (.iload_n 1, 1) := by decide +kernel
theorem dX4_wordSize_24 : decode cX4_wordSize 24 = .ok (.iadd, 1) := by decide +kernel
theorem dX4_wordSize_25 : decode cX4_wordSize 25 = .ok (.iaload, 1) := by decide +kernel
theorem dX4_wordSize_26 : decode cX4_wordSize 26 = .ok (.invokestatic 117, 3) := by decide +kernel
theorem dX4_wordSize_29 : decode cX4_wordSize 29 = .ok (.ifCond .eq 9, 3) := by decide +kernel
theorem dX4_wordSize_32 : decode cX4_wordSize 32 = .ok (.iinc 1 1, 3) := by decide +kernel
theorem dX4_wordSize_35 : decode cX4_wordSize 35 = .ok (.goto (-33), 3) := by decide +kernel
theorem dX4_wordSize_38 : decode cX4_wordSize 38 = .ok (.iload_n 1, 1) := by decide +kernel
theorem dX4_wordSize_39 : decode cX4_wordSize 39 = .ok (.ireturn, 1) := by decide +kernel
theorem dX4_letter_0 : decode cX4_letter 0 = .ok (.aload_n 0, 1) := by decide +kernel
theorem dX4_letter_1 : decode cX4_letter 1 = .ok (.getfield 46, 3) := by decide +kernel
theorem dX4_letter_4 : decode cX4_letter 4 = .ok (.aload_n 0, 1) := by decide +kernel
theorem dX4_letter_5 : decode cX4_letter 5 = .ok (.getfield 111, 3) := by decide +kernel
theorem dX4_letter_8 : decode cX4_letter 8 = .ok (.iload_n 1, 1) := by decide +kernel
theorem dX4_letter_9 : decode cX4_letter 9 = .ok (.iadd, 1) := by decide +kernel
theorem dX4_letter_10 : decode cX4_letter 10 = .ok (.iaload, 1) := by decide +kernel
theorem dX4_letter_11 : decode cX4_letter 11 = .ok (.ireturn, 1) := by decide +kernel
theorem dX4_spells_0 : decode cX4_spells 0 = .ok (.aload_n 0, 1) := by decide +kernel
theorem dX4_spells_1 : decode cX4_spells 1 = .ok (.iconst 0, 1) := by decide +kernel
theorem dX4_spells_2 : decode cX4_spells 2 = .ok (.invokevirtual 121, 3) := by decide +kernel
theorem dX4_spells_5 : decode cX4_spells 5 = .ok (.iload_n 1, 1) := by decide +kernel
theorem dX4_spells_6 : decode cX4_spells 6 = .ok (.if_icmp .ne 35, 3) := by decide +kernel
theorem dX4_spells_9 : decode cX4_spells 9 = .ok (.aload_n 0, 1) := by decide +kernel
theorem dX4_spells_10 : decode cX4_spells 10 = .ok (.iconst 1, 1) := by decide +kernel
theorem dX4_spells_11 : decode cX4_spells 11 = .ok (.invokevirtual 121, 3) := by decide +kernel
theorem dX4_spells_14 : decode cX4_spells 14 = .ok (.iload_n 2, 1) := by decide +kernel
theorem dX4_spells_15 : decode cX4_spells 15 = .ok (.if_icmp .ne 26, 3) := by decide +kernel
theorem dX4_spells_18 : decode cX4_spells 18 = .ok (.aload_n 0, 1) := by decide +kernel
theorem dX4_spells_19 : decode cX4_spells 19 = .ok (.iconst 2, 1) := by decide +kernel
theorem dX4_spells_20 : decode cX4_spells 20 = .ok (.invokevirtual 121, 3) := by decide +kernel
theorem dX4_spells_23 : decode cX4_spells 23 = .ok (.iload_n 3, 1) := by decide +kernel
theorem dX4_spells_24 : decode cX4_spells 24 = .ok (.if_icmp .ne 17, 3) := by decide +kernel
theorem dX4_spells_27 : decode cX4_spells 27 = .ok (.aload_n 0, 1) := by decide +kernel
theorem dX4_spells_28 : decode cX4_spells 28 = .ok (.iconst 3, 1) := by decide +kernel
theorem dX4_spells_29 : decode cX4_spells 29 = .ok (.invokevirtual 121, 3) := by decide +kernel
theorem dX4_spells_32 : decode cX4_spells 32 = .ok (.iload 4, 2) := by decide +kernel
theorem dX4_spells_34 : decode cX4_spells 34 = .ok (.if_icmp .ne 7, 3) := by decide +kernel
theorem dX4_spells_37 : decode cX4_spells 37 = .ok (.iconst 1, 1) := by decide +kernel
theorem dX4_spells_38 : decode cX4_spells 38 = .ok (.goto 4, 3) := by decide +kernel
theorem dX4_spells_41 : decode cX4_spells 41 = .ok (.iconst 0, 1) := by decide +kernel
theorem dX4_spells_42 : decode cX4_spells 42 = .ok (.ireturn, 1) := by decide +kernel
theorem dX4_wordHere_0 : decode cX4_wordHere 0 = .ok (.aload_n 0, 1) := by decide +kernel
theorem dX4_wordHere_1 : decode cX4_wordHere 1 = .ok (.invokevirtual 125, 3) := by decide +kernel
theorem dX4_wordHere_4 : decode cX4_wordHere 4 = .ok (.istore_n 1, 1) := by decide +kernel
theorem dX4_wordHere_5 : decode cX4_wordHere 5 = .ok (.iload_n 1, 1) := by decide +kernel
theorem dX4_wordHere_6 : decode cX4_wordHere 6 = .ok (.bipush 7, 2) := by decide +kernel
theorem dX4_wordHere_8 : decode cX4_wordHere 8 = .ok (.if_icmp .ne 51, 3) := by decide +kernel
theorem dX4_wordHere_11 : decode cX4_wordHere 11 = .ok (.aload_n 0, 1) := by decide +kernel
theorem dX4_wordHere_12 : decode cX4_wordHere 12 = .ok (.bipush 99, 2) := by decide +kernel
theorem dX4_wordHere_14 : decode cX4_wordHere 14 = .ok (.bipush 111, 2) := by decide +kernel
theorem dX4_wordHere_16 : decode cX4_wordHere 16 = .ok (.bipush 117, 2) := by decide +kernel
theorem dX4_wordHere_18 : decode cX4_wordHere 18 = .ok (.bipush 110, 2) := by decide +kernel
theorem dX4_wordHere_20 : decode cX4_wordHere 20 = .ok (.invokevirtual 128, 3) := by decide +kernel
theorem dX4_wordHere_23 : decode cX4_wordHere 23 = .ok (.ifCond .eq 36, 3) := by decide +kernel
theorem dX4_wordHere_26 : decode cX4_wordHere 26 = .ok (.aload_n 0, 1) := by decide +kernel
theorem dX4_wordHere_27 : decode cX4_wordHere 27 = .ok (.iconst 4, 1) := by decide +kernel
theorem dX4_wordHere_28 : decode cX4_wordHere 28 = .ok (.invokevirtual 121, 3) := by decide +kernel
theorem dX4_wordHere_31 : decode cX4_wordHere 31 = .ok (.bipush 116, 2) := by decide +kernel
theorem dX4_wordHere_33 : decode cX4_wordHere 33 = .ok (.if_icmp .ne 26, 3) := by decide +kernel
theorem dX4_wordHere_36 : decode cX4_wordHere 36 = .ok (.aload_n 0, 1) := by decide +kernel
theorem dX4_wordHere_37 : decode cX4_wordHere 37 = .ok (.iconst 5, 1) := by decide +kernel
theorem dX4_wordHere_38 : decode cX4_wordHere 38 = .ok (.invokevirtual 121, 3) := by decide +kernel
theorem dX4_wordHere_41 : decode cX4_wordHere 41 = .ok (.bipush 101, 2) := by decide +kernel
theorem dX4_wordHere_43 : decode cX4_wordHere 43 = .ok (.if_icmp .ne 16, 3) := by decide +kernel
theorem dX4_wordHere_46 : decode cX4_wordHere 46 = .ok (.aload_n 0, 1) := by decide +kernel
theorem dX4_wordHere_47 : decode cX4_wordHere 47 = .ok (.bipush 6, 2) := by decide +kernel
theorem dX4_wordHere_49 : decode cX4_wordHere 49 = .ok (.invokevirtual 121, 3) := by decide +kernel
theorem dX4_wordHere_52 : decode cX4_wordHere 52 = .ok (.bipush 114, 2) := by decide +kernel
theorem dX4_wordHere_54 : decode cX4_wordHere 54 = .ok (.if_icmp .ne 5, 3) := by decide +kernel
theorem dX4_wordHere_57 : decode cX4_wordHere 57 = .ok (.iconst 0, 1) := by decide +kernel
theorem dX4_wordHere_58 : decode cX4_wordHere 58 = .ok (.ireturn, 1) := by decide +kernel
theorem dX4_wordHere_59 : decode cX4_wordHere 59 = .ok (.iload_n 1, 1) := by decide +kernel
theorem dX4_wordHere_60 : decode cX4_wordHere 60 = .ok (.iconst 3, 1) := by decide +kernel
theorem dX4_wordHere_61 : decode cX4_wordHere 61 = .ok (.if_icmp .ne 35, 3) := by decide +kernel
theorem dX4_wordHere_64 : decode cX4_wordHere 64 = .ok (.aload_n 0, 1) := by decide +kernel
theorem dX4_wordHere_65 : decode cX4_wordHere 65 = .ok (.iconst 0, 1) := by decide +kernel
theorem dX4_wordHere_66 : decode cX4_wordHere 66 = .ok (.invokevirtual 121, 3) := by decide +kernel
theorem dX4_wordHere_69 : decode cX4_wordHere 69 = .ok (.bipush 111, 2) := by decide +kernel
theorem dX4_wordHere_71 : decode cX4_wordHere 71 = .ok (.if_icmp .ne 25, 3) := by decide +kernel
theorem dX4_wordHere_74 : decode cX4_wordHere 74 = .ok (.aload_n 0, 1) := by decide +kernel
theorem dX4_wordHere_75 : decode cX4_wordHere 75 = .ok (.iconst 1, 1) := by decide +kernel
theorem dX4_wordHere_76 : decode cX4_wordHere 76 = .ok (.invokevirtual 121, 3) := by decide +kernel
theorem dX4_wordHere_79 : decode cX4_wordHere 79 = .ok (.bipush 110, 2) := by decide +kernel
theorem dX4_wordHere_81 : decode cX4_wordHere 81 = .ok (.if_icmp .ne 15, 3) := by decide +kernel
theorem dX4_wordHere_84 : decode cX4_wordHere 84 = .ok (.aload_n 0, 1) := by decide +kernel
theorem dX4_wordHere_85 : decode cX4_wordHere 85 = .ok (.iconst 2, 1) := by decide +kernel
theorem dX4_wordHere_86 : decode cX4_wordHere 86 = .ok (.invokevirtual 121, 3) := by decide +kernel
theorem dX4_wordHere_89 : decode cX4_wordHere 89 = .ok (.bipush 101, 2) := by decide +kernel
theorem dX4_wordHere_91 : decode cX4_wordHere 91 = .ok (.if_icmp .ne 5, 3) := by decide +kernel
theorem dX4_wordHere_94 : decode cX4_wordHere 94 = .ok (.iconst 1, 1) := by decide +kernel
theorem dX4_wordHere_95 : decode cX4_wordHere 95 = .ok (.ireturn, 1) := by decide +kernel
theorem dX4_wordHere_96 : decode cX4_wordHere 96 = .ok (.iload_n 1, 1) := by decide +kernel
theorem dX4_wordHere_97 : decode cX4_wordHere 97 = .ok (.iconst 5, 1) := by decide +kernel
theorem dX4_wordHere_98 : decode cX4_wordHere 98 = .ok (.if_icmp .ne 30, 3) := by decide +kernel
theorem dX4_wordHere_101 : decode cX4_wordHere 101 = .ok (.aload_n 0, 1) := by decide +kernel
theorem dX4_wordHere_102 : decode cX4_wordHere 102 = .ok (.bipush 108, 2) := by decide +kernel
theorem dX4_wordHere_104 : decode cX4_wordHere 104 = .ok (.bipush 101, 2) := by decide +kernel
theorem dX4_wordHere_106 : decode cX4_wordHere 106 = .ok (.bipush 97, 2) := by decide +kernel
theorem dX4_wordHere_108 : decode cX4_wordHere 108 = .ok (.bipush 118, 2) := by decide +kernel
theorem dX4_wordHere_110 : decode cX4_wordHere 110 = .ok (.invokevirtual 128, 3) := by decide +kernel
theorem dX4_wordHere_113 : decode cX4_wordHere 113 = .ok (.ifCond .eq 15, 3) := by decide +kernel
theorem dX4_wordHere_116 : decode cX4_wordHere 116 = .ok (.aload_n 0, 1) := by decide +kernel
theorem dX4_wordHere_117 : decode cX4_wordHere 117 = .ok (.iconst 4, 1) := by decide +kernel
theorem dX4_wordHere_118 : decode cX4_wordHere 118 = .ok (.invokevirtual 121, 3) := by decide +kernel
theorem dX4_wordHere_121 : decode cX4_wordHere 121 = .ok (.bipush 101, 2) := by decide +kernel
theorem dX4_wordHere_123 : decode cX4_wordHere 123 = .ok (.if_icmp .ne 5, 3) := by decide +kernel
theorem dX4_wordHere_126 : decode cX4_wordHere 126 = .ok (.iconst 2, 1) := by decide +kernel
theorem dX4_wordHere_127 : decode cX4_wordHere 127 = .ok (.ireturn, 1) := by decide +kernel
theorem dX4_wordHere_128 : decode cX4_wordHere 128 = .ok (.iload_n 1, 1) := by decide +kernel
theorem dX4_wordHere_129 : decode cX4_wordHere 129 = .ok (.iconst 4, 1) := by decide +kernel
theorem dX4_wordHere_130 : decode cX4_wordHere 130 = .ok (.if_icmp .ne 22, 3) := by decide +kernel
theorem dX4_wordHere_133 : decode cX4_wordHere 133 = .ok (.aload_n 0, 1) := by decide +kernel
theorem dX4_wordHere_134 : decode cX4_wordHere 134 = .ok (.bipush 108, 2) := by decide +kernel
theorem dX4_wordHere_136 : decode cX4_wordHere 136 = .ok (.bipush 101, 2) := by decide +kernel
theorem dX4_wordHere_138 : decode cX4_wordHere 138 = .ok (.bipush 110, 2) := by decide +kernel
theorem dX4_wordHere_140 : decode cX4_wordHere 140 = .ok (.bipush 100, 2) := by decide +kernel
theorem dX4_wordHere_142 : decode cX4_wordHere 142 = .ok (.invokevirtual 128, 3) := by decide +kernel
theorem dX4_wordHere_145 : decode cX4_wordHere 145 = .ok (.ifCond .eq 7, 3) := by decide +kernel
theorem dX4_wordHere_148 : decode cX4_wordHere 148 = .ok (.iconst 3, 1) := by decide +kernel
theorem dX4_wordHere_149 : decode cX4_wordHere 149 = .ok (.goto 4, 3) := by decide +kernel
theorem dX4_wordHere_152 : decode cX4_wordHere 152 = .ok (.iconst (-1), 1) := by decide +kernel
theorem dX4_wordHere_153 : decode cX4_wordHere 153 = .ok (.ireturn, 1) := by decide +kernel
theorem dX4_number_0 : decode cX4_number 0 = .ok (.aload_n 0, 1) := by decide +kernel
theorem dX4_number_1 : decode cX4_number 1 = .ok (.invokevirtual 132, 3) := by decide +kernel
theorem dX4_number_4 : decode cX4_number 4 = .ok (.iconst 0, 1) := by decide +kernel
theorem dX4_number_5 : decode cX4_number 5 = .ok (.istore_n 3, 1) := by decide +kernel
theorem dX4_number_6 : decode cX4_number 6 = .ok (.iconst 0, 1) := by decide +kernel
theorem dX4_number_7 : decode cX4_number 7 = .ok (.istore 4, 2) := by decide +kernel
theorem dX4_number_9 : decode cX4_number 9 = .ok (.aload_n 0, 1) := by decide +kernel
theorem dX4_number_10 : decode cX4_number 10 = .ok (.getfield 111, 3) := by decide +kernel
theorem dX4_number_13 : decode cX4_number 13 = .ok (.iload_n 3, 1) := by decide +kernel
theorem dX4_number_14 : decode cX4_number 14 = .ok (.iadd, 1) := by decide +kernel
theorem dX4_number_15 : decode cX4_number 15 = .ok (.aload_n 0, 1) := by decide +kernel
theorem dX4_number_16 : decode cX4_number 16 = .ok (.getfield 108, 3) := by decide +kernel
theorem dX4_number_19 : decode cX4_number 19 = .ok (.if_icmp .ge 58, 3) := by decide +kernel
theorem dX4_number_22 : decode cX4_number 22 = .ok (.aload_n 0, 1) := by decide +kernel
theorem dX4_number_23 : decode cX4_number 23 = .ok (.getfield 46, 3) := by decide +kernel
theorem dX4_number_26 : decode cX4_number 26 = .ok (.aload_n 0, 1) := by decide +kernel
theorem dX4_number_27 : decode cX4_number 27 = .ok (.getfield 111, 3) := by decide +kernel
theorem dX4_number_30 : decode cX4_number 30 = .ok (.iload_n 3, 1) := by decide +kernel
theorem dX4_number_31 : decode cX4_number 31 = .ok (.iadd, 1) := by decide +kernel
theorem dX4_number_32 : decode cX4_number 32 = .ok (.iaload, 1) := by decide +kernel
theorem dX4_number_33 : decode cX4_number 33 = .ok (.invokestatic 135, 3) := by decide +kernel
theorem dX4_number_36 : decode cX4_number 36 = .ok (.ifCond .eq 41, 3) := by decide +kernel
theorem dX4_number_39 : decode cX4_number 39 = .ok (.iload_n 3, 1) := by decide +kernel
theorem dX4_number_40 : decode cX4_number 40 = .ok (.iconst 2, 1) := by decide +kernel
theorem dX4_number_41 : decode cX4_number 41 = .ok (.if_icmp .ge 26, 3) := by decide +kernel
theorem dX4_number_44 : decode cX4_number 44 = .ok (.bipush 10, 2) := by decide +kernel
theorem dX4_number_46 : decode cX4_number 46 = .ok (.iload 4, 2) := by decide +kernel
theorem dX4_number_48 : decode cX4_number 48 = .ok (.imul, 1) := by decide +kernel
theorem dX4_number_49 : decode cX4_number 49 = .ok (.aload_n 0, 1) := by decide +kernel
theorem dX4_number_50 : decode cX4_number 50 = .ok (.getfield 46, 3) := by decide +kernel
theorem dX4_number_53 : decode cX4_number 53 = .ok (.aload_n 0, 1) := by decide +kernel
theorem dX4_number_54 : decode cX4_number 54 = .ok (.getfield 111, 3) := by decide +kernel
theorem dX4_number_57 : decode cX4_number 57 = .ok (.iload_n 3, 1) := by decide +kernel
theorem dX4_number_58 : decode cX4_number 58 = .ok (.iadd, 1) := by decide +kernel
theorem dX4_number_59 : decode cX4_number 59 = .ok (.iaload, 1) := by decide +kernel
theorem dX4_number_60 : decode cX4_number 60 = .ok (.iadd, 1) := by decide +kernel
theorem dX4_number_61 : decode cX4_number 61 = .ok (.bipush 48, 2) := by decide +kernel
theorem dX4_number_63 : decode cX4_number 63 = .ok (.isub, 1) := by decide +kernel
theorem dX4_number_64 : decode cX4_number 64 = .ok (.goto 5, 3) := by decide +kernel
theorem dX4_number_67 : decode cX4_number 67 = .ok (.iload 4, 2) := by decide +kernel
theorem dX4_number_69 : decode cX4_number 69 = .ok (.istore 4, 2) := by decide +kernel
theorem dX4_number_71 : decode cX4_number 71 = .ok (.iinc 3 1, 3) := by decide +kernel
theorem dX4_number_74 : decode cX4_number 74 = .ok (.goto (-65), 3) := by decide +kernel
theorem dX4_number_77 : decode cX4_number 77 = .ok (.iload_n 3, 1) := by decide +kernel
theorem dX4_number_78 : decode cX4_number 78 = .ok (.iconst 1, 1) := by decide +kernel
theorem dX4_number_79 : decode cX4_number 79 = .ok (.iconst 2, 1) := by decide +kernel
theorem dX4_number_80 : decode cX4_number 80 = .ok (.invokestatic 93, 3) := by decide +kernel
theorem dX4_number_83 : decode cX4_number 83 = .ok (.ifCond .eq 13, 3) := by decide +kernel
theorem dX4_number_86 : decode cX4_number 86 = .ok (.iload 4, 2) := by decide +kernel
theorem dX4_number_88 : decode cX4_number 88 = .ok (.iload_n 1, 1) := by decide +kernel
theorem dX4_number_89 : decode cX4_number 89 = .ok (.iload_n 2, 1) := by decide +kernel
theorem dX4_number_90 : decode cX4_number 90 = .ok (.invokestatic 93, 3) := by decide +kernel
theorem dX4_number_93 : decode cX4_number 93 = .ok (.ifCond .ne 5, 3) := by decide +kernel
theorem dX4_number_96 : decode cX4_number 96 = .ok (.iconst 0, 1) := by decide +kernel
theorem dX4_number_97 : decode cX4_number 97 = .ok (.ireturn, 1) := by decide +kernel
theorem dX4_number_98 : decode cX4_number 98 = .ok (.aload_n 0, 1) := by decide +kernel
theorem dX4_number_99 : decode cX4_number 99 = .ok (.iload 4, 2) := by decide +kernel
theorem dX4_number_101 : decode cX4_number 101 = .ok (.putfield 138, 3) := by decide +kernel
theorem dX4_number_104 : decode cX4_number 104 = .ok (.aload_n 0, 1) := by decide +kernel
theorem dX4_number_105 : decode cX4_number 105 = .ok (.dup, 1) := by decide +kernel
theorem dX4_number_106 : decode cX4_number 106 = .ok (.getfield 111, 3) := by decide +kernel
theorem dX4_number_109 : decode cX4_number 109 = .ok (.iload_n 3, 1) := by decide +kernel
theorem dX4_number_110 : decode cX4_number 110 = .ok (.iadd, 1) := by decide +kernel
theorem dX4_number_111 : decode cX4_number 111 = .ok (.putfield 111, 3) := by decide +kernel
theorem dX4_number_114 : decode cX4_number 114 = .ok (.iconst 1, 1) := by decide +kernel
theorem dX4_number_115 : decode cX4_number 115 = .ok (.ireturn, 1) := by decide +kernel
theorem dX4_ends_0 : decode cX4_ends 0 = .ok (.aload_n 0, 1) := by decide +kernel
theorem dX4_ends_1 : decode cX4_ends 1 = .ok (.invokevirtual 132, 3) := by decide +kernel
theorem dX4_ends_4 : decode cX4_ends 4 = .ok (.aload_n 0, 1) := by decide +kernel
theorem dX4_ends_5 : decode cX4_ends 5 = .ok (.invokevirtual 114, 3) := by decide +kernel
theorem dX4_ends_8 : decode cX4_ends 8 = .ok (.bipush 59, 2) := by decide +kernel
theorem dX4_ends_10 : decode cX4_ends 10 = .ok (.if_icmp .eq 5, 3) := by decide +kernel
theorem dX4_ends_13 : decode cX4_ends 13 = .ok (.iconst 0, 1) := by decide +kernel
theorem dX4_ends_14 : decode cX4_ends 14 = .ok (.ireturn, 1) := by decide +kernel
theorem dX4_ends_15 : decode cX4_ends 15 = .ok (.aload_n 0, 1) := by decide +kernel
theorem dX4_ends_16 : decode cX4_ends 16 = .ok (.dup, 1) := by decide +kernel
theorem dX4_ends_17 : decode cX4_ends 17 = .ok (.getfield 111, 3) := by decide +kernel
theorem dX4_ends_20 : decode cX4_ends 20 = .ok (.iconst 1, 1) := by decide +kernel
theorem dX4_ends_21 : decode cX4_ends 21 = .ok (.iadd, 1) := by decide +kernel
theorem dX4_ends_22 : decode cX4_ends 22 = .ok (.putfield 111, 3) := by decide +kernel
theorem dX4_ends_25 : decode cX4_ends 25 = .ok (.iconst 1, 1) := by decide +kernel
theorem dX4_ends_26 : decode cX4_ends 26 = .ok (.ireturn, 1) := by decide +kernel
theorem dX4_readsOne_0 : decode cX4_readsOne 0 = .ok (.iconst 0, 1) := by decide +kernel
theorem dX4_readsOne_1 : decode cX4_readsOne 1 = .ok (.istore_n 1, 1) := by decide +kernel
theorem dX4_readsOne_2 : decode cX4_readsOne 2 = .ok (.iload_n 1, 1) := by decide +kernel
theorem dX4_readsOne_3 : decode cX4_readsOne 3 = .ok (.iconst 3, 1) := by decide +kernel
theorem dX4_readsOne_4 : decode cX4_readsOne 4 = .ok (.if_icmp .ge 46, 3) := by decide +kernel
theorem dX4_readsOne_7 : decode cX4_readsOne 7 = .ok (.aload_n 0, 1) := by decide +kernel
theorem dX4_readsOne_8 : decode cX4_readsOne 8 = .ok (.iconst 0, 1) := by decide +kernel
theorem dX4_readsOne_9 : decode cX4_readsOne 9 = .ok (.iload_n 1, 1) := by decide +kernel
theorem dX4_readsOne_10 : decode cX4_readsOne 10 = .ok (.ifCond .ne 7, 3) := by decide +kernel
theorem dX4_readsOne_13 : decode cX4_readsOne 13 = .ok (.iconst 5, 1) := by decide +kernel
theorem dX4_readsOne_14 : decode cX4_readsOne 14 = .ok (.goto 5, 3) := by decide +kernel
theorem dX4_readsOne_17 : decode cX4_readsOne 17 = .ok (.bipush 9, 2) := by decide +kernel
theorem dX4_readsOne_19 : decode cX4_readsOne 19 = .ok (.invokevirtual 141, 3) := by decide +kernel
theorem dX4_readsOne_22 : decode cX4_readsOne 22 = .ok (.ifCond .ne 5, 3) := by decide +kernel
theorem dX4_readsOne_25 : decode cX4_readsOne 25 = .ok (.iconst 0, 1) := by decide +kernel
theorem dX4_readsOne_26 : decode cX4_readsOne 26 = .ok (.ireturn, 1) := by decide +kernel
theorem dX4_readsOne_27 : decode cX4_readsOne 27 = .ok (.aload_n 0, 1) := by decide +kernel
theorem dX4_readsOne_28 : decode cX4_readsOne 28 = .ok (.getfield 49, 3) := by decide +kernel
theorem dX4_readsOne_31 : decode cX4_readsOne 31 = .ok (.iconst 3, 1) := by decide +kernel
theorem dX4_readsOne_32 : decode cX4_readsOne 32 = .ok (.aload_n 0, 1) := by decide +kernel
theorem dX4_readsOne_33 : decode cX4_readsOne 33 = .ok (.getfield 145, 3) := by decide +kernel
theorem dX4_readsOne_36 : decode cX4_readsOne 36 = .ok (.imul, 1) := by decide +kernel
theorem dX4_readsOne_37 : decode cX4_readsOne 37 = .ok (.iload_n 1, 1) := by decide +kernel
theorem dX4_readsOne_38 : decode cX4_readsOne 38 = .ok (.iadd, 1) := by decide +kernel
theorem dX4_readsOne_39 : decode cX4_readsOne 39 = .ok (.aload_n 0, 1) := by decide +kernel
theorem dX4_readsOne_40 : decode cX4_readsOne 40 = .ok (.getfield 138, 3) := by decide +kernel
theorem dX4_readsOne_43 : decode cX4_readsOne 43 = .ok (.iastore, 1) := by decide +kernel
theorem dX4_readsOne_44 : decode cX4_readsOne 44 = .ok (.iinc 1 1, 3) := by decide +kernel
theorem dX4_readsOne_47 : decode cX4_readsOne 47 = .ok (.goto (-45), 3) := by decide +kernel
theorem dX4_readsOne_50 : decode cX4_readsOne 50 = .ok (.aload_n 0, 1) := by decide +kernel
theorem dX4_readsOne_51 : decode cX4_readsOne 51 = .ok (.getfield 52, 3) := by decide +kernel
theorem dX4_readsOne_54 : decode cX4_readsOne 54 = .ok (.aload_n 0, 1) := by decide +kernel
theorem dX4_readsOne_55 : decode cX4_readsOne 55 = .ok (.getfield 145, 3) := by decide +kernel
theorem dX4_readsOne_58 : decode cX4_readsOne 58 = .ok (.aload_n 0, 1) := by decide +kernel
theorem dX4_readsOne_59 : decode cX4_readsOne 59 = .ok (.getfield 145, 3) := by decide +kernel
theorem dX4_readsOne_62 : decode cX4_readsOne 62 = .ok (.iastore, 1) := by decide +kernel
theorem dX4_readsOne_63 : decode cX4_readsOne 63 = .ok (.aload_n 0, 1) := by decide +kernel
theorem dX4_readsOne_64 : decode cX4_readsOne 64 = .ok (.dup, 1) := by decide +kernel
theorem dX4_readsOne_65 : decode cX4_readsOne 65 = .ok (.getfield 145, 3) := by decide +kernel
theorem dX4_readsOne_68 : decode cX4_readsOne 68 = .ok (.iconst 1, 1) := by decide +kernel
theorem dX4_readsOne_69 : decode cX4_readsOne 69 = .ok (.iadd, 1) := by decide +kernel
theorem dX4_readsOne_70 : decode cX4_readsOne 70 = .ok (.putfield 145, 3) := by decide +kernel
theorem dX4_readsOne_73 : decode cX4_readsOne 73 = .ok (.aload_n 0, 1) := by decide +kernel
theorem dX4_readsOne_74 : decode cX4_readsOne 74 = .ok (.invokevirtual 148, 3) := by decide +kernel
theorem dX4_readsOne_77 : decode cX4_readsOne 77 = .ok (.ireturn, 1) := by decide +kernel
theorem dX4_readVoice_0 : decode cX4_readVoice 0 = .ok (.iconst (-1), 1) := by decide +kernel
theorem dX4_readVoice_1 : decode cX4_readVoice 1 = .ok (.istore_n 2, 1) := by decide +kernel
theorem dX4_readVoice_2 : decode cX4_readVoice 2 = .ok (.iconst 0, 1) := by decide +kernel
theorem dX4_readVoice_3 : decode cX4_readVoice 3 = .ok (.istore_n 3, 1) := by decide +kernel
theorem dX4_readVoice_4 : decode cX4_readVoice 4 = .ok (.iload_n 3, 1) := by decide +kernel
theorem dX4_readVoice_5 : decode cX4_readVoice 5 = .ok (.aload_n 0, 1) := by decide +kernel
theorem dX4_readVoice_6 : decode cX4_readVoice 6 = .ok (.getfield 145, 3) := by decide +kernel
theorem dX4_readVoice_9 : decode cX4_readVoice 9 = .ok (.if_icmp .ge 25, 3) := by decide +kernel
theorem dX4_readVoice_12 : decode cX4_readVoice 12 = .ok (.aload_n 0, 1) := by decide +kernel
theorem dX4_readVoice_13 : decode cX4_readVoice 13 = .ok (.getfield 52, 3) := by decide +kernel
theorem dX4_readVoice_16 : decode cX4_readVoice 16 = .ok (.iload_n 3, 1) := by decide +kernel
theorem dX4_readVoice_17 : decode cX4_readVoice 17 = .ok (.iaload, 1) := by decide +kernel
theorem dX4_readVoice_18 : decode cX4_readVoice 18 = .ok (.iload_n 1, 1) := by decide +kernel
theorem dX4_readVoice_19 : decode cX4_readVoice 19 = .ok (.if_icmp .ne 7, 3) := by decide +kernel
theorem dX4_readVoice_22 : decode cX4_readVoice 22 = .ok (.iload_n 3, 1) := by decide +kernel
theorem dX4_readVoice_23 : decode cX4_readVoice 23 = .ok (.goto 4, 3) := by decide +kernel
theorem dX4_readVoice_26 : decode cX4_readVoice 26 = .ok (.iload_n 2, 1) := by decide +kernel
theorem dX4_readVoice_27 : decode cX4_readVoice 27 = .ok (.istore_n 2, 1) := by decide +kernel
theorem dX4_readVoice_28 : decode cX4_readVoice 28 = .ok (.iinc 3 1, 3) := by decide +kernel
theorem dX4_readVoice_31 : decode cX4_readVoice 31 = .ok (.goto (-27), 3) := by decide +kernel
theorem dX4_readVoice_34 : decode cX4_readVoice 34 = .ok (.iload_n 2, 1) := by decide +kernel
theorem dX4_readVoice_35 : decode cX4_readVoice 35 = .ok (.ireturn, 1) := by decide +kernel
theorem dX4_readsLeave_0 : decode cX4_readsLeave 0 = .ok (.aload_n 0, 1) := by decide +kernel
theorem dX4_readsLeave_1 : decode cX4_readsLeave 1 = .ok (.invokevirtual 132, 3) := by decide +kernel
theorem dX4_readsLeave_4 : decode cX4_readsLeave 4 = .ok (.aload_n 0, 1) := by decide +kernel
theorem dX4_readsLeave_5 : decode cX4_readsLeave 5 = .ok (.getfield 111, 3) := by decide +kernel
theorem dX4_readsLeave_8 : decode cX4_readsLeave 8 = .ok (.istore_n 1, 1) := by decide +kernel
theorem dX4_readsLeave_9 : decode cX4_readsLeave 9 = .ok (.aload_n 0, 1) := by decide +kernel
theorem dX4_readsLeave_10 : decode cX4_readsLeave 10 = .ok (.iconst 0, 1) := by decide +kernel
theorem dX4_readsLeave_11 : decode cX4_readsLeave 11 = .ok (.aload_n 0, 1) := by decide +kernel
theorem dX4_readsLeave_12 : decode cX4_readsLeave 12 = .ok (.getfield 145, 3) := by decide +kernel
theorem dX4_readsLeave_15 : decode cX4_readsLeave 15 = .ok (.iconst 1, 1) := by decide +kernel
theorem dX4_readsLeave_16 : decode cX4_readsLeave 16 = .ok (.isub, 1) := by decide +kernel
theorem dX4_readsLeave_17 : decode cX4_readsLeave 17 = .ok (.invokevirtual 141, 3) := by decide +kernel
theorem dX4_readsLeave_20 : decode cX4_readsLeave 20 = .ok (.ifCond .ne 5, 3) := by decide +kernel
theorem dX4_readsLeave_23 : decode cX4_readsLeave 23 = .ok (.iconst 0, 1) := by decide +kernel
theorem dX4_readsLeave_24 : decode cX4_readsLeave 24 = .ok (.ireturn, 1) := by decide +kernel
theorem dX4_readsLeave_25 : decode cX4_readsLeave 25 = .ok (.aload_n 0, 1) := by decide +kernel
theorem dX4_readsLeave_26 : decode cX4_readsLeave 26 = .ok (.aload_n 0, 1) := by decide +kernel
theorem dX4_readsLeave_27 : decode cX4_readsLeave 27 = .ok (.getfield 138, 3) := by decide +kernel
theorem dX4_readsLeave_30 : decode cX4_readsLeave 30 = .ok (.invokevirtual 152, 3) := by decide +kernel
theorem dX4_readsLeave_33 : decode cX4_readsLeave 33 = .ok (.istore_n 2, 1) := by decide +kernel
theorem dX4_readsLeave_34 : decode cX4_readsLeave 34 = .ok (.iload_n 2, 1) := by decide +kernel
theorem dX4_readsLeave_35 : decode cX4_readsLeave 35 = .ok (.iconst (-1), 1) := by decide +kernel
theorem dX4_readsLeave_36 : decode cX4_readsLeave 36 = .ok (.if_icmp .ne 10, 3) := by decide +kernel
theorem dX4_readsLeave_39 : decode cX4_readsLeave 39 = .ok (.aload_n 0, 1) := by decide +kernel
theorem dX4_readsLeave_40 : decode cX4_readsLeave 40 = .ok (.iload_n 1, 1) := by decide +kernel
theorem dX4_readsLeave_41 : decode cX4_readsLeave 41 = .ok (.putfield 111, 3) := by decide +kernel
theorem dX4_readsLeave_44 : decode cX4_readsLeave 44 = .ok (.iconst 0, 1) := by decide +kernel
theorem dX4_readsLeave_45 : decode cX4_readsLeave 45 = .ok (.ireturn, 1) := by decide +kernel
theorem dX4_readsLeave_46 : decode cX4_readsLeave 46 = .ok (.aload_n 0, 1) := by decide +kernel
theorem dX4_readsLeave_47 : decode cX4_readsLeave 47 = .ok (.getfield 52, 3) := by decide +kernel
theorem dX4_readsLeave_50 : decode cX4_readsLeave 50 = .ok (.iload_n 2, 1) := by decide +kernel
theorem dX4_readsLeave_51 : decode cX4_readsLeave 51 = .ok (.iconst (-1), 1) := by decide +kernel
theorem dX4_readsLeave_52 : decode cX4_readsLeave 52 = .ok (.iastore, 1) := by decide +kernel
theorem dX4_readsLeave_53 : decode cX4_readsLeave 53 = .ok (.aload_n 0, 1) := by decide +kernel
theorem dX4_readsLeave_54 : decode cX4_readsLeave 54 = .ok (.invokevirtual 148, 3) := by decide +kernel
theorem dX4_readsLeave_57 : decode cX4_readsLeave 57 = .ok (.ireturn, 1) := by decide +kernel
theorem dX4_readsLend_0 : decode cX4_readsLend 0 = .ok (.aload_n 0, 1) := by decide +kernel
theorem dX4_readsLend_1 : decode cX4_readsLend 1 = .ok (.invokevirtual 132, 3) := by decide +kernel
theorem dX4_readsLend_4 : decode cX4_readsLend 4 = .ok (.aload_n 0, 1) := by decide +kernel
theorem dX4_readsLend_5 : decode cX4_readsLend 5 = .ok (.getfield 111, 3) := by decide +kernel
theorem dX4_readsLend_8 : decode cX4_readsLend 8 = .ok (.istore_n 1, 1) := by decide +kernel
theorem dX4_readsLend_9 : decode cX4_readsLend 9 = .ok (.aload_n 0, 1) := by decide +kernel
theorem dX4_readsLend_10 : decode cX4_readsLend 10 = .ok (.iconst 0, 1) := by decide +kernel
theorem dX4_readsLend_11 : decode cX4_readsLend 11 = .ok (.aload_n 0, 1) := by decide +kernel
theorem dX4_readsLend_12 : decode cX4_readsLend 12 = .ok (.getfield 145, 3) := by decide +kernel
theorem dX4_readsLend_15 : decode cX4_readsLend 15 = .ok (.iconst 1, 1) := by decide +kernel
theorem dX4_readsLend_16 : decode cX4_readsLend 16 = .ok (.isub, 1) := by decide +kernel
theorem dX4_readsLend_17 : decode cX4_readsLend 17 = .ok (.invokevirtual 141, 3) := by decide +kernel
theorem dX4_readsLend_20 : decode cX4_readsLend 20 = .ok (.ifCond .ne 5, 3) := by decide +kernel
theorem dX4_readsLend_23 : decode cX4_readsLend 23 = .ok (.iconst 0, 1) := by decide +kernel
theorem dX4_readsLend_24 : decode cX4_readsLend 24 = .ok (.ireturn, 1) := by decide +kernel
theorem dX4_readsLend_25 : decode cX4_readsLend 25 = .ok (.aload_n 0, 1) := by decide +kernel
theorem dX4_readsLend_26 : decode cX4_readsLend 26 = .ok (.getfield 138, 3) := by decide +kernel
theorem dX4_readsLend_29 : decode cX4_readsLend 29 = .ok (.istore_n 2, 1) := by decide +kernel
theorem dX4_readsLend_30 : decode cX4_readsLend 30 = .ok (.aload_n 0, 1) := by decide +kernel
theorem dX4_readsLend_31 : decode cX4_readsLend 31 = .ok (.getfield 52, 3) := by decide +kernel
theorem dX4_readsLend_34 : decode cX4_readsLend 34 = .ok (.iload_n 2, 1) := by decide +kernel
theorem dX4_readsLend_35 : decode cX4_readsLend 35 = .ok (.iaload, 1) := by decide +kernel
theorem dX4_readsLend_36 : decode cX4_readsLend 36 = .ok (.iconst (-1), 1) := by decide +kernel
theorem dX4_readsLend_37 : decode cX4_readsLend 37 = .ok (.if_icmp .eq 10, 3) := by decide +kernel
theorem dX4_readsLend_40 : decode cX4_readsLend 40 = .ok (.aload_n 0, 1) := by decide +kernel
theorem dX4_readsLend_41 : decode cX4_readsLend 41 = .ok (.iload_n 1, 1) := by decide +kernel
theorem dX4_readsLend_42 : decode cX4_readsLend 42 = .ok (.putfield 111, 3) := by decide +kernel
theorem dX4_readsLend_45 : decode cX4_readsLend 45 = .ok (.iconst 0, 1) := by decide +kernel
theorem dX4_readsLend_46 : decode cX4_readsLend 46 = .ok (.ireturn, 1) := by decide +kernel
theorem dX4_readsLend_47 : decode cX4_readsLend 47 = .ok (.aload_n 0, 1) := by decide +kernel
theorem dX4_readsLend_48 : decode cX4_readsLend 48 = .ok (.iconst 0, 1) := by decide +kernel
theorem dX4_readsLend_49 : decode cX4_readsLend 49 = .ok (.aload_n 0, 1) := by decide +kernel
theorem dX4_readsLend_50 : decode cX4_readsLend 50 = .ok (.getfield 145, 3) := by decide +kernel
theorem dX4_readsLend_53 : decode cX4_readsLend 53 = .ok (.iconst 1, 1) := by decide +kernel
theorem dX4_readsLend_54 : decode cX4_readsLend 54 = .ok (.isub, 1) := by decide +kernel
theorem dX4_readsLend_55 : decode cX4_readsLend 55 = .ok (.invokevirtual 141, 3) := by decide +kernel
theorem dX4_readsLend_58 : decode cX4_readsLend 58 = .ok (.ifCond .ne 5, 3) := by decide +kernel
theorem dX4_readsLend_61 : decode cX4_readsLend 61 = .ok (.iconst 0, 1) := by decide +kernel
theorem dX4_readsLend_62 : decode cX4_readsLend 62 = .ok (.ireturn, 1) := by decide +kernel
theorem dX4_readsLend_63 : decode cX4_readsLend 63 = .ok (.aload_n 0, 1) := by decide +kernel
theorem dX4_readsLend_64 : decode cX4_readsLend 64 = .ok (.aload_n 0, 1) := by decide +kernel
theorem dX4_readsLend_65 : decode cX4_readsLend 65 = .ok (.getfield 138, 3) := by decide +kernel
theorem dX4_readsLend_68 : decode cX4_readsLend 68 = .ok (.invokevirtual 152, 3) := by decide +kernel
theorem dX4_readsLend_71 : decode cX4_readsLend 71 = .ok (.istore_n 3, 1) := by decide +kernel
theorem dX4_readsLend_72 : decode cX4_readsLend 72 = .ok (.iload_n 3, 1) := by decide +kernel
theorem dX4_readsLend_73 : decode cX4_readsLend 73 = .ok (.iconst (-1), 1) := by decide +kernel
theorem dX4_readsLend_74 : decode cX4_readsLend 74 = .ok (.if_icmp .eq 10, 3) := by decide +kernel
theorem dX4_readsLend_77 : decode cX4_readsLend 77 = .ok (.aload_n 0, 1) := by decide +kernel
theorem dX4_readsLend_78 : decode cX4_readsLend 78 = .ok (.getfield 52, 3) := by decide +kernel
theorem dX4_readsLend_81 : decode cX4_readsLend 81 = .ok (.iload_n 3, 1) := by decide +kernel
theorem dX4_readsLend_82 : decode cX4_readsLend 82 = .ok (.iconst (-1), 1) := by decide +kernel
theorem dX4_readsLend_83 : decode cX4_readsLend 83 = .ok (.iastore, 1) := by decide +kernel
theorem dX4_readsLend_84 : decode cX4_readsLend 84 = .ok (.aload_n 0, 1) := by decide +kernel
theorem dX4_readsLend_85 : decode cX4_readsLend 85 = .ok (.getfield 52, 3) := by decide +kernel
theorem dX4_readsLend_88 : decode cX4_readsLend 88 = .ok (.iload_n 2, 1) := by decide +kernel
theorem dX4_readsLend_89 : decode cX4_readsLend 89 = .ok (.aload_n 0, 1) := by decide +kernel
theorem dX4_readsLend_90 : decode cX4_readsLend 90 = .ok (.getfield 138, 3) := by decide +kernel
theorem dX4_readsLend_93 : decode cX4_readsLend 93 = .ok (.iastore, 1) := by decide +kernel
theorem dX4_readsLend_94 : decode cX4_readsLend 94 = .ok (.aload_n 0, 1) := by decide +kernel
theorem dX4_readsLend_95 : decode cX4_readsLend 95 = .ok (.invokevirtual 148, 3) := by decide +kernel
theorem dX4_readsLend_98 : decode cX4_readsLend 98 = .ok (.ireturn, 1) := by decide +kernel
theorem dX4_readsItem_0 : decode cX4_readsItem 0 = .ok (.aload_n 0, 1) := by decide +kernel
theorem dX4_readsItem_1 : decode cX4_readsItem 1 = .ok (.invokevirtual 155, 3) := by decide +kernel
theorem dX4_readsItem_4 : decode cX4_readsItem 4 = .ok (.istore_n 1, 1) := by decide +kernel
theorem dX4_readsItem_5 : decode cX4_readsItem 5 = .ok (.iload_n 1, 1) := by decide +kernel
theorem dX4_readsItem_6 : decode cX4_readsItem 6 = .ok (.iconst 1, 1) := by decide +kernel
theorem dX4_readsItem_7 : decode cX4_readsItem 7 = .ok (.if_icmp .lt 17, 3) := by decide +kernel
theorem dX4_readsItem_10 : decode cX4_readsItem 10 = .ok (.iload_n 1, 1) := by decide +kernel
theorem dX4_readsItem_11 : decode cX4_readsItem 11 = .ok (.iconst 1, 1) := by decide +kernel
theorem dX4_readsItem_12 : decode cX4_readsItem 12 = .ok (.if_icmp .ne 14, 3) := by decide +kernel
theorem dX4_readsItem_15 : decode cX4_readsItem 15 = .ok (.aload_n 0, 1) := by decide +kernel
theorem dX4_readsItem_16 : decode cX4_readsItem 16 = .ok (.getfield 145, 3) := by decide +kernel
theorem dX4_readsItem_19 : decode cX4_readsItem 19 = .ok (.bipush 6, 2) := by decide +kernel
theorem dX4_readsItem_21 : decode cX4_readsItem 21 = .ok (.if_icmp .ne 5, 3) := by decide +kernel
theorem dX4_readsItem_24 : decode cX4_readsItem 24 = .ok (.iconst 0, 1) := by decide +kernel
theorem dX4_readsItem_25 : decode cX4_readsItem 25 = .ok (.ireturn, 1) := by decide +kernel
theorem dX4_readsItem_26 : decode cX4_readsItem 26 = .ok (.aload_n 0, 1) := by decide +kernel
theorem dX4_readsItem_27 : decode cX4_readsItem 27 = .ok (.dup, 1) := by decide +kernel
theorem dX4_readsItem_28 : decode cX4_readsItem 28 = .ok (.getfield 111, 3) := by decide +kernel
theorem dX4_readsItem_31 : decode cX4_readsItem 31 = .ok (.iload_n 1, 1) := by decide +kernel
theorem dX4_readsItem_32 : decode cX4_readsItem 32 = .ok (.iconst 1, 1) := by decide +kernel
theorem dX4_readsItem_33 : decode cX4_readsItem 33 = .ok (.if_icmp .ne 7, 3) := by decide +kernel
theorem dX4_readsItem_36 : decode cX4_readsItem 36 = .ok (.iconst 3, 1) := by decide +kernel
theorem dX4_readsItem_37 : decode cX4_readsItem 37 = .ok (.goto 13, 3) := by decide +kernel
theorem dX4_readsItem_40 : decode cX4_readsItem 40 = .ok (.iload_n 1, 1) := by decide +kernel
theorem dX4_readsItem_41 : decode cX4_readsItem 41 = .ok (.iconst 2, 1) := by decide +kernel
theorem dX4_readsItem_42 : decode cX4_readsItem 42 = .ok (.if_icmp .ne 7, 3) := by decide +kernel
theorem dX4_readsItem_45 : decode cX4_readsItem 45 = .ok (.iconst 5, 1) := by decide +kernel
theorem dX4_readsItem_46 : decode cX4_readsItem 46 = .ok (.goto 4, 3) := by decide +kernel
theorem dX4_readsItem_49 : decode cX4_readsItem 49 = .ok (.iconst 4, 1) := by decide +kernel
theorem dX4_readsItem_50 : decode cX4_readsItem 50 = .ok (.iadd, 1) := by decide +kernel
theorem dX4_readsItem_51 : decode cX4_readsItem 51 = .ok (.putfield 111, 3) := by decide +kernel
theorem dX4_readsItem_54 : decode cX4_readsItem 54 = .ok (.iload_n 1, 1) := by decide +kernel
theorem dX4_readsItem_55 : decode cX4_readsItem 55 = .ok (.iconst 1, 1) := by decide +kernel
theorem dX4_readsItem_56 : decode cX4_readsItem 56 = .ok (.if_icmp .ne 10, 3) := by decide +kernel
theorem dX4_readsItem_59 : decode cX4_readsItem 59 = .ok (.aload_n 0, 1) := by decide +kernel
theorem dX4_readsItem_60 : decode cX4_readsItem 60 = .ok (.invokevirtual 158, 3) := by decide +kernel
theorem dX4_readsItem_63 : decode cX4_readsItem 63 = .ok (.goto 19, 3) := by decide +kernel
theorem dX4_readsItem_66 : decode cX4_readsItem 66 = .ok (.iload_n 1, 1) := by decide +kernel
theorem dX4_readsItem_67 : decode cX4_readsItem 67 = .ok (.iconst 2, 1) := by decide +kernel
theorem dX4_readsItem_68 : decode cX4_readsItem 68 = .ok (.if_icmp .ne 10, 3) := by decide +kernel
theorem dX4_readsItem_71 : decode cX4_readsItem 71 = .ok (.aload_n 0, 1) := by decide +kernel
theorem dX4_readsItem_72 : decode cX4_readsItem 72 = .ok (.invokevirtual 161, 3) := by decide +kernel
theorem dX4_readsItem_75 : decode cX4_readsItem 75 = .ok (.goto 7, 3) := by decide +kernel
theorem dX4_readsItem_78 : decode cX4_readsItem 78 = .ok (.aload_n 0, 1) := by decide +kernel
theorem dX4_readsItem_79 : decode cX4_readsItem 79 = .ok (.invokevirtual 164, 3) := by decide +kernel
theorem dX4_readsItem_82 : decode cX4_readsItem 82 = .ok (.ireturn, 1) := by decide +kernel
theorem dX4_readsCounter_0 : decode cX4_readsCounter 0 = .ok (.aload_n 0, 1) := by decide +kernel
theorem dX4_readsCounter_1 : decode cX4_readsCounter 1 = .ok (.iconst 0, 1) := by decide +kernel
theorem dX4_readsCounter_2 : decode cX4_readsCounter 2 = .ok (.putfield 111, 3) := by decide +kernel
theorem dX4_readsCounter_5 : decode cX4_readsCounter 5 = .ok (.aload_n 0, 1) := by decide +kernel
theorem dX4_readsCounter_6 : decode cX4_readsCounter 6 = .ok (.iconst 0, 1) := by decide +kernel
theorem dX4_readsCounter_7 : decode cX4_readsCounter 7 = .ok (.putfield 145, 3) := by decide +kernel
theorem dX4_readsCounter_10 : decode cX4_readsCounter 10 = .ok (.aload_n 0, 1) := by decide +kernel
theorem dX4_readsCounter_11 : decode cX4_readsCounter 11 = .ok (.invokevirtual 132, 3) := by decide +kernel
theorem dX4_readsCounter_14 : decode cX4_readsCounter 14 = .ok (.aload_n 0, 1) := by decide +kernel
theorem dX4_readsCounter_15 : decode cX4_readsCounter 15 = .ok (.invokevirtual 155, 3) := by decide +kernel
theorem dX4_readsCounter_18 : decode cX4_readsCounter 18 = .ok (.ifCond .eq 5, 3) := by decide +kernel
theorem dX4_readsCounter_21 : decode cX4_readsCounter 21 = .ok (.iconst (-1), 1) := by decide +kernel
theorem dX4_readsCounter_22 : decode cX4_readsCounter 22 = .ok (.ireturn, 1) := by decide +kernel
theorem dX4_readsCounter_23 : decode cX4_readsCounter 23 = .ok (.aload_n 0, 1) := by decide +kernel
theorem dX4_readsCounter_24 : decode cX4_readsCounter 24 = .ok (.dup, 1) := by decide +kernel
theorem dX4_readsCounter_25 : decode cX4_readsCounter 25 = .ok (.getfield 111, 3) := by decide +kernel
theorem dX4_readsCounter_28 : decode cX4_readsCounter 28 = .ok (.bipush 7, 2) := by decide +kernel
theorem dX4_readsCounter_30 : decode cX4_readsCounter 30 = .ok (.iadd, 1) := by decide +kernel
theorem dX4_readsCounter_31 : decode cX4_readsCounter 31 = .ok (.putfield 111, 3) := by decide +kernel
theorem dX4_readsCounter_34 : decode cX4_readsCounter 34 = .ok (.aload_n 0, 1) := by decide +kernel
theorem dX4_readsCounter_35 : decode cX4_readsCounter 35 = .ok (.invokevirtual 148, 3) := by decide +kernel
theorem dX4_readsCounter_38 : decode cX4_readsCounter 38 = .ok (.ifCond .ne 5, 3) := by decide +kernel
theorem dX4_readsCounter_41 : decode cX4_readsCounter 41 = .ok (.iconst (-1), 1) := by decide +kernel
theorem dX4_readsCounter_42 : decode cX4_readsCounter 42 = .ok (.ireturn, 1) := by decide +kernel
theorem dX4_readsCounter_43 : decode cX4_readsCounter 43 = .ok (.iconst 1, 1) := by decide +kernel
theorem dX4_readsCounter_44 : decode cX4_readsCounter 44 = .ok (.istore_n 1, 1) := by decide +kernel
theorem dX4_readsCounter_45 : decode cX4_readsCounter 45 = .ok (.aload_n 0, 1) := by decide +kernel
theorem dX4_readsCounter_46 : decode cX4_readsCounter 46 = .ok (.invokevirtual 132, 3) := by decide +kernel
theorem dX4_readsCounter_49 : decode cX4_readsCounter 49 = .ok (.aload_n 0, 1) := by decide +kernel
theorem dX4_readsCounter_50 : decode cX4_readsCounter 50 = .ok (.getfield 111, 3) := by decide +kernel
theorem dX4_readsCounter_53 : decode cX4_readsCounter 53 = .ok (.aload_n 0, 1) := by decide +kernel
theorem dX4_readsCounter_54 : decode cX4_readsCounter 54 = .ok (.getfield 108, 3) := by decide +kernel
theorem dX4_readsCounter_57 : decode cX4_readsCounter 57 = .ok (.if_icmp .ge 22, 3) := by decide +kernel
theorem dX4_readsCounter_60 : decode cX4_readsCounter 60 = .ok (.aload_n 0, 1) := by decide +kernel
theorem dX4_readsCounter_61 : decode cX4_readsCounter 61 = .ok (.invokevirtual 167, 3) := by decide +kernel
theorem dX4_readsCounter_64 : decode cX4_readsCounter 64 = .ok (.ifCond .ne 5, 3) := by decide +kernel
theorem dX4_readsCounter_67 : decode cX4_readsCounter 67 = .ok (.iconst (-1), 1) := by decide +kernel
theorem dX4_readsCounter_68 : decode cX4_readsCounter 68 = .ok (.ireturn, 1) := by decide +kernel
theorem dX4_readsCounter_69 : decode cX4_readsCounter 69 = .ok (.iinc 1 1, 3) := by decide +kernel
theorem dX4_readsCounter_72 : decode cX4_readsCounter 72 = .ok (.aload_n 0, 1) := by decide +kernel
theorem dX4_readsCounter_73 : decode cX4_readsCounter 73 = .ok (.invokevirtual 132, 3) := by decide +kernel
theorem dX4_readsCounter_76 : decode cX4_readsCounter 76 = .ok (.goto (-27), 3) := by decide +kernel
theorem dX4_readsCounter_79 : decode cX4_readsCounter 79 = .ok (.iload_n 1, 1) := by decide +kernel
theorem dX4_readsCounter_80 : decode cX4_readsCounter 80 = .ok (.ireturn, 1) := by decide +kernel
theorem dX4_read_0 : decode cX4_read 0 = .ok (.aload_n 0, 1) := by decide +kernel
theorem dX4_read_1 : decode cX4_read 1 = .ok (.invokevirtual 170, 3) := by decide +kernel
theorem dX4_read_4 : decode cX4_read 4 = .ok (.istore_n 1, 1) := by decide +kernel
theorem dX4_read_5 : decode cX4_read 5 = .ok (.iload_n 1, 1) := by decide +kernel
theorem dX4_read_6 : decode cX4_read 6 = .ok (.ifCond .ge 11, 3) := by decide +kernel
theorem dX4_read_9 : decode cX4_read 9 = .ok (.bipush (-10), 2) := by decide +kernel
theorem dX4_read_11 : decode cX4_read 11 = .ok (.aload_n 0, 1) := by decide +kernel
theorem dX4_read_12 : decode cX4_read 12 = .ok (.getfield 111, 3) := by decide +kernel
theorem dX4_read_15 : decode cX4_read 15 = .ok (.isub, 1) := by decide +kernel
theorem dX4_read_16 : decode cX4_read 16 = .ok (.ireturn, 1) := by decide +kernel
theorem dX4_read_17 : decode cX4_read 17 = .ok (.aload_n 0, 1) := by decide +kernel
theorem dX4_read_18 : decode cX4_read 18 = .ok (.invokevirtual 77, 3) := by decide +kernel
theorem dX4_read_21 : decode cX4_read 21 = .ok (.iconst 0, 1) := by decide +kernel
theorem dX4_read_22 : decode cX4_read 22 = .ok (.istore_n 2, 1) := by decide +kernel
theorem dX4_read_23 : decode cX4_read 23 = .ok (.iload_n 2, 1) := by decide +kernel
theorem dX4_read_24 : decode cX4_read 24 = .ok (.aload_n 0, 1) := by decide +kernel
theorem dX4_read_25 : decode cX4_read 25 = .ok (.getfield 145, 3) := by decide +kernel
theorem dX4_read_28 : decode cX4_read 28 = .ok (.if_icmp .ge 42, 3) := by decide +kernel
theorem dX4_read_31 : decode cX4_read 31 = .ok (.aload_n 0, 1) := by decide +kernel
theorem dX4_read_32 : decode cX4_read 32 = .ok (.aload_n 0, 1) := by decide +kernel
theorem dX4_read_33 : decode cX4_read 33 = .ok (.getfield 49, 3) := by decide +kernel
theorem dX4_read_36 : decode cX4_read 36 = .ok (.iconst 3, 1) := by decide +kernel
theorem dX4_read_37 : decode cX4_read 37 = .ok (.iload_n 2, 1) := by decide +kernel
theorem dX4_read_38 : decode cX4_read 38 = .ok (.imul, 1) := by decide +kernel
theorem dX4_read_39 : decode cX4_read 39 = .ok (.iaload, 1) := by decide +kernel
theorem dX4_read_40 : decode cX4_read 40 = .ok (.aload_n 0, 1) := by decide +kernel
theorem dX4_read_41 : decode cX4_read 41 = .ok (.getfield 49, 3) := by decide +kernel
theorem dX4_read_44 : decode cX4_read 44 = .ok (.iconst 3, 1) := by decide +kernel
theorem dX4_read_45 : decode cX4_read 45 = .ok (.iload_n 2, 1) := by decide +kernel
theorem dX4_read_46 : decode cX4_read 46 = .ok (.imul, 1) := by decide +kernel
theorem dX4_read_47 : decode cX4_read 47 = .ok (.iconst 1, 1) := by decide +kernel
theorem dX4_read_48 : decode cX4_read 48 = .ok (.iadd, 1) := by decide +kernel
theorem dX4_read_49 : decode cX4_read 49 = .ok (.iaload, 1) := by decide +kernel
theorem dX4_read_50 : decode cX4_read 50 = .ok (.aload_n 0, 1) := by decide +kernel
theorem dX4_read_51 : decode cX4_read 51 = .ok (.getfield 49, 3) := by decide +kernel
theorem dX4_read_54 : decode cX4_read 54 = .ok (.iconst 3, 1) := by decide +kernel
theorem dX4_read_55 : decode cX4_read 55 = .ok (.iload_n 2, 1) := by decide +kernel
theorem dX4_read_56 : decode cX4_read 56 = .ok (.imul, 1) := by decide +kernel
theorem dX4_read_57 : decode cX4_read 57 = .ok (.iconst 2, 1) := by decide +kernel
theorem dX4_read_58 : decode cX4_read 58 = .ok (.iadd, 1) := by decide +kernel
theorem dX4_read_59 : decode cX4_read 59 = .ok (.iaload, 1) := by decide +kernel
theorem dX4_read_60 : decode cX4_read 60 = .ok (.invokevirtual 104, 3) := by decide +kernel
theorem dX4_read_63 : decode cX4_read 63 = .ok (.pop, 1) := by decide +kernel
theorem dX4_read_64 : decode cX4_read 64 = .ok (.iinc 2 1, 3) := by decide +kernel
theorem dX4_read_67 : decode cX4_read 67 = .ok (.goto (-44), 3) := by decide +kernel
theorem dX4_read_70 : decode cX4_read 70 = .ok (.iconst 0, 1) := by decide +kernel
theorem dX4_read_71 : decode cX4_read 71 = .ok (.istore_n 2, 1) := by decide +kernel
theorem dX4_read_72 : decode cX4_read 72 = .ok (.iload_n 2, 1) := by decide +kernel
theorem dX4_read_73 : decode cX4_read 73 = .ok (.aload_n 0, 1) := by decide +kernel
theorem dX4_read_74 : decode cX4_read 74 = .ok (.getfield 145, 3) := by decide +kernel
theorem dX4_read_77 : decode cX4_read 77 = .ok (.if_icmp .ge 21, 3) := by decide +kernel
theorem dX4_read_80 : decode cX4_read 80 = .ok (.aload_n 0, 1) := by decide +kernel
theorem dX4_read_81 : decode cX4_read 81 = .ok (.getfield 22, 3) := by decide +kernel
theorem dX4_read_84 : decode cX4_read 84 = .ok (.iload_n 2, 1) := by decide +kernel
theorem dX4_read_85 : decode cX4_read 85 = .ok (.aload_n 0, 1) := by decide +kernel
theorem dX4_read_86 : decode cX4_read 86 = .ok (.getfield 52, 3) := by decide +kernel
theorem dX4_read_89 : decode cX4_read 89 = .ok (.iload_n 2, 1) := by decide +kernel
theorem dX4_read_90 : decode cX4_read 90 = .ok (.iaload, 1) := by decide +kernel
theorem dX4_read_91 : decode cX4_read 91 = .ok (.iastore, 1) := by decide +kernel
theorem dX4_read_92 : decode cX4_read 92 = .ok (.iinc 2 1, 3) := by decide +kernel
theorem dX4_read_95 : decode cX4_read 95 = .ok (.goto (-23), 3) := by decide +kernel
theorem dX4_read_98 : decode cX4_read 98 = .ok (.iload_n 1, 1) := by decide +kernel
theorem dX4_read_99 : decode cX4_read 99 = .ok (.ireturn, 1) := by decide +kernel
theorem dX4_lesser_0 : decode cX4_lesser 0 = .ok (.iload_n 0, 1) := by decide +kernel
theorem dX4_lesser_1 : decode cX4_lesser 1 = .ok (.iload_n 1, 1) := by decide +kernel
theorem dX4_lesser_2 : decode cX4_lesser 2 = .ok (.if_icmp .ge 7, 3) := by decide +kernel
theorem dX4_lesser_5 : decode cX4_lesser 5 = .ok (.iload_n 0, 1) := by decide +kernel
theorem dX4_lesser_6 : decode cX4_lesser 6 = .ok (.goto 4, 3) := by decide +kernel
theorem dX4_lesser_9 : decode cX4_lesser 9 = .ok (.iload_n 1, 1) := by decide +kernel
theorem dX4_lesser_10 : decode cX4_lesser 10 = .ok (.ireturn, 1) := by decide +kernel
theorem dX4_soundBy_0 : decode cX4_soundBy 0 = .ok (.iload_n 1, 1) := by decide +kernel
theorem dX4_soundBy_1 : decode cX4_soundBy 1 = .ok (.iconst 2, 1) := by decide +kernel
theorem dX4_soundBy_2 : decode cX4_soundBy 2 = .ok (.if_icmp .ge 7, 3) := by decide +kernel
theorem dX4_soundBy_5 : decode cX4_soundBy 5 = .ok (.iconst 0, 1) := by decide +kernel
theorem dX4_soundBy_6 : decode cX4_soundBy 6 = .ok (.goto 6, 3) := by decide +kernel
theorem dX4_soundBy_9 : decode cX4_soundBy 9 = .ok (.iload_n 1, 1) := by decide +kernel
theorem dX4_soundBy_10 : decode cX4_soundBy 10 = .ok (.iconst 2, 1) := by decide +kernel
theorem dX4_soundBy_11 : decode cX4_soundBy 11 = .ok (.isub, 1) := by decide +kernel
theorem dX4_soundBy_12 : decode cX4_soundBy 12 = .ok (.istore_n 3, 1) := by decide +kernel
theorem dX4_soundBy_13 : decode cX4_soundBy 13 = .ok (.iload_n 0, 1) := by decide +kernel
theorem dX4_soundBy_14 : decode cX4_soundBy 14 = .ok (.tableswitch 73 1 5 #[34, 36, 73, 45, 64], 34) := by decide +kernel
theorem dX4_soundBy_48 : decode cX4_soundBy 48 = .ok (.iload_n 3, 1) := by decide +kernel
theorem dX4_soundBy_49 : decode cX4_soundBy 49 = .ok (.ireturn, 1) := by decide +kernel
theorem dX4_soundBy_50 : decode cX4_soundBy 50 = .ok (.bipush 9, 2) := by decide +kernel
theorem dX4_soundBy_52 : decode cX4_soundBy 52 = .ok (.iload_n 1, 1) := by decide +kernel
theorem dX4_soundBy_53 : decode cX4_soundBy 53 = .ok (.iconst 2, 1) := by decide +kernel
theorem dX4_soundBy_54 : decode cX4_soundBy 54 = .ok (.iadd, 1) := by decide +kernel
theorem dX4_soundBy_55 : decode cX4_soundBy 55 = .ok (.invokestatic 173, 3) := by decide +kernel
theorem dX4_soundBy_58 : decode cX4_soundBy 58 = .ok (.ireturn, 1) := by decide +kernel
theorem dX4_soundBy_59 : decode cX4_soundBy 59 = .ok (.iload_n 2, 1) := by decide +kernel
theorem dX4_soundBy_60 : decode cX4_soundBy 60 = .ok (.iconst 2, 1) := by decide +kernel
theorem dX4_soundBy_61 : decode cX4_soundBy 61 = .ok (.irem, 1) := by decide +kernel
theorem dX4_soundBy_62 : decode cX4_soundBy 62 = .ok (.iconst 1, 1) := by decide +kernel
theorem dX4_soundBy_63 : decode cX4_soundBy 63 = .ok (.if_icmp .ne 13, 3) := by decide +kernel
theorem dX4_soundBy_66 : decode cX4_soundBy 66 = .ok (.iload_n 3, 1) := by decide +kernel
theorem dX4_soundBy_67 : decode cX4_soundBy 67 = .ok (.ifCond .le 9, 3) := by decide +kernel
theorem dX4_soundBy_70 : decode cX4_soundBy 70 = .ok (.iload_n 3, 1) := by decide +kernel
theorem dX4_soundBy_71 : decode cX4_soundBy 71 = .ok (.iconst 1, 1) := by decide +kernel
theorem dX4_soundBy_72 : decode cX4_soundBy 72 = .ok (.isub, 1) := by decide +kernel
theorem dX4_soundBy_73 : decode cX4_soundBy 73 = .ok (.goto 4, 3) := by decide +kernel
theorem dX4_soundBy_76 : decode cX4_soundBy 76 = .ok (.iload_n 3, 1) := by decide +kernel
theorem dX4_soundBy_77 : decode cX4_soundBy 77 = .ok (.ireturn, 1) := by decide +kernel
theorem dX4_soundBy_78 : decode cX4_soundBy 78 = .ok (.bipush 9, 2) := by decide +kernel
theorem dX4_soundBy_80 : decode cX4_soundBy 80 = .ok (.iload_n 1, 1) := by decide +kernel
theorem dX4_soundBy_81 : decode cX4_soundBy 81 = .ok (.iconst 2, 1) := by decide +kernel
theorem dX4_soundBy_82 : decode cX4_soundBy 82 = .ok (.iadd, 1) := by decide +kernel
theorem dX4_soundBy_83 : decode cX4_soundBy 83 = .ok (.invokestatic 173, 3) := by decide +kernel
theorem dX4_soundBy_86 : decode cX4_soundBy 86 = .ok (.ireturn, 1) := by decide +kernel
theorem dX4_soundBy_87 : decode cX4_soundBy 87 = .ok (.iload_n 1, 1) := by decide +kernel
theorem dX4_soundBy_88 : decode cX4_soundBy 88 = .ok (.ireturn, 1) := by decide +kernel
theorem dX4_slipBy_0 : decode cX4_slipBy 0 = .ok (.iload_n 1, 1) := by decide +kernel
theorem dX4_slipBy_1 : decode cX4_slipBy 1 = .ok (.iconst 2, 1) := by decide +kernel
theorem dX4_slipBy_2 : decode cX4_slipBy 2 = .ok (.if_icmp .gt 7, 3) := by decide +kernel
theorem dX4_slipBy_5 : decode cX4_slipBy 5 = .ok (.iconst 1, 1) := by decide +kernel
theorem dX4_slipBy_6 : decode cX4_slipBy 6 = .ok (.goto 4, 3) := by decide +kernel
theorem dX4_slipBy_9 : decode cX4_slipBy 9 = .ok (.iconst 0, 1) := by decide +kernel
theorem dX4_slipBy_10 : decode cX4_slipBy 10 = .ok (.istore_n 2, 1) := by decide +kernel
theorem dX4_slipBy_11 : decode cX4_slipBy 11 = .ok (.iload_n 0, 1) := by decide +kernel
theorem dX4_slipBy_12 : decode cX4_slipBy 12 = .ok (.tableswitch 55 2 5 #[32, 36, 55, 49], 32) := by decide +kernel
theorem dX4_slipBy_44 : decode cX4_slipBy 44 = .ok (.iload_n 2, 1) := by decide +kernel
theorem dX4_slipBy_45 : decode cX4_slipBy 45 = .ok (.iconst 1, 1) := by decide +kernel
theorem dX4_slipBy_46 : decode cX4_slipBy 46 = .ok (.iadd, 1) := by decide +kernel
theorem dX4_slipBy_47 : decode cX4_slipBy 47 = .ok (.ireturn, 1) := by decide +kernel
theorem dX4_slipBy_48 : decode cX4_slipBy 48 = .ok (.iload_n 1, 1) := by decide +kernel
theorem dX4_slipBy_49 : decode cX4_slipBy 49 = .ok (.iconst 2, 1) := by decide +kernel
theorem dX4_slipBy_50 : decode cX4_slipBy 50 = .ok (.if_icmp .ge 9, 3) := by decide +kernel
theorem dX4_slipBy_53 : decode cX4_slipBy 53 = .ok (.iconst 3, 1) := by decide +kernel
theorem dX4_slipBy_54 : decode cX4_slipBy 54 = .ok (.iload_n 1, 1) := by decide +kernel
theorem dX4_slipBy_55 : decode cX4_slipBy 55 = .ok (.isub, 1) := by decide +kernel
theorem dX4_slipBy_56 : decode cX4_slipBy 56 = .ok (.goto 4, 3) := by decide +kernel
theorem dX4_slipBy_59 : decode cX4_slipBy 59 = .ok (.iconst 1, 1) := by decide +kernel
theorem dX4_slipBy_60 : decode cX4_slipBy 60 = .ok (.ireturn, 1) := by decide +kernel
theorem dX4_slipBy_61 : decode cX4_slipBy 61 = .ok (.iconst 2, 1) := by decide +kernel
theorem dX4_slipBy_62 : decode cX4_slipBy 62 = .ok (.iload_n 2, 1) := by decide +kernel
theorem dX4_slipBy_63 : decode cX4_slipBy 63 = .ok (.iconst 1, 1) := by decide +kernel
theorem dX4_slipBy_64 : decode cX4_slipBy 64 = .ok (.iadd, 1) := by decide +kernel
theorem dX4_slipBy_65 : decode cX4_slipBy 65 = .ok (.imul, 1) := by decide +kernel
theorem dX4_slipBy_66 : decode cX4_slipBy 66 = .ok (.ireturn, 1) := by decide +kernel
theorem dX4_slipBy_67 : decode cX4_slipBy 67 = .ok (.iload_n 2, 1) := by decide +kernel
theorem dX4_slipBy_68 : decode cX4_slipBy 68 = .ok (.ireturn, 1) := by decide +kernel
theorem dX4_sound_0 : decode cX4_sound 0 = .ok (.aload_n 0, 1) := by decide +kernel
theorem dX4_sound_1 : decode cX4_sound 1 = .ok (.getfield 13, 3) := by decide +kernel
theorem dX4_sound_4 : decode cX4_sound 4 = .ok (.iload_n 1, 1) := by decide +kernel
theorem dX4_sound_5 : decode cX4_sound 5 = .ok (.iaload, 1) := by decide +kernel
theorem dX4_sound_6 : decode cX4_sound 6 = .ok (.aload_n 0, 1) := by decide +kernel
theorem dX4_sound_7 : decode cX4_sound 7 = .ok (.getfield 16, 3) := by decide +kernel
theorem dX4_sound_10 : decode cX4_sound 10 = .ok (.iload_n 1, 1) := by decide +kernel
theorem dX4_sound_11 : decode cX4_sound 11 = .ok (.iaload, 1) := by decide +kernel
theorem dX4_sound_12 : decode cX4_sound 12 = .ok (.aload_n 0, 1) := by decide +kernel
theorem dX4_sound_13 : decode cX4_sound 13 = .ok (.getfield 84, 3) := by decide +kernel
theorem dX4_sound_16 : decode cX4_sound 16 = .ok (.invokestatic 177, 3) := by decide +kernel
theorem dX4_sound_19 : decode cX4_sound 19 = .ok (.ireturn, 1) := by decide +kernel
theorem dX4_fitWith_0 : decode cX4_fitWith 0 = .ok (.aload_n 0, 1) := by decide +kernel
theorem dX4_fitWith_1 : decode cX4_fitWith 1 = .ok (.iload_n 2, 1) := by decide +kernel
theorem dX4_fitWith_2 : decode cX4_fitWith 2 = .ok (.invokevirtual 180, 3) := by decide +kernel
theorem dX4_fitWith_5 : decode cX4_fitWith 5 = .ok (.aload_n 0, 1) := by decide +kernel
theorem dX4_fitWith_6 : decode cX4_fitWith 6 = .ok (.getfield 19, 3) := by decide +kernel
theorem dX4_fitWith_9 : decode cX4_fitWith 9 = .ok (.iload_n 1, 1) := by decide +kernel
theorem dX4_fitWith_10 : decode cX4_fitWith 10 = .ok (.iaload, 1) := by decide +kernel
theorem dX4_fitWith_11 : decode cX4_fitWith 11 = .ok (.isub, 1) := by decide +kernel
theorem dX4_fitWith_12 : decode cX4_fitWith 12 = .ok (.istore_n 3, 1) := by decide +kernel
theorem dX4_fitWith_13 : decode cX4_fitWith 13 = .ok (.bipush 9, 2) := by decide +kernel
theorem dX4_fitWith_15 : decode cX4_fitWith 15 = .ok (.iload_n 3, 1) := by decide +kernel
theorem dX4_fitWith_16 : decode cX4_fitWith 16 = .ok (.ifCond .ge 8, 3) := by decide +kernel
theorem dX4_fitWith_19 : decode cX4_fitWith 19 = .ok (.iload_n 3, 1) := by decide +kernel
theorem dX4_fitWith_20 : decode cX4_fitWith 20 = .ok (.ineg, 1) := by decide +kernel
theorem dX4_fitWith_21 : decode cX4_fitWith 21 = .ok (.goto 4, 3) := by decide +kernel
theorem dX4_fitWith_24 : decode cX4_fitWith 24 = .ok (.iload_n 3, 1) := by decide +kernel
theorem dX4_fitWith_25 : decode cX4_fitWith 25 = .ok (.isub, 1) := by decide +kernel
theorem dX4_fitWith_26 : decode cX4_fitWith 26 = .ok (.ireturn, 1) := by decide +kernel
theorem dX4_voiceOf_0 : decode cX4_voiceOf 0 = .ok (.iconst (-1), 1) := by decide +kernel
theorem dX4_voiceOf_1 : decode cX4_voiceOf 1 = .ok (.istore_n 2, 1) := by decide +kernel
theorem dX4_voiceOf_2 : decode cX4_voiceOf 2 = .ok (.iconst 0, 1) := by decide +kernel
theorem dX4_voiceOf_3 : decode cX4_voiceOf 3 = .ok (.istore_n 3, 1) := by decide +kernel
theorem dX4_voiceOf_4 : decode cX4_voiceOf 4 = .ok (.iload_n 3, 1) := by decide +kernel
theorem dX4_voiceOf_5 : decode cX4_voiceOf 5 = .ok (.aload_n 0, 1) := by decide +kernel
theorem dX4_voiceOf_6 : decode cX4_voiceOf 6 = .ok (.getfield 80, 3) := by decide +kernel
theorem dX4_voiceOf_9 : decode cX4_voiceOf 9 = .ok (.if_icmp .ge 25, 3) := by decide +kernel
theorem dX4_voiceOf_12 : decode cX4_voiceOf 12 = .ok (.aload_n 0, 1) := by decide +kernel
theorem dX4_voiceOf_13 : decode cX4_voiceOf 13 = .ok (.getfield 22, 3) := by decide +kernel
theorem dX4_voiceOf_16 : decode cX4_voiceOf 16 = .ok (.iload_n 3, 1) := by decide +kernel
theorem dX4_voiceOf_17 : decode cX4_voiceOf 17 = .ok (.iaload, 1) := by decide +kernel
theorem dX4_voiceOf_18 : decode cX4_voiceOf 18 = .ok (.iload_n 1, 1) := by decide +kernel
theorem dX4_voiceOf_19 : decode cX4_voiceOf 19 = .ok (.if_icmp .ne 7, 3) := by decide +kernel
theorem dX4_voiceOf_22 : decode cX4_voiceOf 22 = .ok (.iload_n 3, 1) := by decide +kernel
theorem dX4_voiceOf_23 : decode cX4_voiceOf 23 = .ok (.goto 4, 3) := by decide +kernel
theorem dX4_voiceOf_26 : decode cX4_voiceOf 26 = .ok (.iload_n 2, 1) := by decide +kernel
theorem dX4_voiceOf_27 : decode cX4_voiceOf 27 = .ok (.istore_n 2, 1) := by decide +kernel
theorem dX4_voiceOf_28 : decode cX4_voiceOf 28 = .ok (.iinc 3 1, 3) := by decide +kernel
