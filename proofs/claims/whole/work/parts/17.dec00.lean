theorem dX0_init_0 : decode cX0_init 0 = .ok (.aload_n 0, 1) := by decide +kernel
theorem dX0_init_1 : decode cX0_init 1 = .ok (.invokespecial 3, 3) := by decide +kernel
theorem dX0_init_4 : decode cX0_init 4 = .ok (.aload_n 0, 1) := by decide +kernel
theorem dX0_init_5 : decode cX0_init 5 = .ok (.iconst 0, 1) := by decide +kernel
theorem dX0_init_6 : decode cX0_init 6 = .ok (.putfield 9, 3) := by decide +kernel
theorem dX0_init_9 : decode cX0_init 9 = .ok (.aload_n 0, 1) := by decide +kernel
theorem dX0_init_10 : decode cX0_init 10 = .ok (.iconst 0, 1) := by decide +kernel
theorem dX0_init_11 : decode cX0_init 11 = .ok (.putfield 15, 3) := by decide +kernel
theorem dX0_init_14 : decode cX0_init 14 = .ok (.aload_n 0, 1) := by decide +kernel
theorem dX0_init_15 : decode cX0_init 15 = .ok (.iconst 0, 1) := by decide +kernel
theorem dX0_init_16 : decode cX0_init 16 = .ok (.putfield 18, 3) := by decide +kernel
theorem dX0_init_19 : decode cX0_init 19 = .ok (.aload_n 0, 1) := by decide +kernel
theorem dX0_init_20 : decode cX0_init 20 = .ok (.iconst 0, 1) := by decide +kernel
theorem dX0_init_21 : decode cX0_init 21 = .ok (.putfield 21, 3) := by decide +kernel
theorem dX0_init_24 : decode cX0_init 24 = .ok (.aload_n 0, 1) := by decide +kernel
theorem dX0_init_25 : decode cX0_init 25 = .ok (.bipush 6, 2) := by decide +kernel
theorem dX0_init_27 : decode cX0_init 27 = .ok (.newarray .int, 2) := by decide +kernel
theorem dX0_init_29 : decode cX0_init 29 = .ok (.putfield 24, 3) := by decide +kernel
theorem dX0_init_32 : decode cX0_init 32 = .ok (.aload_n 0, 1) := by decide +kernel
theorem dX0_init_33 : decode cX0_init 33 = .ok (.bipush 6, 2) := by decide +kernel
theorem dX0_init_35 : decode cX0_init 35 = .ok (.newarray .int, 2) := by decide +kernel
theorem dX0_init_37 : decode cX0_init 37 = .ok (.putfield 28, 3) := by decide +kernel
theorem dX0_init_40 : decode cX0_init 40 = .ok (.aload_n 0, 1) := by decide +kernel
theorem dX0_init_41 : decode cX0_init 41 = .ok (.bipush 6, 2) := by decide +kernel
theorem dX0_init_43 : decode cX0_init 43 = .ok (.newarray .int, 2) := by decide +kernel
theorem dX0_init_45 : decode cX0_init 45 = .ok (.putfield 31, 3) := by decide +kernel
theorem dX0_init_48 : decode cX0_init 48 = .ok (.aload_n 0, 1) := by decide +kernel
theorem dX0_init_49 : decode cX0_init 49 = .ok (.bipush 6, 2) := by decide +kernel
theorem dX0_init_51 : decode cX0_init 51 = .ok (.newarray .int, 2) := by decide +kernel
theorem dX0_init_53 : decode cX0_init 53 = .ok (.putfield 34, 3) := by decide +kernel
theorem dX0_init_56 : decode cX0_init 56 = .ok (.aload_n 0, 1) := by decide +kernel
theorem dX0_init_57 : decode cX0_init 57 = .ok (.bipush 6, 2) := by decide +kernel
theorem dX0_init_59 : decode cX0_init 59 = .ok (.newarray .int, 2) := by decide +kernel
theorem dX0_init_61 : decode cX0_init 61 = .ok (.putfield 37, 3) := by decide +kernel
theorem dX0_init_64 : decode cX0_init 64 = .ok (.aload_n 0, 1) := by decide +kernel
theorem dX0_init_65 : decode cX0_init 65 = .ok (.bipush 6, 2) := by decide +kernel
theorem dX0_init_67 : decode cX0_init 67 = .ok (.newarray .int, 2) := by decide +kernel
theorem dX0_init_69 : decode cX0_init 69 = .ok (.putfield 40, 3) := by decide +kernel
theorem dX0_init_72 : decode cX0_init 72 = .ok (.aload_n 0, 1) := by decide +kernel
theorem dX0_init_73 : decode cX0_init 73 = .ok (.bipush 30, 2) := by decide +kernel
theorem dX0_init_75 : decode cX0_init 75 = .ok (.newarray .int, 2) := by decide +kernel
theorem dX0_init_77 : decode cX0_init 77 = .ok (.putfield 43, 3) := by decide +kernel
theorem dX0_init_80 : decode cX0_init 80 = .ok (.aload_n 0, 1) := by decide +kernel
theorem dX0_init_81 : decode cX0_init 81 = .ok (.sipush 152, 3) := by decide +kernel
theorem dX0_init_84 : decode cX0_init 84 = .ok (.newarray .int, 2) := by decide +kernel
theorem dX0_init_86 : decode cX0_init 86 = .ok (.putfield 46, 3) := by decide +kernel
theorem dX0_init_89 : decode cX0_init 89 = .ok (.return_, 1) := by decide +kernel
theorem dX0_empty_0 : decode cX0_empty 0 = .ok (.aload_n 0, 1) := by decide +kernel
theorem dX0_empty_1 : decode cX0_empty 1 = .ok (.iconst 0, 1) := by decide +kernel
theorem dX0_empty_2 : decode cX0_empty 2 = .ok (.putfield 9, 3) := by decide +kernel
theorem dX0_empty_5 : decode cX0_empty 5 = .ok (.aload_n 0, 1) := by decide +kernel
theorem dX0_empty_6 : decode cX0_empty 6 = .ok (.iconst 0, 1) := by decide +kernel
theorem dX0_empty_7 : decode cX0_empty 7 = .ok (.putfield 15, 3) := by decide +kernel
theorem dX0_empty_10 : decode cX0_empty 10 = .ok (.aload_n 0, 1) := by decide +kernel
theorem dX0_empty_11 : decode cX0_empty 11 = .ok (.iconst 0, 1) := by decide +kernel
theorem dX0_empty_12 : decode cX0_empty 12 = .ok (.putfield 18, 3) := by decide +kernel
theorem dX0_empty_15 : decode cX0_empty 15 = .ok (.aload_n 0, 1) := by decide +kernel
theorem dX0_empty_16 : decode cX0_empty 16 = .ok (.iconst 0, 1) := by decide +kernel
theorem dX0_empty_17 : decode cX0_empty 17 = .ok (.putfield 21, 3) := by decide +kernel
theorem dX0_empty_20 : decode cX0_empty 20 = .ok (.return_, 1) := by decide +kernel
theorem dX0_becomeLike_0 : decode cX0_becomeLike 0 = .ok (.aload_n 0, 1) := by decide +kernel
theorem dX0_becomeLike_1 : decode cX0_becomeLike 1 = .ok (.aload_n 1, 1) := by decide +kernel
theorem dX0_becomeLike_2 : decode cX0_becomeLike 2 = .ok (.getfield 9, 3) := by decide +kernel
theorem dX0_becomeLike_5 : decode cX0_becomeLike 5 = .ok (.putfield 9, 3) := by decide +kernel
theorem dX0_becomeLike_8 : decode cX0_becomeLike 8 = .ok (.aload_n 0, 1) := by decide +kernel
theorem dX0_becomeLike_9 : decode cX0_becomeLike 9 = .ok (.aload_n 1, 1) := by decide +kernel
theorem dX0_becomeLike_10 : decode cX0_becomeLike 10 = .ok (.getfield 15, 3) := by decide +kernel
theorem dX0_becomeLike_13 : decode cX0_becomeLike 13 = .ok (.putfield 15, 3) := by decide +kernel
theorem dX0_becomeLike_16 : decode cX0_becomeLike 16 = .ok (.aload_n 0, 1) := by decide +kernel
theorem dX0_becomeLike_17 : decode cX0_becomeLike 17 = .ok (.aload_n 1, 1) := by decide +kernel
theorem dX0_becomeLike_18 : decode cX0_becomeLike 18 = .ok (.getfield 18, 3) := by decide +kernel
theorem dX0_becomeLike_21 : decode cX0_becomeLike 21 = .ok (.putfield 18, 3) := by decide +kernel
theorem dX0_becomeLike_24 : decode cX0_becomeLike 24 = .ok (.aload_n 0, 1) := by decide +kernel
theorem dX0_becomeLike_25 : decode cX0_becomeLike 25 = .ok (.aload_n 1, 1) := by decide +kernel
theorem dX0_becomeLike_26 : decode cX0_becomeLike 26 = .ok (.getfield 21, 3) := by decide +kernel
theorem dX0_becomeLike_29 : decode cX0_becomeLike 29 = .ok (.putfield 21, 3) := by decide +kernel
theorem dX0_becomeLike_32 : decode cX0_becomeLike 32 = .ok (.aload_n 1, 1) := by decide +kernel
theorem dX0_becomeLike_33 : decode cX0_becomeLike 33 = .ok (.getfield 24, 3) := by decide +kernel
theorem dX0_becomeLike_36 : decode cX0_becomeLike 36 = .ok (.iconst 0, 1) := by decide +kernel
theorem dX0_becomeLike_37 : decode cX0_becomeLike 37 = .ok (.aload_n 0, 1) := by decide +kernel
theorem dX0_becomeLike_38 : decode cX0_becomeLike 38 = .ok (.getfield 24, 3) := by decide +kernel
theorem dX0_becomeLike_41 : decode cX0_becomeLike 41 = .ok (.iconst 0, 1) := by decide +kernel
theorem dX0_becomeLike_42 : decode cX0_becomeLike 42 = .ok (.bipush 6, 2) := by decide +kernel
theorem dX0_becomeLike_44 : decode cX0_becomeLike 44 = .ok (.invokestatic 49, 3) := by decide +kernel
theorem dX0_becomeLike_47 : decode cX0_becomeLike 47 = .ok (.aload_n 1, 1) := by decide +kernel
theorem dX0_becomeLike_48 : decode cX0_becomeLike 48 = .ok (.getfield 28, 3) := by decide +kernel
theorem dX0_becomeLike_51 : decode cX0_becomeLike 51 = .ok (.iconst 0, 1) := by decide +kernel
theorem dX0_becomeLike_52 : decode cX0_becomeLike 52 = .ok (.aload_n 0, 1) := by decide +kernel
theorem dX0_becomeLike_53 : decode cX0_becomeLike 53 = .ok (.getfield 28, 3) := by decide +kernel
theorem dX0_becomeLike_56 : decode cX0_becomeLike 56 = .ok (.iconst 0, 1) := by decide +kernel
theorem dX0_becomeLike_57 : decode cX0_becomeLike 57 = .ok (.bipush 6, 2) := by decide +kernel
theorem dX0_becomeLike_59 : decode cX0_becomeLike 59 = .ok (.invokestatic 49, 3) := by decide +kernel
theorem dX0_becomeLike_62 : decode cX0_becomeLike 62 = .ok (.aload_n 1, 1) := by decide +kernel
theorem dX0_becomeLike_63 : decode cX0_becomeLike 63 = .ok (.getfield 31, 3) := by decide +kernel
theorem dX0_becomeLike_66 : decode cX0_becomeLike 66 = .ok (.iconst 0, 1) := by decide +kernel
theorem dX0_becomeLike_67 : decode cX0_becomeLike 67 = .ok (.aload_n 0, 1) := by decide +kernel
theorem dX0_becomeLike_68 : decode cX0_becomeLike 68 = .ok (.getfield 31, 3) := by decide +kernel
theorem dX0_becomeLike_71 : decode cX0_becomeLike 71 = .ok (.iconst 0, 1) := by decide +kernel
theorem dX0_becomeLike_72 : decode cX0_becomeLike 72 = .ok (.bipush 6, 2) := by decide +kernel
theorem dX0_becomeLike_74 : decode cX0_becomeLike 74 = .ok (.invokestatic 49, 3) := by decide +kernel
theorem dX0_becomeLike_77 : decode cX0_becomeLike 77 = .ok (.aload_n 1, 1) := by decide +kernel
theorem dX0_becomeLike_78 : decode cX0_becomeLike 78 = .ok (.getfield 34, 3) := by decide +kernel
theorem dX0_becomeLike_81 : decode cX0_becomeLike 81 = .ok (.iconst 0, 1) := by decide +kernel
theorem dX0_becomeLike_82 : decode cX0_becomeLike 82 = .ok (.aload_n 0, 1) := by decide +kernel
theorem dX0_becomeLike_83 : decode cX0_becomeLike 83 = .ok (.getfield 34, 3) := by decide +kernel
theorem dX0_becomeLike_86 : decode cX0_becomeLike 86 = .ok (.iconst 0, 1) := by decide +kernel
theorem dX0_becomeLike_87 : decode cX0_becomeLike 87 = .ok (.bipush 6, 2) := by decide +kernel
theorem dX0_becomeLike_89 : decode cX0_becomeLike 89 = .ok (.invokestatic 49, 3) := by decide +kernel
theorem dX0_becomeLike_92 : decode cX0_becomeLike 92 = .ok (.aload_n 1, 1) := by decide +kernel
theorem dX0_becomeLike_93 : decode cX0_becomeLike 93 = .ok (.getfield 37, 3) := by decide +kernel
theorem dX0_becomeLike_96 : decode cX0_becomeLike 96 = .ok (.iconst 0, 1) := by decide +kernel
theorem dX0_becomeLike_97 : decode cX0_becomeLike 97 = .ok (.aload_n 0, 1) := by decide +kernel
theorem dX0_becomeLike_98 : decode cX0_becomeLike 98 = .ok (.getfield 37, 3) := by decide +kernel
theorem dX0_becomeLike_101 : decode cX0_becomeLike 101 = .ok (.iconst 0, 1) := by decide +kernel
theorem dX0_becomeLike_102 : decode cX0_becomeLike 102 = .ok (.bipush 6, 2) := by decide +kernel
theorem dX0_becomeLike_104 : decode cX0_becomeLike 104 = .ok (.invokestatic 49, 3) := by decide +kernel
theorem dX0_becomeLike_107 : decode cX0_becomeLike 107 = .ok (.aload_n 1, 1) := by decide +kernel
theorem dX0_becomeLike_108 : decode cX0_becomeLike 108 = .ok (.getfield 40, 3) := by decide +kernel
theorem dX0_becomeLike_111 : decode cX0_becomeLike 111 = .ok (.iconst 0, 1) := by decide +kernel
theorem dX0_becomeLike_112 : decode cX0_becomeLike 112 = .ok (.aload_n 0, 1) := by decide +kernel
theorem dX0_becomeLike_113 : decode cX0_becomeLike 113 = .ok (.getfield 40, 3) := by decide +kernel
theorem dX0_becomeLike_116 : decode cX0_becomeLike 116 = .ok (.iconst 0, 1) := by decide +kernel
theorem dX0_becomeLike_117 : decode cX0_becomeLike 117 = .ok (.bipush 6, 2) := by decide +kernel
theorem dX0_becomeLike_119 : decode cX0_becomeLike 119 = .ok (.invokestatic 49, 3) := by decide +kernel
theorem dX0_becomeLike_122 : decode cX0_becomeLike 122 = .ok (.aload_n 1, 1) := by decide +kernel
theorem dX0_becomeLike_123 : decode cX0_becomeLike 123 = .ok (.getfield 43, 3) := by decide +kernel
theorem dX0_becomeLike_126 : decode cX0_becomeLike 126 = .ok (.iconst 0, 1) := by decide +kernel
theorem dX0_becomeLike_127 : decode cX0_becomeLike 127 = .ok (.aload_n 0, 1) := by decide +kernel
theorem dX0_becomeLike_128 : decode cX0_becomeLike 128 = .ok (.getfield 43, 3) := by decide +kernel
theorem dX0_becomeLike_131 : decode cX0_becomeLike 131 = .ok (.iconst 0, 1) := by decide +kernel
theorem dX0_becomeLike_132 : decode cX0_becomeLike 132 = .ok (.bipush 30, 2) := by decide +kernel
theorem dX0_becomeLike_134 : decode cX0_becomeLike 134 = .ok (.invokestatic 49, 3) := by decide +kernel
theorem dX0_becomeLike_137 : decode cX0_becomeLike 137 = .ok (.aload_n 1, 1) := by decide +kernel
theorem dX0_becomeLike_138 : decode cX0_becomeLike 138 = .ok (.getfield 46, 3) := by decide +kernel
theorem dX0_becomeLike_141 : decode cX0_becomeLike 141 = .ok (.iconst 0, 1) := by decide +kernel
theorem dX0_becomeLike_142 : decode cX0_becomeLike 142 = .ok (.aload_n 0, 1) := by decide +kernel
theorem dX0_becomeLike_143 : decode cX0_becomeLike 143 = .ok (.getfield 46, 3) := by decide +kernel
theorem dX0_becomeLike_146 : decode cX0_becomeLike 146 = .ok (.iconst 0, 1) := by decide +kernel
theorem dX0_becomeLike_147 : decode cX0_becomeLike 147 = .ok (.sipush 152, 3) := by decide +kernel
theorem dX0_becomeLike_150 : decode cX0_becomeLike 150 = .ok (.invokestatic 49, 3) := by decide +kernel
theorem dX0_becomeLike_153 : decode cX0_becomeLike 153 = .ok (.return_, 1) := by decide +kernel
theorem dX0_welcome_0 : decode cX0_welcome 0 = .ok (.aload_n 0, 1) := by decide +kernel
theorem dX0_welcome_1 : decode cX0_welcome 1 = .ok (.getfield 9, 3) := by decide +kernel
theorem dX0_welcome_4 : decode cX0_welcome 4 = .ok (.istore 4, 2) := by decide +kernel
theorem dX0_welcome_6 : decode cX0_welcome 6 = .ok (.aload_n 0, 1) := by decide +kernel
theorem dX0_welcome_7 : decode cX0_welcome 7 = .ok (.getfield 24, 3) := by decide +kernel
theorem dX0_welcome_10 : decode cX0_welcome 10 = .ok (.iload 4, 2) := by decide +kernel
theorem dX0_welcome_12 : decode cX0_welcome 12 = .ok (.iload_n 1, 1) := by decide +kernel
theorem dX0_welcome_13 : decode cX0_welcome 13 = .ok (.iastore, 1) := by decide +kernel
theorem dX0_welcome_14 : decode cX0_welcome 14 = .ok (.aload_n 0, 1) := by decide +kernel
theorem dX0_welcome_15 : decode cX0_welcome 15 = .ok (.getfield 28, 3) := by decide +kernel
theorem dX0_welcome_18 : decode cX0_welcome 18 = .ok (.iload 4, 2) := by decide +kernel
theorem dX0_welcome_20 : decode cX0_welcome 20 = .ok (.iload_n 2, 1) := by decide +kernel
theorem dX0_welcome_21 : decode cX0_welcome 21 = .ok (.iastore, 1) := by decide +kernel
theorem dX0_welcome_22 : decode cX0_welcome 22 = .ok (.aload_n 0, 1) := by decide +kernel
theorem dX0_welcome_23 : decode cX0_welcome 23 = .ok (.getfield 31, 3) := by decide +kernel
theorem dX0_welcome_26 : decode cX0_welcome 26 = .ok (.iload 4, 2) := by decide +kernel
theorem dX0_welcome_28 : decode cX0_welcome 28 = .ok (.iload_n 3, 1) := by decide +kernel
theorem dX0_welcome_29 : decode cX0_welcome 29 = .ok (.iastore, 1) := by decide +kernel
theorem dX0_welcome_30 : decode cX0_welcome 30 = .ok (.aload_n 0, 1) := by decide +kernel
theorem dX0_welcome_31 : decode cX0_welcome 31 = .ok (.getfield 34, 3) := by decide +kernel
theorem dX0_welcome_34 : decode cX0_welcome 34 = .ok (.iload 4, 2) := by decide +kernel
theorem dX0_welcome_36 : decode cX0_welcome 36 = .ok (.iload 4, 2) := by decide +kernel
theorem dX0_welcome_38 : decode cX0_welcome 38 = .ok (.iastore, 1) := by decide +kernel
theorem dX0_welcome_39 : decode cX0_welcome 39 = .ok (.aload_n 0, 1) := by decide +kernel
theorem dX0_welcome_40 : decode cX0_welcome 40 = .ok (.getfield 37, 3) := by decide +kernel
theorem dX0_welcome_43 : decode cX0_welcome 43 = .ok (.iload 4, 2) := by decide +kernel
theorem dX0_welcome_45 : decode cX0_welcome 45 = .ok (.iconst 0, 1) := by decide +kernel
theorem dX0_welcome_46 : decode cX0_welcome 46 = .ok (.iastore, 1) := by decide +kernel
theorem dX0_welcome_47 : decode cX0_welcome 47 = .ok (.aload_n 0, 1) := by decide +kernel
theorem dX0_welcome_48 : decode cX0_welcome 48 = .ok (.getfield 40, 3) := by decide +kernel
theorem dX0_welcome_51 : decode cX0_welcome 51 = .ok (.iload 4, 2) := by decide +kernel
theorem dX0_welcome_53 : decode cX0_welcome 53 = .ok (.iconst 0, 1) := by decide +kernel
theorem dX0_welcome_54 : decode cX0_welcome 54 = .ok (.iastore, 1) := by decide +kernel
theorem dX0_welcome_55 : decode cX0_welcome 55 = .ok (.aload_n 0, 1) := by decide +kernel
theorem dX0_welcome_56 : decode cX0_welcome 56 = .ok (.dup, 1) := by decide +kernel
theorem dX0_welcome_57 : decode cX0_welcome 57 = .ok (.getfield 9, 3) := by decide +kernel
theorem dX0_welcome_60 : decode cX0_welcome 60 = .ok (.iconst 1, 1) := by decide +kernel
theorem dX0_welcome_61 : decode cX0_welcome 61 = .ok (.iadd, 1) := by decide +kernel
theorem dX0_welcome_62 : decode cX0_welcome 62 = .ok (.putfield 9, 3) := by decide +kernel
theorem dX0_welcome_65 : decode cX0_welcome 65 = .ok (.aload_n 0, 1) := by decide +kernel
theorem dX0_welcome_66 : decode cX0_welcome 66 = .ok (.iconst 0, 1) := by decide +kernel
theorem dX0_welcome_67 : decode cX0_welcome 67 = .ok (.putfield 21, 3) := by decide +kernel
theorem dX0_welcome_70 : decode cX0_welcome 70 = .ok (.iload 4, 2) := by decide +kernel
theorem dX0_welcome_72 : decode cX0_welcome 72 = .ok (.ireturn, 1) := by decide +kernel
theorem dX0_voiceWith_0 : decode cX0_voiceWith 0 = .ok (.iconst 0, 1) := by decide +kernel
theorem dX0_voiceWith_1 : decode cX0_voiceWith 1 = .ok (.istore_n 2, 1) := by decide +kernel
theorem dX0_voiceWith_2 : decode cX0_voiceWith 2 = .ok (.iload_n 2, 1) := by decide +kernel
theorem dX0_voiceWith_3 : decode cX0_voiceWith 3 = .ok (.aload_n 0, 1) := by decide +kernel
theorem dX0_voiceWith_4 : decode cX0_voiceWith 4 = .ok (.getfield 9, 3) := by decide +kernel
theorem dX0_voiceWith_7 : decode cX0_voiceWith 7 = .ok (.if_icmp .ge 21, 3) := by decide +kernel
theorem dX0_voiceWith_10 : decode cX0_voiceWith 10 = .ok (.aload_n 0, 1) := by decide +kernel
theorem dX0_voiceWith_11 : decode cX0_voiceWith 11 = .ok (.getfield 34, 3) := by decide +kernel
theorem dX0_voiceWith_14 : decode cX0_voiceWith 14 = .ok (.iload_n 2, 1) := by decide +kernel
theorem dX0_voiceWith_15 : decode cX0_voiceWith 15 = .ok (.iaload, 1) := by decide +kernel
theorem dX0_voiceWith_16 : decode cX0_voiceWith 16 = .ok (.iload_n 1, 1) := by decide +kernel
theorem dX0_voiceWith_17 : decode cX0_voiceWith 17 = .ok (.if_icmp .ne 5, 3) := by decide +kernel
theorem dX0_voiceWith_20 : decode cX0_voiceWith 20 = .ok (.iload_n 2, 1) := by decide +kernel
theorem dX0_voiceWith_21 : decode cX0_voiceWith 21 = .ok (.ireturn, 1) := by decide +kernel
theorem dX0_voiceWith_22 : decode cX0_voiceWith 22 = .ok (.iinc 2 1, 3) := by decide +kernel
theorem dX0_voiceWith_25 : decode cX0_voiceWith 25 = .ok (.goto (-23), 3) := by decide +kernel
theorem dX0_voiceWith_28 : decode cX0_voiceWith 28 = .ok (.iconst (-1), 1) := by decide +kernel
theorem dX0_voiceWith_29 : decode cX0_voiceWith 29 = .ok (.ireturn, 1) := by decide +kernel
theorem dX0_give_0 : decode cX0_give 0 = .ok (.aload_n 0, 1) := by decide +kernel
theorem dX0_give_1 : decode cX0_give 1 = .ok (.iload_n 2, 1) := by decide +kernel
theorem dX0_give_2 : decode cX0_give 2 = .ok (.invokevirtual 55, 3) := by decide +kernel
theorem dX0_give_5 : decode cX0_give 5 = .ok (.istore_n 3, 1) := by decide +kernel
theorem dX0_give_6 : decode cX0_give 6 = .ok (.iload_n 3, 1) := by decide +kernel
theorem dX0_give_7 : decode cX0_give 7 = .ok (.iconst (-1), 1) := by decide +kernel
theorem dX0_give_8 : decode cX0_give 8 = .ok (.if_icmp .eq 8, 3) := by decide +kernel
theorem dX0_give_11 : decode cX0_give 11 = .ok (.aload_n 0, 1) := by decide +kernel
theorem dX0_give_12 : decode cX0_give 12 = .ok (.iload_n 3, 1) := by decide +kernel
theorem dX0_give_13 : decode cX0_give 13 = .ok (.invokevirtual 59, 3) := by decide +kernel
theorem dX0_give_16 : decode cX0_give 16 = .ok (.aload_n 0, 1) := by decide +kernel
theorem dX0_give_17 : decode cX0_give 17 = .ok (.getfield 34, 3) := by decide +kernel
theorem dX0_give_20 : decode cX0_give 20 = .ok (.iload_n 1, 1) := by decide +kernel
theorem dX0_give_21 : decode cX0_give 21 = .ok (.iload_n 2, 1) := by decide +kernel
theorem dX0_give_22 : decode cX0_give 22 = .ok (.iastore, 1) := by decide +kernel
theorem dX0_give_23 : decode cX0_give 23 = .ok (.aload_n 0, 1) := by decide +kernel
theorem dX0_give_24 : decode cX0_give 24 = .ok (.getfield 37, 3) := by decide +kernel
theorem dX0_give_27 : decode cX0_give 27 = .ok (.iload_n 1, 1) := by decide +kernel
theorem dX0_give_28 : decode cX0_give 28 = .ok (.iconst 0, 1) := by decide +kernel
theorem dX0_give_29 : decode cX0_give 29 = .ok (.iastore, 1) := by decide +kernel
theorem dX0_give_30 : decode cX0_give 30 = .ok (.iload_n 3, 1) := by decide +kernel
theorem dX0_give_31 : decode cX0_give 31 = .ok (.ireturn, 1) := by decide +kernel
theorem dX0_putDown_0 : decode cX0_putDown 0 = .ok (.aload_n 0, 1) := by decide +kernel
theorem dX0_putDown_1 : decode cX0_putDown 1 = .ok (.getfield 34, 3) := by decide +kernel
theorem dX0_putDown_4 : decode cX0_putDown 4 = .ok (.iload_n 1, 1) := by decide +kernel
theorem dX0_putDown_5 : decode cX0_putDown 5 = .ok (.iconst (-1), 1) := by decide +kernel
theorem dX0_putDown_6 : decode cX0_putDown 6 = .ok (.iastore, 1) := by decide +kernel
theorem dX0_putDown_7 : decode cX0_putDown 7 = .ok (.aload_n 0, 1) := by decide +kernel
theorem dX0_putDown_8 : decode cX0_putDown 8 = .ok (.getfield 37, 3) := by decide +kernel
theorem dX0_putDown_11 : decode cX0_putDown 11 = .ok (.iload_n 1, 1) := by decide +kernel
theorem dX0_putDown_12 : decode cX0_putDown 12 = .ok (.iconst 0, 1) := by decide +kernel
theorem dX0_putDown_13 : decode cX0_putDown 13 = .ok (.iastore, 1) := by decide +kernel
theorem dX0_putDown_14 : decode cX0_putDown 14 = .ok (.return_, 1) := by decide +kernel
theorem dX0_isWithAnother_0 : decode cX0_isWithAnother 0 = .ok (.aload_n 0, 1) := by decide +kernel
theorem dX0_isWithAnother_1 : decode cX0_isWithAnother 1 = .ok (.getfield 34, 3) := by decide +kernel
theorem dX0_isWithAnother_4 : decode cX0_isWithAnother 4 = .ok (.iload_n 1, 1) := by decide +kernel
theorem dX0_isWithAnother_5 : decode cX0_isWithAnother 5 = .ok (.iaload, 1) := by decide +kernel
theorem dX0_isWithAnother_6 : decode cX0_isWithAnother 6 = .ok (.iconst (-1), 1) := by decide +kernel
theorem dX0_isWithAnother_7 : decode cX0_isWithAnother 7 = .ok (.if_icmp .eq 17, 3) := by decide +kernel
theorem dX0_isWithAnother_10 : decode cX0_isWithAnother 10 = .ok (.aload_n 0, 1) := by decide +kernel
theorem dX0_isWithAnother_11 : decode cX0_isWithAnother 11 = .ok (.getfield 34, 3) := by decide +kernel
theorem dX0_isWithAnother_14 : decode cX0_isWithAnother 14 = .ok (.iload_n 1, 1) := by decide +kernel
theorem dX0_isWithAnother_15 : decode cX0_isWithAnother 15 = .ok (.iaload, 1) := by decide +kernel
theorem dX0_isWithAnother_16 : decode cX0_isWithAnother 16 = .ok (.iload_n 1, 1) := by decide +kernel
theorem dX0_isWithAnother_17 : decode cX0_isWithAnother 17 = .ok (.if_icmp .eq 7, 3) := by decide +kernel
theorem dX0_isWithAnother_20 : decode cX0_isWithAnother 20 = .ok (.iconst 1, 1) := by decide +kernel
theorem dX0_isWithAnother_21 : decode cX0_isWithAnother 21 = .ok (.goto 4, 3) := by decide +kernel
theorem dX0_isWithAnother_24 : decode cX0_isWithAnother 24 = .ok (.iconst 0, 1) := by decide +kernel
theorem dX0_isWithAnother_25 : decode cX0_isWithAnother 25 = .ok (.ireturn, 1) := by decide +kernel
theorem dX0_goOneEvening_0 : decode cX0_goOneEvening 0 = .ok (.aload_n 0, 1) := by decide +kernel
theorem dX0_goOneEvening_1 : decode cX0_goOneEvening 1 = .ok (.getfield 15, 3) := by decide +kernel
theorem dX0_goOneEvening_4 : decode cX0_goOneEvening 4 = .ok (.sipush 999, 3) := by decide +kernel
theorem dX0_goOneEvening_7 : decode cX0_goOneEvening 7 = .ok (.if_icmp .lt 5, 3) := by decide +kernel
theorem dX0_goOneEvening_10 : decode cX0_goOneEvening 10 = .ok (.iconst 0, 1) := by decide +kernel
theorem dX0_goOneEvening_11 : decode cX0_goOneEvening 11 = .ok (.ireturn, 1) := by decide +kernel
theorem dX0_goOneEvening_12 : decode cX0_goOneEvening 12 = .ok (.iconst 0, 1) := by decide +kernel
theorem dX0_goOneEvening_13 : decode cX0_goOneEvening 13 = .ok (.istore_n 1, 1) := by decide +kernel
theorem dX0_goOneEvening_14 : decode cX0_goOneEvening 14 = .ok (.iconst 0, 1) := by decide +kernel
theorem dX0_goOneEvening_15 : decode cX0_goOneEvening 15 = .ok (.istore_n 2, 1) := by decide +kernel
theorem dX0_goOneEvening_16 : decode cX0_goOneEvening 16 = .ok (.iload_n 2, 1) := by decide +kernel
theorem dX0_goOneEvening_17 : decode cX0_goOneEvening 17 = .ok (.aload_n 0, 1) := by decide +kernel
theorem dX0_goOneEvening_18 : decode cX0_goOneEvening 18 = .ok (.getfield 9, 3) := by decide +kernel
theorem dX0_goOneEvening_21 : decode cX0_goOneEvening 21 = .ok (.if_icmp .ge 67, 3) := by decide +kernel
theorem dX0_goOneEvening_24 : decode cX0_goOneEvening 24 = .ok (.aload_n 0, 1) := by decide +kernel
theorem dX0_goOneEvening_25 : decode cX0_goOneEvening 25 = .ok (.iload_n 2, 1) := by decide +kernel
theorem dX0_goOneEvening_26 : decode cX0_goOneEvening 26 = .ok (.invokevirtual 63, 3) := by decide +kernel
theorem dX0_goOneEvening_29 : decode cX0_goOneEvening 29 = .ok (.ifCond .eq 33, 3) := by decide +kernel
theorem dX0_goOneEvening_32 : decode cX0_goOneEvening 32 = .ok (.aload_n 0, 1) := by decide +kernel
theorem dX0_goOneEvening_33 : decode cX0_goOneEvening 33 = .ok (.getfield 24, 3) := by decide +kernel
theorem dX0_goOneEvening_36 : decode cX0_goOneEvening 36 = .ok (.iload_n 2, 1) := by decide +kernel
theorem dX0_goOneEvening_37 : decode cX0_goOneEvening 37 = .ok (.iaload, 1) := by decide +kernel
theorem dX0_goOneEvening_38 : decode cX0_goOneEvening 38 = .ok (.aload_n 0, 1) := by decide +kernel
theorem dX0_goOneEvening_39 : decode cX0_goOneEvening 39 = .ok (.getfield 37, 3) := by decide +kernel
theorem dX0_goOneEvening_42 : decode cX0_goOneEvening 42 = .ok (.iload_n 2, 1) := by decide +kernel
theorem dX0_goOneEvening_43 : decode cX0_goOneEvening 43 = .ok (.iaload, 1) := by decide +kernel
theorem dX0_goOneEvening_44 : decode cX0_goOneEvening 44 = .ok (.invokestatic 67, 3) := by decide +kernel
theorem dX0_goOneEvening_47 : decode cX0_goOneEvening 47 = .ok (.istore_n 3, 1) := by decide +kernel
theorem dX0_goOneEvening_48 : decode cX0_goOneEvening 48 = .ok (.aload_n 0, 1) := by decide +kernel
theorem dX0_goOneEvening_49 : decode cX0_goOneEvening 49 = .ok (.getfield 40, 3) := by decide +kernel
theorem dX0_goOneEvening_52 : decode cX0_goOneEvening 52 = .ok (.iload_n 2, 1) := by decide +kernel
theorem dX0_goOneEvening_53 : decode cX0_goOneEvening 53 = .ok (.dup2, 1) := by decide +kernel
theorem dX0_goOneEvening_54 : decode cX0_goOneEvening 54 = .ok (.iaload, 1) := by decide +kernel
theorem dX0_goOneEvening_55 : decode cX0_goOneEvening 55 = .ok (.iload_n 3, 1) := by decide +kernel
theorem dX0_goOneEvening_56 : decode cX0_goOneEvening 56 = .ok (.iadd, 1) := by decide +kernel
theorem dX0_goOneEvening_57 : decode cX0_goOneEvening 57 = .ok (.iastore, 1) := by decide +kernel
theorem dX0_goOneEvening_58 : decode cX0_goOneEvening 58 = .ok (.iload_n 1, 1) := by decide +kernel
theorem dX0_goOneEvening_59 : decode cX0_goOneEvening 59 = .ok (.iload_n 3, 1) := by decide +kernel
theorem dX0_goOneEvening_60 : decode cX0_goOneEvening 60 = .ok (.iadd, 1) := by decide +kernel
theorem dX0_goOneEvening_61 : decode cX0_goOneEvening 61 = .ok (.istore_n 1, 1) := by decide +kernel
theorem dX0_goOneEvening_62 : decode cX0_goOneEvening 62 = .ok (.aload_n 0, 1) := by decide +kernel
theorem dX0_goOneEvening_63 : decode cX0_goOneEvening 63 = .ok (.getfield 34, 3) := by decide +kernel
theorem dX0_goOneEvening_66 : decode cX0_goOneEvening 66 = .ok (.iload_n 2, 1) := by decide +kernel
theorem dX0_goOneEvening_67 : decode cX0_goOneEvening 67 = .ok (.iaload, 1) := by decide +kernel
theorem dX0_goOneEvening_68 : decode cX0_goOneEvening 68 = .ok (.iconst (-1), 1) := by decide +kernel
theorem dX0_goOneEvening_69 : decode cX0_goOneEvening 69 = .ok (.if_icmp .eq 13, 3) := by decide +kernel
theorem dX0_goOneEvening_72 : decode cX0_goOneEvening 72 = .ok (.aload_n 0, 1) := by decide +kernel
theorem dX0_goOneEvening_73 : decode cX0_goOneEvening 73 = .ok (.getfield 37, 3) := by decide +kernel
theorem dX0_goOneEvening_76 : decode cX0_goOneEvening 76 = .ok (.iload_n 2, 1) := by decide +kernel
theorem dX0_goOneEvening_77 : decode cX0_goOneEvening 77 = .ok (.dup2, 1) := by decide +kernel
theorem dX0_goOneEvening_78 : decode cX0_goOneEvening 78 = .ok (.iaload, 1) := by decide +kernel
theorem dX0_goOneEvening_79 : decode cX0_goOneEvening 79 = .ok (.iconst 1, 1) := by decide +kernel
theorem dX0_goOneEvening_80 : decode cX0_goOneEvening 80 = .ok (.iadd, 1) := by decide +kernel
theorem dX0_goOneEvening_81 : decode cX0_goOneEvening 81 = .ok (.iastore, 1) := by decide +kernel
theorem dX0_goOneEvening_82 : decode cX0_goOneEvening 82 = .ok (.iinc 2 1, 3) := by decide +kernel
theorem dX0_goOneEvening_85 : decode cX0_goOneEvening 85 = .ok (.goto (-69), 3) := by decide +kernel
theorem dX0_goOneEvening_88 : decode cX0_goOneEvening 88 = .ok (.aload_n 0, 1) := by decide +kernel
theorem dX0_goOneEvening_89 : decode cX0_goOneEvening 89 = .ok (.dup, 1) := by decide +kernel
theorem dX0_goOneEvening_90 : decode cX0_goOneEvening 90 = .ok (.getfield 15, 3) := by decide +kernel
theorem dX0_goOneEvening_93 : decode cX0_goOneEvening 93 = .ok (.iconst 1, 1) := by decide +kernel
theorem dX0_goOneEvening_94 : decode cX0_goOneEvening 94 = .ok (.iadd, 1) := by decide +kernel
theorem dX0_goOneEvening_95 : decode cX0_goOneEvening 95 = .ok (.putfield 15, 3) := by decide +kernel
theorem dX0_goOneEvening_98 : decode cX0_goOneEvening 98 = .ok (.iload_n 1, 1) := by decide +kernel
theorem dX0_goOneEvening_99 : decode cX0_goOneEvening 99 = .ok (.ireturn, 1) := by decide +kernel
theorem dX0_keepPast_0 : decode cX0_keepPast 0 = .ok (.aload_n 0, 1) := by decide +kernel
theorem dX0_keepPast_1 : decode cX0_keepPast 1 = .ok (.getfield 21, 3) := by decide +kernel
theorem dX0_keepPast_4 : decode cX0_keepPast 4 = .ok (.bipush 8, 2) := by decide +kernel
theorem dX0_keepPast_6 : decode cX0_keepPast 6 = .ok (.if_icmp .lt 26, 3) := by decide +kernel
theorem dX0_keepPast_9 : decode cX0_keepPast 9 = .ok (.aload_n 0, 1) := by decide +kernel
theorem dX0_keepPast_10 : decode cX0_keepPast 10 = .ok (.getfield 46, 3) := by decide +kernel
theorem dX0_keepPast_13 : decode cX0_keepPast 13 = .ok (.bipush 19, 2) := by decide +kernel
theorem dX0_keepPast_15 : decode cX0_keepPast 15 = .ok (.aload_n 0, 1) := by decide +kernel
theorem dX0_keepPast_16 : decode cX0_keepPast 16 = .ok (.getfield 46, 3) := by decide +kernel
theorem dX0_keepPast_19 : decode cX0_keepPast 19 = .ok (.iconst 0, 1) := by decide +kernel
theorem dX0_keepPast_20 : decode cX0_keepPast 20 = .ok (.sipush 133, 3) := by decide +kernel
theorem dX0_keepPast_23 : decode cX0_keepPast 23 = .ok (.invokestatic 49, 3) := by decide +kernel
theorem dX0_keepPast_26 : decode cX0_keepPast 26 = .ok (.aload_n 0, 1) := by decide +kernel
theorem dX0_keepPast_27 : decode cX0_keepPast 27 = .ok (.bipush 7, 2) := by decide +kernel
theorem dX0_keepPast_29 : decode cX0_keepPast 29 = .ok (.putfield 21, 3) := by decide +kernel
theorem dX0_keepPast_32 : decode cX0_keepPast 32 = .ok (.aload_n 0, 1) := by decide +kernel
theorem dX0_keepPast_33 : decode cX0_keepPast 33 = .ok (.getfield 21, 3) := by decide +kernel
theorem dX0_keepPast_36 : decode cX0_keepPast 36 = .ok (.bipush 19, 2) := by decide +kernel
theorem dX0_keepPast_38 : decode cX0_keepPast 38 = .ok (.imul, 1) := by decide +kernel
theorem dX0_keepPast_39 : decode cX0_keepPast 39 = .ok (.istore_n 1, 1) := by decide +kernel
theorem dX0_keepPast_40 : decode cX0_keepPast 40 = .ok (.aload_n 0, 1) := by decide +kernel
theorem dX0_keepPast_41 : decode cX0_keepPast 41 = .ok (.getfield 34, 3) := by decide +kernel
theorem dX0_keepPast_44 : decode cX0_keepPast 44 = .ok (.iconst 0, 1) := by decide +kernel
theorem dX0_keepPast_45 : decode cX0_keepPast 45 = .ok (.aload_n 0, 1) := by decide +kernel
theorem dX0_keepPast_46 : decode cX0_keepPast 46 = .ok (.getfield 46, 3) := by decide +kernel
theorem dX0_keepPast_49 : decode cX0_keepPast 49 = .ok (.iload_n 1, 1) := by decide +kernel
theorem dX0_keepPast_50 : decode cX0_keepPast 50 = .ok (.bipush 6, 2) := by decide +kernel
theorem dX0_keepPast_52 : decode cX0_keepPast 52 = .ok (.invokestatic 49, 3) := by decide +kernel
theorem dX0_keepPast_55 : decode cX0_keepPast 55 = .ok (.aload_n 0, 1) := by decide +kernel
theorem dX0_keepPast_56 : decode cX0_keepPast 56 = .ok (.getfield 37, 3) := by decide +kernel
theorem dX0_keepPast_59 : decode cX0_keepPast 59 = .ok (.iconst 0, 1) := by decide +kernel
theorem dX0_keepPast_60 : decode cX0_keepPast 60 = .ok (.aload_n 0, 1) := by decide +kernel
theorem dX0_keepPast_61 : decode cX0_keepPast 61 = .ok (.getfield 46, 3) := by decide +kernel
theorem dX0_keepPast_64 : decode cX0_keepPast 64 = .ok (.iload_n 1, 1) := by decide +kernel
theorem dX0_keepPast_65 : decode cX0_keepPast 65 = .ok (.bipush 6, 2) := by decide +kernel
theorem dX0_keepPast_67 : decode cX0_keepPast 67 = .ok (.iadd, 1) := by decide +kernel
theorem dX0_keepPast_68 : decode cX0_keepPast 68 = .ok (.bipush 6, 2) := by decide +kernel
theorem dX0_keepPast_70 : decode cX0_keepPast 70 = .ok (.invokestatic 49, 3) := by decide +kernel
theorem dX0_keepPast_73 : decode cX0_keepPast 73 = .ok (.aload_n 0, 1) := by decide +kernel
theorem dX0_keepPast_74 : decode cX0_keepPast 74 = .ok (.getfield 40, 3) := by decide +kernel
theorem dX0_keepPast_77 : decode cX0_keepPast 77 = .ok (.iconst 0, 1) := by decide +kernel
theorem dX0_keepPast_78 : decode cX0_keepPast 78 = .ok (.aload_n 0, 1) := by decide +kernel
theorem dX0_keepPast_79 : decode cX0_keepPast 79 = .ok (.getfield 46, 3) := by decide +kernel
theorem dX0_keepPast_82 : decode cX0_keepPast 82 = .ok (.iload_n 1, 1) := by decide +kernel
theorem dX0_keepPast_83 : decode cX0_keepPast 83 = .ok (.bipush 12, 2) := by decide +kernel
theorem dX0_keepPast_85 : decode cX0_keepPast 85 = .ok (.iadd, 1) := by decide +kernel
theorem dX0_keepPast_86 : decode cX0_keepPast 86 = .ok (.bipush 6, 2) := by decide +kernel
theorem dX0_keepPast_88 : decode cX0_keepPast 88 = .ok (.invokestatic 49, 3) := by decide +kernel
theorem dX0_keepPast_91 : decode cX0_keepPast 91 = .ok (.aload_n 0, 1) := by decide +kernel
theorem dX0_keepPast_92 : decode cX0_keepPast 92 = .ok (.getfield 46, 3) := by decide +kernel
theorem dX0_keepPast_95 : decode cX0_keepPast 95 = .ok (.iload_n 1, 1) := by decide +kernel
theorem dX0_keepPast_96 : decode cX0_keepPast 96 = .ok (.bipush 18, 2) := by decide +kernel
theorem dX0_keepPast_98 : decode cX0_keepPast 98 = .ok (.iadd, 1) := by decide +kernel
theorem dX0_keepPast_99 : decode cX0_keepPast 99 = .ok (.aload_n 0, 1) := by decide +kernel
theorem dX0_keepPast_100 : decode cX0_keepPast 100 = .ok (.getfield 15, 3) := by decide +kernel
theorem dX0_keepPast_103 : decode cX0_keepPast 103 = .ok (.iastore, 1) := by decide +kernel
theorem dX0_keepPast_104 : decode cX0_keepPast 104 = .ok (.aload_n 0, 1) := by decide +kernel
theorem dX0_keepPast_105 : decode cX0_keepPast 105 = .ok (.dup, 1) := by decide +kernel
theorem dX0_keepPast_106 : decode cX0_keepPast 106 = .ok (.getfield 21, 3) := by decide +kernel
theorem dX0_keepPast_109 : decode cX0_keepPast 109 = .ok (.iconst 1, 1) := by decide +kernel
theorem dX0_keepPast_110 : decode cX0_keepPast 110 = .ok (.iadd, 1) := by decide +kernel
theorem dX0_keepPast_111 : decode cX0_keepPast 111 = .ok (.putfield 21, 3) := by decide +kernel
theorem dX0_keepPast_114 : decode cX0_keepPast 114 = .ok (.return_, 1) := by decide +kernel
theorem dX0_goBack_0 : decode cX0_goBack 0 = .ok (.aload_n 0, 1) := by decide +kernel
theorem dX0_goBack_1 : decode cX0_goBack 1 = .ok (.getfield 21, 3) := by decide +kernel
theorem dX0_goBack_4 : decode cX0_goBack 4 = .ok (.ifCond .gt 4, 3) := by decide +kernel
theorem dX0_goBack_7 : decode cX0_goBack 7 = .ok (.return_, 1) := by decide +kernel
theorem dX0_goBack_8 : decode cX0_goBack 8 = .ok (.aload_n 0, 1) := by decide +kernel
theorem dX0_goBack_9 : decode cX0_goBack 9 = .ok (.dup, 1) := by decide +kernel
theorem dX0_goBack_10 : decode cX0_goBack 10 = .ok (.getfield 21, 3) := by decide +kernel
theorem dX0_goBack_13 : decode cX0_goBack 13 = .ok (.iconst 1, 1) := by decide +kernel
theorem dX0_goBack_14 : decode cX0_goBack 14 = .ok (.isub, 1) := by decide +kernel
theorem dX0_goBack_15 : decode cX0_goBack 15 = .ok (.putfield 21, 3) := by decide +kernel
theorem dX0_goBack_18 : decode cX0_goBack 18 = .ok (.aload_n 0, 1) := by decide +kernel
theorem dX0_goBack_19 : decode cX0_goBack 19 = .ok (.getfield 21, 3) := by decide +kernel
theorem dX0_goBack_22 : decode cX0_goBack 22 = .ok (.bipush 19, 2) := by decide +kernel
theorem dX0_goBack_24 : decode cX0_goBack 24 = .ok (.imul, 1) := by decide +kernel
theorem dX0_goBack_25 : decode cX0_goBack 25 = .ok (.istore_n 1, 1) := by decide +kernel
theorem dX0_goBack_26 : decode cX0_goBack 26 = .ok (.aload_n 0, 1) := by decide +kernel
theorem dX0_goBack_27 : decode cX0_goBack 27 = .ok (.getfield 46, 3) := by decide +kernel
theorem dX0_goBack_30 : decode cX0_goBack 30 = .ok (.iload_n 1, 1) := by decide +kernel
theorem dX0_goBack_31 : decode cX0_goBack 31 = .ok (.aload_n 0, 1) := by decide +kernel
theorem dX0_goBack_32 : decode cX0_goBack 32 = .ok (.getfield 34, 3) := by decide +kernel
theorem dX0_goBack_35 : decode cX0_goBack 35 = .ok (.iconst 0, 1) := by decide +kernel
theorem dX0_goBack_36 : decode cX0_goBack 36 = .ok (.bipush 6, 2) := by decide +kernel
theorem dX0_goBack_38 : decode cX0_goBack 38 = .ok (.invokestatic 49, 3) := by decide +kernel
theorem dX0_goBack_41 : decode cX0_goBack 41 = .ok (.aload_n 0, 1) := by decide +kernel
theorem dX0_goBack_42 : decode cX0_goBack 42 = .ok (.getfield 46, 3) := by decide +kernel
theorem dX0_goBack_45 : decode cX0_goBack 45 = .ok (.iload_n 1, 1) := by decide +kernel
theorem dX0_goBack_46 : decode cX0_goBack 46 = .ok (.bipush 6, 2) := by decide +kernel
theorem dX0_goBack_48 : decode cX0_goBack 48 = .ok (.iadd, 1) := by decide +kernel
theorem dX0_goBack_49 : decode cX0_goBack 49 = .ok (.aload_n 0, 1) := by decide +kernel
theorem dX0_goBack_50 : decode cX0_goBack 50 = .ok (.getfield 37, 3) := by decide +kernel
theorem dX0_goBack_53 : decode cX0_goBack 53 = .ok (.iconst 0, 1) := by decide +kernel
theorem dX0_goBack_54 : decode cX0_goBack 54 = .ok (.bipush 6, 2) := by decide +kernel
theorem dX0_goBack_56 : decode cX0_goBack 56 = .ok (.invokestatic 49, 3) := by decide +kernel
theorem dX0_goBack_59 : decode cX0_goBack 59 = .ok (.aload_n 0, 1) := by decide +kernel
theorem dX0_goBack_60 : decode cX0_goBack 60 = .ok (.getfield 46, 3) := by decide +kernel
theorem dX0_goBack_63 : decode cX0_goBack 63 = .ok (.iload_n 1, 1) := by decide +kernel
theorem dX0_goBack_64 : decode cX0_goBack 64 = .ok (.bipush 12, 2) := by decide +kernel
theorem dX0_goBack_66 : decode cX0_goBack 66 = .ok (.iadd, 1) := by decide +kernel
theorem dX0_goBack_67 : decode cX0_goBack 67 = .ok (.aload_n 0, 1) := by decide +kernel
theorem dX0_goBack_68 : decode cX0_goBack 68 = .ok (.getfield 40, 3) := by decide +kernel
theorem dX0_goBack_71 : decode cX0_goBack 71 = .ok (.iconst 0, 1) := by decide +kernel
theorem dX0_goBack_72 : decode cX0_goBack 72 = .ok (.bipush 6, 2) := by decide +kernel
theorem dX0_goBack_74 : decode cX0_goBack 74 = .ok (.invokestatic 49, 3) := by decide +kernel
theorem dX0_goBack_77 : decode cX0_goBack 77 = .ok (.aload_n 0, 1) := by decide +kernel
theorem dX0_goBack_78 : decode cX0_goBack 78 = .ok (.aload_n 0, 1) := by decide +kernel
theorem dX0_goBack_79 : decode cX0_goBack 79 = .ok (.getfield 46, 3) := by decide +kernel
theorem dX0_goBack_82 : decode cX0_goBack 82 = .ok (.iload_n 1, 1) := by decide +kernel
theorem dX0_goBack_83 : decode cX0_goBack 83 = .ok (.bipush 18, 2) := by decide +kernel
theorem dX0_goBack_85 : decode cX0_goBack 85 = .ok (.iadd, 1) := by decide +kernel
theorem dX0_goBack_86 : decode cX0_goBack 86 = .ok (.iaload, 1) := by decide +kernel
theorem dX0_goBack_87 : decode cX0_goBack 87 = .ok (.putfield 15, 3) := by decide +kernel
theorem dX0_goBack_90 : decode cX0_goBack 90 = .ok (.return_, 1) := by decide +kernel
theorem dX0_soundOf_0 : decode cX0_soundOf 0 = .ok (.aload_n 0, 1) := by decide +kernel
theorem dX0_soundOf_1 : decode cX0_soundOf 1 = .ok (.getfield 24, 3) := by decide +kernel
theorem dX0_soundOf_4 : decode cX0_soundOf 4 = .ok (.iload_n 1, 1) := by decide +kernel
theorem dX0_soundOf_5 : decode cX0_soundOf 5 = .ok (.iaload, 1) := by decide +kernel
theorem dX0_soundOf_6 : decode cX0_soundOf 6 = .ok (.aload_n 0, 1) := by decide +kernel
theorem dX0_soundOf_7 : decode cX0_soundOf 7 = .ok (.getfield 28, 3) := by decide +kernel
theorem dX0_soundOf_10 : decode cX0_soundOf 10 = .ok (.iload_n 1, 1) := by decide +kernel
theorem dX0_soundOf_11 : decode cX0_soundOf 11 = .ok (.iaload, 1) := by decide +kernel
theorem dX0_soundOf_12 : decode cX0_soundOf 12 = .ok (.aload_n 0, 1) := by decide +kernel
theorem dX0_soundOf_13 : decode cX0_soundOf 13 = .ok (.getfield 15, 3) := by decide +kernel
theorem dX0_soundOf_16 : decode cX0_soundOf 16 = .ok (.invokestatic 73, 3) := by decide +kernel
theorem dX0_soundOf_19 : decode cX0_soundOf 19 = .ok (.ireturn, 1) := by decide +kernel
theorem dX0_fitWith_0 : decode cX0_fitWith 0 = .ok (.bipush 9, 2) := by decide +kernel
theorem dX0_fitWith_2 : decode cX0_fitWith 2 = .ok (.aload_n 0, 1) := by decide +kernel
theorem dX0_fitWith_3 : decode cX0_fitWith 3 = .ok (.iload_n 2, 1) := by decide +kernel
theorem dX0_fitWith_4 : decode cX0_fitWith 4 = .ok (.invokevirtual 77, 3) := by decide +kernel
theorem dX0_fitWith_7 : decode cX0_fitWith 7 = .ok (.aload_n 0, 1) := by decide +kernel
theorem dX0_fitWith_8 : decode cX0_fitWith 8 = .ok (.getfield 31, 3) := by decide +kernel
theorem dX0_fitWith_11 : decode cX0_fitWith 11 = .ok (.iload_n 1, 1) := by decide +kernel
theorem dX0_fitWith_12 : decode cX0_fitWith 12 = .ok (.iaload, 1) := by decide +kernel
theorem dX0_fitWith_13 : decode cX0_fitWith 13 = .ok (.isub, 1) := by decide +kernel
theorem dX0_fitWith_14 : decode cX0_fitWith 14 = .ok (.invokestatic 79, 3) := by decide +kernel
theorem dX0_fitWith_17 : decode cX0_fitWith 17 = .ok (.isub, 1) := by decide +kernel
theorem dX0_fitWith_18 : decode cX0_fitWith 18 = .ok (.ireturn, 1) := by decide +kernel
theorem dX0_fitNow_0 : decode cX0_fitNow 0 = .ok (.aload_n 0, 1) := by decide +kernel
theorem dX0_fitNow_1 : decode cX0_fitNow 1 = .ok (.iload_n 1, 1) := by decide +kernel
theorem dX0_fitNow_2 : decode cX0_fitNow 2 = .ok (.invokevirtual 55, 3) := by decide +kernel
theorem dX0_fitNow_5 : decode cX0_fitNow 5 = .ok (.istore_n 2, 1) := by decide +kernel
theorem dX0_fitNow_6 : decode cX0_fitNow 6 = .ok (.iload_n 2, 1) := by decide +kernel
theorem dX0_fitNow_7 : decode cX0_fitNow 7 = .ok (.iconst (-1), 1) := by decide +kernel
theorem dX0_fitNow_8 : decode cX0_fitNow 8 = .ok (.if_icmp .ne 7, 3) := by decide +kernel
theorem dX0_fitNow_11 : decode cX0_fitNow 11 = .ok (.iconst 0, 1) := by decide +kernel
theorem dX0_fitNow_12 : decode cX0_fitNow 12 = .ok (.goto 9, 3) := by decide +kernel
theorem dX0_fitNow_15 : decode cX0_fitNow 15 = .ok (.aload_n 0, 1) := by decide +kernel
theorem dX0_fitNow_16 : decode cX0_fitNow 16 = .ok (.iload_n 1, 1) := by decide +kernel
theorem dX0_fitNow_17 : decode cX0_fitNow 17 = .ok (.iload_n 2, 1) := by decide +kernel
theorem dX0_fitNow_18 : decode cX0_fitNow 18 = .ok (.invokevirtual 84, 3) := by decide +kernel
theorem dX0_fitNow_21 : decode cX0_fitNow 21 = .ok (.ireturn, 1) := by decide +kernel
theorem dX0_leastFit_0 : decode cX0_leastFit 0 = .ok (.iconst (-1), 1) := by decide +kernel
theorem dX0_leastFit_1 : decode cX0_leastFit 1 = .ok (.istore_n 1, 1) := by decide +kernel
theorem dX0_leastFit_2 : decode cX0_leastFit 2 = .ok (.iconst 0, 1) := by decide +kernel
theorem dX0_leastFit_3 : decode cX0_leastFit 3 = .ok (.istore_n 2, 1) := by decide +kernel
theorem dX0_leastFit_4 : decode cX0_leastFit 4 = .ok (.iload_n 2, 1) := by decide +kernel
theorem dX0_leastFit_5 : decode cX0_leastFit 5 = .ok (.aload_n 0, 1) := by decide +kernel
theorem dX0_leastFit_6 : decode cX0_leastFit 6 = .ok (.getfield 9, 3) := by decide +kernel
theorem dX0_leastFit_9 : decode cX0_leastFit 9 = .ok (.if_icmp .ge 29, 3) := by decide +kernel
theorem dX0_leastFit_12 : decode cX0_leastFit 12 = .ok (.iload_n 1, 1) := by decide +kernel
theorem dX0_leastFit_13 : decode cX0_leastFit 13 = .ok (.iconst (-1), 1) := by decide +kernel
theorem dX0_leastFit_14 : decode cX0_leastFit 14 = .ok (.if_icmp .eq 16, 3) := by decide +kernel
theorem dX0_leastFit_17 : decode cX0_leastFit 17 = .ok (.aload_n 0, 1) := by decide +kernel
theorem dX0_leastFit_18 : decode cX0_leastFit 18 = .ok (.iload_n 2, 1) := by decide +kernel
theorem dX0_leastFit_19 : decode cX0_leastFit 19 = .ok (.invokevirtual 87, 3) := by decide +kernel
theorem dX0_leastFit_22 : decode cX0_leastFit 22 = .ok (.aload_n 0, 1) := by decide +kernel
theorem dX0_leastFit_23 : decode cX0_leastFit 23 = .ok (.iload_n 1, 1) := by decide +kernel
theorem dX0_leastFit_24 : decode cX0_leastFit 24 = .ok (.invokevirtual 87, 3) := by decide +kernel
theorem dX0_leastFit_27 : decode cX0_leastFit 27 = .ok (.if_icmp .ge 5, 3) := by decide +kernel
theorem dX0_leastFit_30 : decode cX0_leastFit 30 = .ok (.iload_n 2, 1) := by decide +kernel
theorem dX0_leastFit_31 : decode cX0_leastFit 31 = .ok (.istore_n 1, 1) := by decide +kernel
theorem dX0_leastFit_32 : decode cX0_leastFit 32 = .ok (.iinc 2 1, 3) := by decide +kernel
theorem dX0_leastFit_35 : decode cX0_leastFit 35 = .ok (.goto (-31), 3) := by decide +kernel
theorem dX0_leastFit_38 : decode cX0_leastFit 38 = .ok (.iload_n 1, 1) := by decide +kernel
theorem dX0_leastFit_39 : decode cX0_leastFit 39 = .ok (.ireturn, 1) := by decide +kernel
theorem dX0_ringFrom_0 : decode cX0_ringFrom 0 = .ok (.iload_n 1, 1) := by decide +kernel
theorem dX0_ringFrom_1 : decode cX0_ringFrom 1 = .ok (.istore_n 2, 1) := by decide +kernel
theorem dX0_ringFrom_2 : decode cX0_ringFrom 2 = .ok (.iconst 1, 1) := by decide +kernel
theorem dX0_ringFrom_3 : decode cX0_ringFrom 3 = .ok (.istore_n 3, 1) := by decide +kernel
theorem dX0_ringFrom_4 : decode cX0_ringFrom 4 = .ok (.iload_n 3, 1) := by decide +kernel
theorem dX0_ringFrom_5 : decode cX0_ringFrom 5 = .ok (.aload_n 0, 1) := by decide +kernel
theorem dX0_ringFrom_6 : decode cX0_ringFrom 6 = .ok (.getfield 9, 3) := by decide +kernel
theorem dX0_ringFrom_9 : decode cX0_ringFrom 9 = .ok (.if_icmp .gt 29, 3) := by decide +kernel
theorem dX0_ringFrom_12 : decode cX0_ringFrom 12 = .ok (.aload_n 0, 1) := by decide +kernel
theorem dX0_ringFrom_13 : decode cX0_ringFrom 13 = .ok (.iload_n 2, 1) := by decide +kernel
theorem dX0_ringFrom_14 : decode cX0_ringFrom 14 = .ok (.invokevirtual 55, 3) := by decide +kernel
theorem dX0_ringFrom_17 : decode cX0_ringFrom 17 = .ok (.istore_n 2, 1) := by decide +kernel
theorem dX0_ringFrom_18 : decode cX0_ringFrom 18 = .ok (.iload_n 2, 1) := by decide +kernel
theorem dX0_ringFrom_19 : decode cX0_ringFrom 19 = .ok (.iconst (-1), 1) := by decide +kernel
theorem dX0_ringFrom_20 : decode cX0_ringFrom 20 = .ok (.if_icmp .ne 5, 3) := by decide +kernel
theorem dX0_ringFrom_23 : decode cX0_ringFrom 23 = .ok (.iconst 0, 1) := by decide +kernel
theorem dX0_ringFrom_24 : decode cX0_ringFrom 24 = .ok (.ireturn, 1) := by decide +kernel
theorem dX0_ringFrom_25 : decode cX0_ringFrom 25 = .ok (.iload_n 2, 1) := by decide +kernel
theorem dX0_ringFrom_26 : decode cX0_ringFrom 26 = .ok (.iload_n 1, 1) := by decide +kernel
theorem dX0_ringFrom_27 : decode cX0_ringFrom 27 = .ok (.if_icmp .ne 5, 3) := by decide +kernel
theorem dX0_ringFrom_30 : decode cX0_ringFrom 30 = .ok (.iload_n 3, 1) := by decide +kernel
theorem dX0_ringFrom_31 : decode cX0_ringFrom 31 = .ok (.ireturn, 1) := by decide +kernel
theorem dX0_ringFrom_32 : decode cX0_ringFrom 32 = .ok (.iinc 3 1, 3) := by decide +kernel
theorem dX0_ringFrom_35 : decode cX0_ringFrom 35 = .ok (.goto (-31), 3) := by decide +kernel
theorem dX0_ringFrom_38 : decode cX0_ringFrom 38 = .ok (.iconst 0, 1) := by decide +kernel
theorem dX0_ringFrom_39 : decode cX0_ringFrom 39 = .ok (.ireturn, 1) := by decide +kernel
theorem dX0_ringsOfTwoOrMore_0 : decode cX0_ringsOfTwoOrMore 0 = .ok (.iconst 0, 1) := by decide +kernel
theorem dX0_ringsOfTwoOrMore_1 : decode cX0_ringsOfTwoOrMore 1 = .ok (.istore_n 1, 1) := by decide +kernel
theorem dX0_ringsOfTwoOrMore_2 : decode cX0_ringsOfTwoOrMore 2 = .ok (.iconst 0, 1) := by decide +kernel
theorem dX0_ringsOfTwoOrMore_3 : decode cX0_ringsOfTwoOrMore 3 = .ok (.istore_n 2, 1) := by decide +kernel
theorem dX0_ringsOfTwoOrMore_4 : decode cX0_ringsOfTwoOrMore 4 = .ok (.iload_n 2, 1) := by decide +kernel
theorem dX0_ringsOfTwoOrMore_5 : decode cX0_ringsOfTwoOrMore 5 = .ok (.aload_n 0, 1) := by decide +kernel
theorem dX0_ringsOfTwoOrMore_6 : decode cX0_ringsOfTwoOrMore 6 = .ok (.getfield 9, 3) := by decide +kernel
theorem dX0_ringsOfTwoOrMore_9 : decode cX0_ringsOfTwoOrMore 9 = .ok (.if_icmp .ge 29, 3) := by decide +kernel
theorem dX0_ringsOfTwoOrMore_12 : decode cX0_ringsOfTwoOrMore 12 = .ok (.aload_n 0, 1) := by decide +kernel
theorem dX0_ringsOfTwoOrMore_13 : decode cX0_ringsOfTwoOrMore 13 = .ok (.iload_n 2, 1) := by decide +kernel
theorem dX0_ringsOfTwoOrMore_14 : decode cX0_ringsOfTwoOrMore 14 = .ok (.invokevirtual 90, 3) := by decide +kernel
theorem dX0_ringsOfTwoOrMore_17 : decode cX0_ringsOfTwoOrMore 17 = .ok (.iconst 2, 1) := by decide +kernel
theorem dX0_ringsOfTwoOrMore_18 : decode cX0_ringsOfTwoOrMore 18 = .ok (.if_icmp .lt 14, 3) := by decide +kernel
theorem dX0_ringsOfTwoOrMore_21 : decode cX0_ringsOfTwoOrMore 21 = .ok (.aload_n 0, 1) := by decide +kernel
theorem dX0_ringsOfTwoOrMore_22 : decode cX0_ringsOfTwoOrMore 22 = .ok (.iload_n 2, 1) := by decide +kernel
theorem dX0_ringsOfTwoOrMore_23 : decode cX0_ringsOfTwoOrMore 23 = .ok (.invokevirtual 93, 3) := by decide +kernel
theorem dX0_ringsOfTwoOrMore_26 : decode cX0_ringsOfTwoOrMore 26 = .ok (.ifCond .eq 6, 3) := by decide +kernel
theorem dX0_ringsOfTwoOrMore_29 : decode cX0_ringsOfTwoOrMore 29 = .ok (.iinc 1 1, 3) := by decide +kernel
theorem dX0_ringsOfTwoOrMore_32 : decode cX0_ringsOfTwoOrMore 32 = .ok (.iinc 2 1, 3) := by decide +kernel
theorem dX0_ringsOfTwoOrMore_35 : decode cX0_ringsOfTwoOrMore 35 = .ok (.goto (-31), 3) := by decide +kernel
theorem dX0_ringsOfTwoOrMore_38 : decode cX0_ringsOfTwoOrMore 38 = .ok (.iload_n 1, 1) := by decide +kernel
theorem dX0_ringsOfTwoOrMore_39 : decode cX0_ringsOfTwoOrMore 39 = .ok (.ireturn, 1) := by decide +kernel
theorem dX0_isFirstOfRing_0 : decode cX0_isFirstOfRing 0 = .ok (.aload_n 0, 1) := by decide +kernel
theorem dX0_isFirstOfRing_1 : decode cX0_isFirstOfRing 1 = .ok (.iload_n 1, 1) := by decide +kernel
theorem dX0_isFirstOfRing_2 : decode cX0_isFirstOfRing 2 = .ok (.invokevirtual 55, 3) := by decide +kernel
theorem dX0_isFirstOfRing_5 : decode cX0_isFirstOfRing 5 = .ok (.istore_n 2, 1) := by decide +kernel
theorem dX0_isFirstOfRing_6 : decode cX0_isFirstOfRing 6 = .ok (.iconst 1, 1) := by decide +kernel
theorem dX0_isFirstOfRing_7 : decode cX0_isFirstOfRing 7 = .ok (.istore_n 3, 1) := by decide +kernel
theorem dX0_isFirstOfRing_8 : decode cX0_isFirstOfRing 8 = .ok (.iload_n 3, 1) := by decide +kernel
theorem dX0_isFirstOfRing_9 : decode cX0_isFirstOfRing 9 = .ok (.aload_n 0, 1) := by decide +kernel
theorem dX0_isFirstOfRing_10 : decode cX0_isFirstOfRing 10 = .ok (.getfield 9, 3) := by decide +kernel
theorem dX0_isFirstOfRing_13 : decode cX0_isFirstOfRing 13 = .ok (.if_icmp .gt 32, 3) := by decide +kernel
theorem dX0_isFirstOfRing_16 : decode cX0_isFirstOfRing 16 = .ok (.iload_n 2, 1) := by decide +kernel
theorem dX0_isFirstOfRing_17 : decode cX0_isFirstOfRing 17 = .ok (.iconst (-1), 1) := by decide +kernel
theorem dX0_isFirstOfRing_18 : decode cX0_isFirstOfRing 18 = .ok (.if_icmp .eq 27, 3) := by decide +kernel
theorem dX0_isFirstOfRing_21 : decode cX0_isFirstOfRing 21 = .ok (.iload_n 2, 1) := by decide +kernel
theorem dX0_isFirstOfRing_22 : decode cX0_isFirstOfRing 22 = .ok (.iload_n 1, 1) := by decide +kernel
theorem dX0_isFirstOfRing_23 : decode cX0_isFirstOfRing 23 = .ok (.if_icmp .eq 22, 3) := by decide +kernel
theorem dX0_isFirstOfRing_26 : decode cX0_isFirstOfRing 26 = .ok (.iload_n 2, 1) := by decide +kernel
theorem dX0_isFirstOfRing_27 : decode cX0_isFirstOfRing 27 = .ok (.iload_n 1, 1) := by decide +kernel
theorem dX0_isFirstOfRing_28 : decode cX0_isFirstOfRing 28 = .ok (.if_icmp .ge 5, 3) := by decide +kernel
theorem dX0_isFirstOfRing_31 : decode cX0_isFirstOfRing 31 = .ok (.iconst 0, 1) := by decide +kernel
theorem dX0_isFirstOfRing_32 : decode cX0_isFirstOfRing 32 = .ok (.ireturn, 1) := by decide +kernel
theorem dX0_isFirstOfRing_33 : decode cX0_isFirstOfRing 33 = .ok (.aload_n 0, 1) := by decide +kernel
theorem dX0_isFirstOfRing_34 : decode cX0_isFirstOfRing 34 = .ok (.iload_n 2, 1) := by decide +kernel
theorem dX0_isFirstOfRing_35 : decode cX0_isFirstOfRing 35 = .ok (.invokevirtual 55, 3) := by decide +kernel
theorem dX0_isFirstOfRing_38 : decode cX0_isFirstOfRing 38 = .ok (.istore_n 2, 1) := by decide +kernel
theorem dX0_isFirstOfRing_39 : decode cX0_isFirstOfRing 39 = .ok (.iinc 3 1, 3) := by decide +kernel
theorem dX0_isFirstOfRing_42 : decode cX0_isFirstOfRing 42 = .ok (.goto (-34), 3) := by decide +kernel
theorem dX0_isFirstOfRing_45 : decode cX0_isFirstOfRing 45 = .ok (.iconst 1, 1) := by decide +kernel
theorem dX0_isFirstOfRing_46 : decode cX0_isFirstOfRing 46 = .ok (.ireturn, 1) := by decide +kernel
theorem dX0_bothWouldRather_0 : decode cX0_bothWouldRather 0 = .ok (.aload_n 0, 1) := by decide +kernel
theorem dX0_bothWouldRather_1 : decode cX0_bothWouldRather 1 = .ok (.iload_n 1, 1) := by decide +kernel
theorem dX0_bothWouldRather_2 : decode cX0_bothWouldRather 2 = .ok (.invokevirtual 55, 3) := by decide +kernel
theorem dX0_bothWouldRather_5 : decode cX0_bothWouldRather 5 = .ok (.istore_n 3, 1) := by decide +kernel
theorem dX0_bothWouldRather_6 : decode cX0_bothWouldRather 6 = .ok (.aload_n 0, 1) := by decide +kernel
theorem dX0_bothWouldRather_7 : decode cX0_bothWouldRather 7 = .ok (.iload_n 2, 1) := by decide +kernel
theorem dX0_bothWouldRather_8 : decode cX0_bothWouldRather 8 = .ok (.invokevirtual 55, 3) := by decide +kernel
theorem dX0_bothWouldRather_11 : decode cX0_bothWouldRather 11 = .ok (.istore 4, 2) := by decide +kernel
theorem dX0_bothWouldRather_13 : decode cX0_bothWouldRather 13 = .ok (.iload_n 3, 1) := by decide +kernel
theorem dX0_bothWouldRather_14 : decode cX0_bothWouldRather 14 = .ok (.iconst (-1), 1) := by decide +kernel
theorem dX0_bothWouldRather_15 : decode cX0_bothWouldRather 15 = .ok (.if_icmp .eq 45, 3) := by decide +kernel
theorem dX0_bothWouldRather_18 : decode cX0_bothWouldRather 18 = .ok (.iload 4, 2) := by decide +kernel
theorem dX0_bothWouldRather_20 : decode cX0_bothWouldRather 20 = .ok (.iconst (-1), 1) := by decide +kernel
theorem dX0_bothWouldRather_21 : decode cX0_bothWouldRather 21 = .ok (.if_icmp .eq 39, 3) := by decide +kernel
theorem dX0_bothWouldRather_24 : decode cX0_bothWouldRather 24 = .ok (.aload_n 0, 1) := by decide +kernel
theorem dX0_bothWouldRather_25 : decode cX0_bothWouldRather 25 = .ok (.iload_n 1, 1) := by decide +kernel
theorem dX0_bothWouldRather_26 : decode cX0_bothWouldRather 26 = .ok (.iload 4, 2) := by decide +kernel
theorem dX0_bothWouldRather_28 : decode cX0_bothWouldRather 28 = .ok (.invokevirtual 84, 3) := by decide +kernel
theorem dX0_bothWouldRather_31 : decode cX0_bothWouldRather 31 = .ok (.aload_n 0, 1) := by decide +kernel
theorem dX0_bothWouldRather_32 : decode cX0_bothWouldRather 32 = .ok (.iload_n 1, 1) := by decide +kernel
theorem dX0_bothWouldRather_33 : decode cX0_bothWouldRather 33 = .ok (.iload_n 3, 1) := by decide +kernel
theorem dX0_bothWouldRather_34 : decode cX0_bothWouldRather 34 = .ok (.invokevirtual 84, 3) := by decide +kernel
theorem dX0_bothWouldRather_37 : decode cX0_bothWouldRather 37 = .ok (.if_icmp .le 23, 3) := by decide +kernel
theorem dX0_bothWouldRather_40 : decode cX0_bothWouldRather 40 = .ok (.aload_n 0, 1) := by decide +kernel
theorem dX0_bothWouldRather_41 : decode cX0_bothWouldRather 41 = .ok (.iload_n 2, 1) := by decide +kernel
theorem dX0_bothWouldRather_42 : decode cX0_bothWouldRather 42 = .ok (.iload_n 3, 1) := by decide +kernel
theorem dX0_bothWouldRather_43 : decode cX0_bothWouldRather 43 = .ok (.invokevirtual 84, 3) := by decide +kernel
theorem dX0_bothWouldRather_46 : decode cX0_bothWouldRather 46 = .ok (.aload_n 0, 1) := by decide +kernel
theorem dX0_bothWouldRather_47 : decode cX0_bothWouldRather 47 = .ok (.iload_n 2, 1) := by decide +kernel
theorem dX0_bothWouldRather_48 : decode cX0_bothWouldRather 48 = .ok (.iload 4, 2) := by decide +kernel
theorem dX0_bothWouldRather_50 : decode cX0_bothWouldRather 50 = .ok (.invokevirtual 84, 3) := by decide +kernel
theorem dX0_bothWouldRather_53 : decode cX0_bothWouldRather 53 = .ok (.if_icmp .le 7, 3) := by decide +kernel
theorem dX0_bothWouldRather_56 : decode cX0_bothWouldRather 56 = .ok (.iconst 1, 1) := by decide +kernel
theorem dX0_bothWouldRather_57 : decode cX0_bothWouldRather 57 = .ok (.goto 4, 3) := by decide +kernel
theorem dX0_bothWouldRather_60 : decode cX0_bothWouldRather 60 = .ok (.iconst 0, 1) := by decide +kernel
theorem dX0_bothWouldRather_61 : decode cX0_bothWouldRather 61 = .ok (.ireturn, 1) := by decide +kernel
theorem dX0_howManySwaps_0 : decode cX0_howManySwaps 0 = .ok (.iconst 0, 1) := by decide +kernel
theorem dX0_howManySwaps_1 : decode cX0_howManySwaps 1 = .ok (.istore_n 1, 1) := by decide +kernel
theorem dX0_howManySwaps_2 : decode cX0_howManySwaps 2 = .ok (.iconst 0, 1) := by decide +kernel
theorem dX0_howManySwaps_3 : decode cX0_howManySwaps 3 = .ok (.istore_n 2, 1) := by decide +kernel
theorem dX0_howManySwaps_4 : decode cX0_howManySwaps 4 = .ok (.iload_n 2, 1) := by decide +kernel
theorem dX0_howManySwaps_5 : decode cX0_howManySwaps 5 = .ok (.aload_n 0, 1) := by decide +kernel
theorem dX0_howManySwaps_6 : decode cX0_howManySwaps 6 = .ok (.getfield 9, 3) := by decide +kernel
theorem dX0_howManySwaps_9 : decode cX0_howManySwaps 9 = .ok (.if_icmp .ge 39, 3) := by decide +kernel
theorem dX0_howManySwaps_12 : decode cX0_howManySwaps 12 = .ok (.iload_n 2, 1) := by decide +kernel
theorem dX0_howManySwaps_13 : decode cX0_howManySwaps 13 = .ok (.iconst 1, 1) := by decide +kernel
theorem dX0_howManySwaps_14 : decode cX0_howManySwaps 14 = .ok (.iadd, 1) := by decide +kernel
theorem dX0_howManySwaps_15 : decode cX0_howManySwaps 15 = .ok (.istore_n 3, 1) := by decide +kernel
theorem dX0_howManySwaps_16 : decode cX0_howManySwaps 16 = .ok (.iload_n 3, 1) := by decide +kernel
theorem dX0_howManySwaps_17 : decode cX0_howManySwaps 17 = .ok (.aload_n 0, 1) := by decide +kernel
theorem dX0_howManySwaps_18 : decode cX0_howManySwaps 18 = .ok (.getfield 9, 3) := by decide +kernel
theorem dX0_howManySwaps_21 : decode cX0_howManySwaps 21 = .ok (.if_icmp .ge 21, 3) := by decide +kernel
theorem dX0_howManySwaps_24 : decode cX0_howManySwaps 24 = .ok (.aload_n 0, 1) := by decide +kernel
theorem dX0_howManySwaps_25 : decode cX0_howManySwaps 25 = .ok (.iload_n 2, 1) := by decide +kernel
theorem dX0_howManySwaps_26 : decode cX0_howManySwaps 26 = .ok (.iload_n 3, 1) := by decide +kernel
theorem dX0_howManySwaps_27 : decode cX0_howManySwaps 27 = .ok (.invokevirtual 96, 3) := by decide +kernel
theorem dX0_howManySwaps_30 : decode cX0_howManySwaps 30 = .ok (.ifCond .eq 6, 3) := by decide +kernel
theorem dX0_howManySwaps_33 : decode cX0_howManySwaps 33 = .ok (.iinc 1 1, 3) := by decide +kernel
theorem dX0_howManySwaps_36 : decode cX0_howManySwaps 36 = .ok (.iinc 3 1, 3) := by decide +kernel
theorem dX0_howManySwaps_39 : decode cX0_howManySwaps 39 = .ok (.goto (-23), 3) := by decide +kernel
theorem dX0_howManySwaps_42 : decode cX0_howManySwaps 42 = .ok (.iinc 2 1, 3) := by decide +kernel
theorem dX0_howManySwaps_45 : decode cX0_howManySwaps 45 = .ok (.goto (-41), 3) := by decide +kernel
theorem dX0_howManySwaps_48 : decode cX0_howManySwaps 48 = .ok (.iload_n 1, 1) := by decide +kernel
theorem dX0_howManySwaps_49 : decode cX0_howManySwaps 49 = .ok (.ireturn, 1) := by decide +kernel
theorem dX0_swapAt_0 : decode cX0_swapAt 0 = .ok (.iconst 0, 1) := by decide +kernel
theorem dX0_swapAt_1 : decode cX0_swapAt 1 = .ok (.istore_n 2, 1) := by decide +kernel
theorem dX0_swapAt_2 : decode cX0_swapAt 2 = .ok (.iconst 0, 1) := by decide +kernel
theorem dX0_swapAt_3 : decode cX0_swapAt 3 = .ok (.istore_n 3, 1) := by decide +kernel
theorem dX0_swapAt_4 : decode cX0_swapAt 4 = .ok (.iload_n 3, 1) := by decide +kernel
theorem dX0_swapAt_5 : decode cX0_swapAt 5 = .ok (.aload_n 0, 1) := by decide +kernel
theorem dX0_swapAt_6 : decode cX0_swapAt 6 = .ok (.getfield 9, 3) := by decide +kernel
theorem dX0_swapAt_9 : decode cX0_swapAt 9 = .ok (.if_icmp .ge 55, 3) := by decide +kernel
theorem dX0_swapAt_12 : decode cX0_swapAt 12 = .ok (.iload_n 3, 1) := by decide +kernel
theorem dX0_swapAt_13 : decode cX0_swapAt 13 = .ok (.iconst 1, 1) := by decide +kernel
theorem dX0_swapAt_14 : decode cX0_swapAt 14 = .ok (.iadd, 1) := by decide +kernel
theorem dX0_swapAt_15 : decode cX0_swapAt 15 = .ok (.istore 4, 2) := by decide +kernel
theorem dX0_swapAt_17 : decode cX0_swapAt 17 = .ok (.iload 4, 2) := by decide +kernel
theorem dX0_swapAt_19 : decode cX0_swapAt 19 = .ok (.aload_n 0, 1) := by decide +kernel
theorem dX0_swapAt_20 : decode cX0_swapAt 20 = .ok (.getfield 9, 3) := by decide +kernel
theorem dX0_swapAt_23 : decode cX0_swapAt 23 = .ok (.if_icmp .ge 35, 3) := by decide +kernel
theorem dX0_swapAt_26 : decode cX0_swapAt 26 = .ok (.aload_n 0, 1) := by decide +kernel
theorem dX0_swapAt_27 : decode cX0_swapAt 27 = .ok (.iload_n 3, 1) := by decide +kernel
theorem dX0_swapAt_28 : decode cX0_swapAt 28 = .ok (.iload 4, 2) := by decide +kernel
theorem dX0_swapAt_30 : decode cX0_swapAt 30 = .ok (.invokevirtual 96, 3) := by decide +kernel
theorem dX0_swapAt_33 : decode cX0_swapAt 33 = .ok (.ifCond .eq 19, 3) := by decide +kernel
theorem dX0_swapAt_36 : decode cX0_swapAt 36 = .ok (.iload_n 2, 1) := by decide +kernel
theorem dX0_swapAt_37 : decode cX0_swapAt 37 = .ok (.iload_n 1, 1) := by decide +kernel
theorem dX0_swapAt_38 : decode cX0_swapAt 38 = .ok (.if_icmp .ne 11, 3) := by decide +kernel
theorem dX0_swapAt_41 : decode cX0_swapAt 41 = .ok (.bipush 10, 2) := by decide +kernel
theorem dX0_swapAt_43 : decode cX0_swapAt 43 = .ok (.iload_n 3, 1) := by decide +kernel
theorem dX0_swapAt_44 : decode cX0_swapAt 44 = .ok (.imul, 1) := by decide +kernel
theorem dX0_swapAt_45 : decode cX0_swapAt 45 = .ok (.iload 4, 2) := by decide +kernel
theorem dX0_swapAt_47 : decode cX0_swapAt 47 = .ok (.iadd, 1) := by decide +kernel
theorem dX0_swapAt_48 : decode cX0_swapAt 48 = .ok (.ireturn, 1) := by decide +kernel
theorem dX0_swapAt_49 : decode cX0_swapAt 49 = .ok (.iinc 2 1, 3) := by decide +kernel
theorem dX0_swapAt_52 : decode cX0_swapAt 52 = .ok (.iinc 4 1, 3) := by decide +kernel
theorem dX0_swapAt_55 : decode cX0_swapAt 55 = .ok (.goto (-38), 3) := by decide +kernel
theorem dX0_swapAt_58 : decode cX0_swapAt 58 = .ok (.iinc 3 1, 3) := by decide +kernel
theorem dX0_swapAt_61 : decode cX0_swapAt 61 = .ok (.goto (-57), 3) := by decide +kernel
theorem dX0_swapAt_64 : decode cX0_swapAt 64 = .ok (.iconst (-1), 1) := by decide +kernel
theorem dX0_swapAt_65 : decode cX0_swapAt 65 = .ok (.ireturn, 1) := by decide +kernel
theorem dX0_exchange_0 : decode cX0_exchange 0 = .ok (.aload_n 0, 1) := by decide +kernel
theorem dX0_exchange_1 : decode cX0_exchange 1 = .ok (.iload_n 1, 1) := by decide +kernel
theorem dX0_exchange_2 : decode cX0_exchange 2 = .ok (.invokevirtual 55, 3) := by decide +kernel
theorem dX0_exchange_5 : decode cX0_exchange 5 = .ok (.istore_n 3, 1) := by decide +kernel
theorem dX0_exchange_6 : decode cX0_exchange 6 = .ok (.aload_n 0, 1) := by decide +kernel
theorem dX0_exchange_7 : decode cX0_exchange 7 = .ok (.iload_n 2, 1) := by decide +kernel
theorem dX0_exchange_8 : decode cX0_exchange 8 = .ok (.invokevirtual 55, 3) := by decide +kernel
theorem dX0_exchange_11 : decode cX0_exchange 11 = .ok (.istore 4, 2) := by decide +kernel
theorem dX0_exchange_13 : decode cX0_exchange 13 = .ok (.iload_n 3, 1) := by decide +kernel
theorem dX0_exchange_14 : decode cX0_exchange 14 = .ok (.iconst (-1), 1) := by decide +kernel
theorem dX0_exchange_15 : decode cX0_exchange 15 = .ok (.if_icmp .eq 24, 3) := by decide +kernel
theorem dX0_exchange_18 : decode cX0_exchange 18 = .ok (.iload 4, 2) := by decide +kernel
theorem dX0_exchange_20 : decode cX0_exchange 20 = .ok (.iconst (-1), 1) := by decide +kernel
theorem dX0_exchange_21 : decode cX0_exchange 21 = .ok (.if_icmp .eq 18, 3) := by decide +kernel
theorem dX0_exchange_24 : decode cX0_exchange 24 = .ok (.aload_n 0, 1) := by decide +kernel
theorem dX0_exchange_25 : decode cX0_exchange 25 = .ok (.getfield 34, 3) := by decide +kernel
theorem dX0_exchange_28 : decode cX0_exchange 28 = .ok (.iload_n 3, 1) := by decide +kernel
theorem dX0_exchange_29 : decode cX0_exchange 29 = .ok (.iload_n 2, 1) := by decide +kernel
theorem dX0_exchange_30 : decode cX0_exchange 30 = .ok (.iastore, 1) := by decide +kernel
theorem dX0_exchange_31 : decode cX0_exchange 31 = .ok (.aload_n 0, 1) := by decide +kernel
theorem dX0_exchange_32 : decode cX0_exchange 32 = .ok (.getfield 34, 3) := by decide +kernel
theorem dX0_exchange_35 : decode cX0_exchange 35 = .ok (.iload 4, 2) := by decide +kernel
theorem dX0_exchange_37 : decode cX0_exchange 37 = .ok (.iload_n 1, 1) := by decide +kernel
theorem dX0_exchange_38 : decode cX0_exchange 38 = .ok (.iastore, 1) := by decide +kernel
theorem dX0_exchange_39 : decode cX0_exchange 39 = .ok (.return_, 1) := by decide +kernel
theorem dX0_writeDown_0 : decode cX0_writeDown 0 = .ok (.aload_n 0, 1) := by decide +kernel
theorem dX0_writeDown_1 : decode cX0_writeDown 1 = .ok (.getfield 18, 3) := by decide +kernel
theorem dX0_writeDown_4 : decode cX0_writeDown 4 = .ok (.iconst 5, 1) := by decide +kernel
theorem dX0_writeDown_5 : decode cX0_writeDown 5 = .ok (.imul, 1) := by decide +kernel
theorem dX0_writeDown_6 : decode cX0_writeDown 6 = .ok (.istore 6, 2) := by decide +kernel
theorem dX0_writeDown_8 : decode cX0_writeDown 8 = .ok (.aload_n 0, 1) := by decide +kernel
theorem dX0_writeDown_9 : decode cX0_writeDown 9 = .ok (.getfield 43, 3) := by decide +kernel
theorem dX0_writeDown_12 : decode cX0_writeDown 12 = .ok (.iload 6, 2) := by decide +kernel
theorem dX0_writeDown_14 : decode cX0_writeDown 14 = .ok (.iload_n 1, 1) := by decide +kernel
theorem dX0_writeDown_15 : decode cX0_writeDown 15 = .ok (.iastore, 1) := by decide +kernel
theorem dX0_writeDown_16 : decode cX0_writeDown 16 = .ok (.aload_n 0, 1) := by decide +kernel
theorem dX0_writeDown_17 : decode cX0_writeDown 17 = .ok (.getfield 43, 3) := by decide +kernel
theorem dX0_writeDown_20 : decode cX0_writeDown 20 = .ok (.iload 6, 2) := by decide +kernel
theorem dX0_writeDown_22 : decode cX0_writeDown 22 = .ok (.iconst 1, 1) := by decide +kernel
theorem dX0_writeDown_23 : decode cX0_writeDown 23 = .ok (.iadd, 1) := by decide +kernel
theorem dX0_writeDown_24 : decode cX0_writeDown 24 = .ok (.iload_n 2, 1) := by decide +kernel
theorem dX0_writeDown_25 : decode cX0_writeDown 25 = .ok (.iastore, 1) := by decide +kernel
theorem dX0_writeDown_26 : decode cX0_writeDown 26 = .ok (.aload_n 0, 1) := by decide +kernel
theorem dX0_writeDown_27 : decode cX0_writeDown 27 = .ok (.getfield 43, 3) := by decide +kernel
theorem dX0_writeDown_30 : decode cX0_writeDown 30 = .ok (.iload 6, 2) := by decide +kernel
theorem dX0_writeDown_32 : decode cX0_writeDown 32 = .ok (.iconst 2, 1) := by decide +kernel
theorem dX0_writeDown_33 : decode cX0_writeDown 33 = .ok (.iadd, 1) := by decide +kernel
theorem dX0_writeDown_34 : decode cX0_writeDown 34 = .ok (.iload_n 3, 1) := by decide +kernel
theorem dX0_writeDown_35 : decode cX0_writeDown 35 = .ok (.iastore, 1) := by decide +kernel
theorem dX0_writeDown_36 : decode cX0_writeDown 36 = .ok (.aload_n 0, 1) := by decide +kernel
theorem dX0_writeDown_37 : decode cX0_writeDown 37 = .ok (.getfield 43, 3) := by decide +kernel
theorem dX0_writeDown_40 : decode cX0_writeDown 40 = .ok (.iload 6, 2) := by decide +kernel
theorem dX0_writeDown_42 : decode cX0_writeDown 42 = .ok (.iconst 3, 1) := by decide +kernel
theorem dX0_writeDown_43 : decode cX0_writeDown 43 = .ok (.iadd, 1) := by decide +kernel
theorem dX0_writeDown_44 : decode cX0_writeDown 44 = .ok (.iload 4, 2) := by decide +kernel
theorem dX0_writeDown_46 : decode cX0_writeDown 46 = .ok (.iastore, 1) := by decide +kernel
theorem dX0_writeDown_47 : decode cX0_writeDown 47 = .ok (.aload_n 0, 1) := by decide +kernel
theorem dX0_writeDown_48 : decode cX0_writeDown 48 = .ok (.getfield 43, 3) := by decide +kernel
theorem dX0_writeDown_51 : decode cX0_writeDown 51 = .ok (.iload 6, 2) := by decide +kernel
theorem dX0_writeDown_53 : decode cX0_writeDown 53 = .ok (.iconst 4, 1) := by decide +kernel
theorem dX0_writeDown_54 : decode cX0_writeDown 54 = .ok (.iadd, 1) := by decide +kernel
theorem dX0_writeDown_55 : decode cX0_writeDown 55 = .ok (.iload 5, 2) := by decide +kernel
theorem dX0_writeDown_57 : decode cX0_writeDown 57 = .ok (.iastore, 1) := by decide +kernel
theorem dX0_writeDown_58 : decode cX0_writeDown 58 = .ok (.aload_n 0, 1) := by decide +kernel
theorem dX0_writeDown_59 : decode cX0_writeDown 59 = .ok (.dup, 1) := by decide +kernel
theorem dX0_writeDown_60 : decode cX0_writeDown 60 = .ok (.getfield 18, 3) := by decide +kernel
theorem dX0_writeDown_63 : decode cX0_writeDown 63 = .ok (.iconst 1, 1) := by decide +kernel
theorem dX0_writeDown_64 : decode cX0_writeDown 64 = .ok (.iadd, 1) := by decide +kernel
theorem dX0_writeDown_65 : decode cX0_writeDown 65 = .ok (.putfield 18, 3) := by decide +kernel
theorem dX0_writeDown_68 : decode cX0_writeDown 68 = .ok (.aload_n 0, 1) := by decide +kernel
theorem dX0_writeDown_69 : decode cX0_writeDown 69 = .ok (.getfield 18, 3) := by decide +kernel
theorem dX0_writeDown_72 : decode cX0_writeDown 72 = .ok (.ireturn, 1) := by decide +kernel
theorem dX0_kindsByNotes_0 : decode cX0_kindsByNotes 0 = .ok (.iconst 0, 1) := by decide +kernel
theorem dX0_kindsByNotes_1 : decode cX0_kindsByNotes 1 = .ok (.istore_n 2, 1) := by decide +kernel
theorem dX0_kindsByNotes_2 : decode cX0_kindsByNotes 2 = .ok (.iconst 0, 1) := by decide +kernel
theorem dX0_kindsByNotes_3 : decode cX0_kindsByNotes 3 = .ok (.istore_n 3, 1) := by decide +kernel
theorem dX0_kindsByNotes_4 : decode cX0_kindsByNotes 4 = .ok (.iload_n 3, 1) := by decide +kernel
theorem dX0_kindsByNotes_5 : decode cX0_kindsByNotes 5 = .ok (.bipush 6, 2) := by decide +kernel
theorem dX0_kindsByNotes_7 : decode cX0_kindsByNotes 7 = .ok (.if_icmp .ge 76, 3) := by decide +kernel
theorem dX0_kindsByNotes_10 : decode cX0_kindsByNotes 10 = .ok (.iconst 1, 1) := by decide +kernel
theorem dX0_kindsByNotes_11 : decode cX0_kindsByNotes 11 = .ok (.istore 4, 2) := by decide +kernel
theorem dX0_kindsByNotes_13 : decode cX0_kindsByNotes 13 = .ok (.iconst 0, 1) := by decide +kernel
theorem dX0_kindsByNotes_14 : decode cX0_kindsByNotes 14 = .ok (.istore 5, 2) := by decide +kernel
theorem dX0_kindsByNotes_16 : decode cX0_kindsByNotes 16 = .ok (.iload 5, 2) := by decide +kernel
theorem dX0_kindsByNotes_18 : decode cX0_kindsByNotes 18 = .ok (.aload_n 0, 1) := by decide +kernel
theorem dX0_kindsByNotes_19 : decode cX0_kindsByNotes 19 = .ok (.getfield 18, 3) := by decide +kernel
theorem dX0_kindsByNotes_22 : decode cX0_kindsByNotes 22 = .ok (.if_icmp .ge 44, 3) := by decide +kernel
theorem dX0_kindsByNotes_25 : decode cX0_kindsByNotes 25 = .ok (.iload 4, 2) := by decide +kernel
theorem dX0_kindsByNotes_27 : decode cX0_kindsByNotes 27 = .ok (.ifCond .eq 30, 3) := by decide +kernel
theorem dX0_kindsByNotes_30 : decode cX0_kindsByNotes 30 = .ok (.aload_n 0, 1) := by decide +kernel
theorem dX0_kindsByNotes_31 : decode cX0_kindsByNotes 31 = .ok (.getfield 43, 3) := by decide +kernel
theorem dX0_kindsByNotes_34 : decode cX0_kindsByNotes 34 = .ok (.iload 5, 2) := by decide +kernel
theorem dX0_kindsByNotes_36 : decode cX0_kindsByNotes 36 = .ok (.iconst 5, 1) := by decide +kernel
theorem dX0_kindsByNotes_37 : decode cX0_kindsByNotes 37 = .ok (.imul, 1) := by decide +kernel
theorem dX0_kindsByNotes_38 : decode cX0_kindsByNotes 38 = .ok (.iaload, 1) := by decide +kernel
theorem dX0_kindsByNotes_39 : decode cX0_kindsByNotes 39 = .ok (.iload_n 1, 1) := by decide +kernel
theorem dX0_kindsByNotes_40 : decode cX0_kindsByNotes 40 = .ok (.if_icmp .ne 13, 3) := by decide +kernel
theorem dX0_kindsByNotes_43 : decode cX0_kindsByNotes 43 = .ok (.aload_n 0, 1) := by decide +kernel
theorem dX0_kindsByNotes_44 : decode cX0_kindsByNotes 44 = .ok (.iload_n 3, 1) := by decide +kernel
theorem dX0_kindsByNotes_45 : decode cX0_kindsByNotes 45 = .ok (.iload 5, 2) := by decide +kernel
theorem dX0_kindsByNotes_47 : decode cX0_kindsByNotes 47 = .ok (.invokevirtual 100, 3) := by decide +kernel
theorem dX0_kindsByNotes_50 : decode cX0_kindsByNotes 50 = .ok (.ifCond .eq 7, 3) := by decide +kernel
theorem dX0_kindsByNotes_53 : decode cX0_kindsByNotes 53 = .ok (.iconst 1, 1) := by decide +kernel
theorem dX0_kindsByNotes_54 : decode cX0_kindsByNotes 54 = .ok (.goto 4, 3) := by decide +kernel
theorem dX0_kindsByNotes_57 : decode cX0_kindsByNotes 57 = .ok (.iconst 0, 1) := by decide +kernel
theorem dX0_kindsByNotes_58 : decode cX0_kindsByNotes 58 = .ok (.istore 4, 2) := by decide +kernel
theorem dX0_kindsByNotes_60 : decode cX0_kindsByNotes 60 = .ok (.iinc 5 1, 3) := by decide +kernel
theorem dX0_kindsByNotes_63 : decode cX0_kindsByNotes 63 = .ok (.goto (-47), 3) := by decide +kernel
theorem dX0_kindsByNotes_66 : decode cX0_kindsByNotes 66 = .ok (.iload 4, 2) := by decide +kernel
theorem dX0_kindsByNotes_68 : decode cX0_kindsByNotes 68 = .ok (.ifCond .eq 9, 3) := by decide +kernel
theorem dX0_kindsByNotes_71 : decode cX0_kindsByNotes 71 = .ok (.iload_n 2, 1) := by decide +kernel
theorem dX0_kindsByNotes_72 : decode cX0_kindsByNotes 72 = .ok (.iconst 1, 1) := by decide +kernel
theorem dX0_kindsByNotes_73 : decode cX0_kindsByNotes 73 = .ok (.iload_n 3, 1) := by decide +kernel
theorem dX0_kindsByNotes_74 : decode cX0_kindsByNotes 74 = .ok (.ishl, 1) := by decide +kernel
theorem dX0_kindsByNotes_75 : decode cX0_kindsByNotes 75 = .ok (.ior, 1) := by decide +kernel
theorem dX0_kindsByNotes_76 : decode cX0_kindsByNotes 76 = .ok (.istore_n 2, 1) := by decide +kernel
theorem dX0_kindsByNotes_77 : decode cX0_kindsByNotes 77 = .ok (.iinc 3 1, 3) := by decide +kernel
theorem dX0_kindsByNotes_80 : decode cX0_kindsByNotes 80 = .ok (.goto (-76), 3) := by decide +kernel
theorem dX0_kindsByNotes_83 : decode cX0_kindsByNotes 83 = .ok (.iload_n 2, 1) := by decide +kernel
theorem dX0_kindsByNotes_84 : decode cX0_kindsByNotes 84 = .ok (.ireturn, 1) := by decide +kernel
theorem dX0_isSoByNote_0 : decode cX0_isSoByNote 0 = .ok (.iload_n 2, 1) := by decide +kernel
theorem dX0_isSoByNote_1 : decode cX0_isSoByNote 1 = .ok (.iconst 5, 1) := by decide +kernel
theorem dX0_isSoByNote_2 : decode cX0_isSoByNote 2 = .ok (.imul, 1) := by decide +kernel
theorem dX0_isSoByNote_3 : decode cX0_isSoByNote 3 = .ok (.istore_n 3, 1) := by decide +kernel
theorem dX0_isSoByNote_4 : decode cX0_isSoByNote 4 = .ok (.aload_n 0, 1) := by decide +kernel
theorem dX0_isSoByNote_5 : decode cX0_isSoByNote 5 = .ok (.getfield 43, 3) := by decide +kernel
theorem dX0_isSoByNote_8 : decode cX0_isSoByNote 8 = .ok (.iload_n 3, 1) := by decide +kernel
theorem dX0_isSoByNote_9 : decode cX0_isSoByNote 9 = .ok (.iaload, 1) := by decide +kernel
theorem dX0_isSoByNote_10 : decode cX0_isSoByNote 10 = .ok (.istore 4, 2) := by decide +kernel
theorem dX0_isSoByNote_12 : decode cX0_isSoByNote 12 = .ok (.iload_n 1, 1) := by decide +kernel
theorem dX0_isSoByNote_13 : decode cX0_isSoByNote 13 = .ok (.aload_n 0, 1) := by decide +kernel
theorem dX0_isSoByNote_14 : decode cX0_isSoByNote 14 = .ok (.getfield 28, 3) := by decide +kernel
theorem dX0_isSoByNote_17 : decode cX0_isSoByNote 17 = .ok (.iload 4, 2) := by decide +kernel
theorem dX0_isSoByNote_19 : decode cX0_isSoByNote 19 = .ok (.iaload, 1) := by decide +kernel
theorem dX0_isSoByNote_20 : decode cX0_isSoByNote 20 = .ok (.aload_n 0, 1) := by decide +kernel
theorem dX0_isSoByNote_21 : decode cX0_isSoByNote 21 = .ok (.getfield 43, 3) := by decide +kernel
theorem dX0_isSoByNote_24 : decode cX0_isSoByNote 24 = .ok (.iload_n 3, 1) := by decide +kernel
theorem dX0_isSoByNote_25 : decode cX0_isSoByNote 25 = .ok (.iconst 2, 1) := by decide +kernel
theorem dX0_isSoByNote_26 : decode cX0_isSoByNote 26 = .ok (.iadd, 1) := by decide +kernel
theorem dX0_isSoByNote_27 : decode cX0_isSoByNote 27 = .ok (.iaload, 1) := by decide +kernel
theorem dX0_isSoByNote_28 : decode cX0_isSoByNote 28 = .ok (.invokestatic 73, 3) := by decide +kernel
theorem dX0_isSoByNote_31 : decode cX0_isSoByNote 31 = .ok (.aload_n 0, 1) := by decide +kernel
theorem dX0_isSoByNote_32 : decode cX0_isSoByNote 32 = .ok (.getfield 43, 3) := by decide +kernel
theorem dX0_isSoByNote_35 : decode cX0_isSoByNote 35 = .ok (.iload_n 3, 1) := by decide +kernel
theorem dX0_isSoByNote_36 : decode cX0_isSoByNote 36 = .ok (.iconst 3, 1) := by decide +kernel
theorem dX0_isSoByNote_37 : decode cX0_isSoByNote 37 = .ok (.iadd, 1) := by decide +kernel
theorem dX0_isSoByNote_38 : decode cX0_isSoByNote 38 = .ok (.iaload, 1) := by decide +kernel
theorem dX0_isSoByNote_39 : decode cX0_isSoByNote 39 = .ok (.if_icmp .ne 30, 3) := by decide +kernel
theorem dX0_isSoByNote_42 : decode cX0_isSoByNote 42 = .ok (.iload_n 1, 1) := by decide +kernel
theorem dX0_isSoByNote_43 : decode cX0_isSoByNote 43 = .ok (.aload_n 0, 1) := by decide +kernel
theorem dX0_isSoByNote_44 : decode cX0_isSoByNote 44 = .ok (.getfield 43, 3) := by decide +kernel
theorem dX0_isSoByNote_47 : decode cX0_isSoByNote 47 = .ok (.iload_n 3, 1) := by decide +kernel
theorem dX0_isSoByNote_48 : decode cX0_isSoByNote 48 = .ok (.iconst 1, 1) := by decide +kernel
theorem dX0_isSoByNote_49 : decode cX0_isSoByNote 49 = .ok (.iadd, 1) := by decide +kernel
theorem dX0_isSoByNote_50 : decode cX0_isSoByNote 50 = .ok (.iaload, 1) := by decide +kernel
theorem dX0_isSoByNote_51 : decode cX0_isSoByNote 51 = .ok (.invokestatic 67, 3) := by decide +kernel
theorem dX0_isSoByNote_54 : decode cX0_isSoByNote 54 = .ok (.aload_n 0, 1) := by decide +kernel
theorem dX0_isSoByNote_55 : decode cX0_isSoByNote 55 = .ok (.getfield 43, 3) := by decide +kernel
theorem dX0_isSoByNote_58 : decode cX0_isSoByNote 58 = .ok (.iload_n 3, 1) := by decide +kernel
theorem dX0_isSoByNote_59 : decode cX0_isSoByNote 59 = .ok (.iconst 4, 1) := by decide +kernel
theorem dX0_isSoByNote_60 : decode cX0_isSoByNote 60 = .ok (.iadd, 1) := by decide +kernel
theorem dX0_isSoByNote_61 : decode cX0_isSoByNote 61 = .ok (.iaload, 1) := by decide +kernel
theorem dX0_isSoByNote_62 : decode cX0_isSoByNote 62 = .ok (.if_icmp .ne 7, 3) := by decide +kernel
theorem dX0_isSoByNote_65 : decode cX0_isSoByNote 65 = .ok (.iconst 1, 1) := by decide +kernel
theorem dX0_isSoByNote_66 : decode cX0_isSoByNote 66 = .ok (.goto 4, 3) := by decide +kernel
theorem dX0_isSoByNote_69 : decode cX0_isSoByNote 69 = .ok (.iconst 0, 1) := by decide +kernel
theorem dX0_isSoByNote_70 : decode cX0_isSoByNote 70 = .ok (.ireturn, 1) := by decide +kernel
theorem dX0_lendOrLeave_0 : decode cX0_lendOrLeave 0 = .ok (.aload_n 0, 1) := by decide +kernel
theorem dX0_lendOrLeave_1 : decode cX0_lendOrLeave 1 = .ok (.getfield 34, 3) := by decide +kernel
theorem dX0_lendOrLeave_4 : decode cX0_lendOrLeave 4 = .ok (.iload_n 1, 1) := by decide +kernel
theorem dX0_lendOrLeave_5 : decode cX0_lendOrLeave 5 = .ok (.iaload, 1) := by decide +kernel
theorem dX0_lendOrLeave_6 : decode cX0_lendOrLeave 6 = .ok (.iconst (-1), 1) := by decide +kernel
theorem dX0_lendOrLeave_7 : decode cX0_lendOrLeave 7 = .ok (.if_icmp .ne 11, 3) := by decide +kernel
theorem dX0_lendOrLeave_10 : decode cX0_lendOrLeave 10 = .ok (.aload_n 0, 1) := by decide +kernel
theorem dX0_lendOrLeave_11 : decode cX0_lendOrLeave 11 = .ok (.iload_n 1, 1) := by decide +kernel
theorem dX0_lendOrLeave_12 : decode cX0_lendOrLeave 12 = .ok (.iload_n 2, 1) := by decide +kernel
theorem dX0_lendOrLeave_13 : decode cX0_lendOrLeave 13 = .ok (.invokevirtual 103, 3) := by decide +kernel
theorem dX0_lendOrLeave_16 : decode cX0_lendOrLeave 16 = .ok (.pop, 1) := by decide +kernel
theorem dX0_lendOrLeave_17 : decode cX0_lendOrLeave 17 = .ok (.return_, 1) := by decide +kernel
theorem dX0_lendOrLeave_18 : decode cX0_lendOrLeave 18 = .ok (.aload_n 0, 1) := by decide +kernel
theorem dX0_lendOrLeave_19 : decode cX0_lendOrLeave 19 = .ok (.iload_n 2, 1) := by decide +kernel
theorem dX0_lendOrLeave_20 : decode cX0_lendOrLeave 20 = .ok (.invokevirtual 55, 3) := by decide +kernel
theorem dX0_lendOrLeave_23 : decode cX0_lendOrLeave 23 = .ok (.istore_n 3, 1) := by decide +kernel
theorem dX0_lendOrLeave_24 : decode cX0_lendOrLeave 24 = .ok (.iload_n 3, 1) := by decide +kernel
theorem dX0_lendOrLeave_25 : decode cX0_lendOrLeave 25 = .ok (.iconst (-1), 1) := by decide +kernel
theorem dX0_lendOrLeave_26 : decode cX0_lendOrLeave 26 = .ok (.if_icmp .eq 8, 3) := by decide +kernel
theorem dX0_lendOrLeave_29 : decode cX0_lendOrLeave 29 = .ok (.aload_n 0, 1) := by decide +kernel
theorem dX0_lendOrLeave_30 : decode cX0_lendOrLeave 30 = .ok (.iload_n 3, 1) := by decide +kernel
theorem dX0_lendOrLeave_31 : decode cX0_lendOrLeave 31 = .ok (.invokevirtual 59, 3) := by decide +kernel
theorem dX0_lendOrLeave_34 : decode cX0_lendOrLeave 34 = .ok (.return_, 1) := by decide +kernel
theorem dX0_atCounter_0 : decode cX0_atCounter 0 = .ok (.iconst 0, 1) := by decide +kernel
theorem dX0_atCounter_1 : decode cX0_atCounter 1 = .ok (.istore_n 1, 1) := by decide +kernel
theorem dX0_atCounter_2 : decode cX0_atCounter 2 = .ok (.iconst 0, 1) := by decide +kernel
theorem dX0_atCounter_3 : decode cX0_atCounter 3 = .ok (.istore_n 2, 1) := by decide +kernel
theorem dX0_atCounter_4 : decode cX0_atCounter 4 = .ok (.iload_n 2, 1) := by decide +kernel
theorem dX0_atCounter_5 : decode cX0_atCounter 5 = .ok (.aload_n 0, 1) := by decide +kernel
theorem dX0_atCounter_6 : decode cX0_atCounter 6 = .ok (.getfield 9, 3) := by decide +kernel
theorem dX0_atCounter_9 : decode cX0_atCounter 9 = .ok (.if_icmp .ge 22, 3) := by decide +kernel
theorem dX0_atCounter_12 : decode cX0_atCounter 12 = .ok (.aload_n 0, 1) := by decide +kernel
theorem dX0_atCounter_13 : decode cX0_atCounter 13 = .ok (.getfield 34, 3) := by decide +kernel
theorem dX0_atCounter_16 : decode cX0_atCounter 16 = .ok (.iload_n 2, 1) := by decide +kernel
theorem dX0_atCounter_17 : decode cX0_atCounter 17 = .ok (.iaload, 1) := by decide +kernel
theorem dX0_atCounter_18 : decode cX0_atCounter 18 = .ok (.iconst (-1), 1) := by decide +kernel
theorem dX0_atCounter_19 : decode cX0_atCounter 19 = .ok (.if_icmp .ne 6, 3) := by decide +kernel
theorem dX0_atCounter_22 : decode cX0_atCounter 22 = .ok (.iinc 1 1, 3) := by decide +kernel
theorem dX0_atCounter_25 : decode cX0_atCounter 25 = .ok (.iinc 2 1, 3) := by decide +kernel
theorem dX0_atCounter_28 : decode cX0_atCounter 28 = .ok (.goto (-24), 3) := by decide +kernel
theorem dX0_atCounter_31 : decode cX0_atCounter 31 = .ok (.iload_n 1, 1) := by decide +kernel
theorem dX0_atCounter_32 : decode cX0_atCounter 32 = .ok (.ireturn, 1) := by decide +kernel
theorem dX0_allSlipped_0 : decode cX0_allSlipped 0 = .ok (.iconst 0, 1) := by decide +kernel
theorem dX0_allSlipped_1 : decode cX0_allSlipped 1 = .ok (.istore_n 1, 1) := by decide +kernel
theorem dX0_allSlipped_2 : decode cX0_allSlipped 2 = .ok (.iconst 0, 1) := by decide +kernel
theorem dX0_allSlipped_3 : decode cX0_allSlipped 3 = .ok (.istore_n 2, 1) := by decide +kernel
theorem dX0_allSlipped_4 : decode cX0_allSlipped 4 = .ok (.iload_n 2, 1) := by decide +kernel
theorem dX0_allSlipped_5 : decode cX0_allSlipped 5 = .ok (.aload_n 0, 1) := by decide +kernel
theorem dX0_allSlipped_6 : decode cX0_allSlipped 6 = .ok (.getfield 9, 3) := by decide +kernel
theorem dX0_allSlipped_9 : decode cX0_allSlipped 9 = .ok (.if_icmp .ge 18, 3) := by decide +kernel
theorem dX0_allSlipped_12 : decode cX0_allSlipped 12 = .ok (.iload_n 1, 1) := by decide +kernel
theorem dX0_allSlipped_13 : decode cX0_allSlipped 13 = .ok (.aload_n 0, 1) := by decide +kernel
theorem dX0_allSlipped_14 : decode cX0_allSlipped 14 = .ok (.getfield 40, 3) := by decide +kernel
theorem dX0_allSlipped_17 : decode cX0_allSlipped 17 = .ok (.iload_n 2, 1) := by decide +kernel
theorem dX0_allSlipped_18 : decode cX0_allSlipped 18 = .ok (.iaload, 1) := by decide +kernel
theorem dX0_allSlipped_19 : decode cX0_allSlipped 19 = .ok (.iadd, 1) := by decide +kernel
theorem dX0_allSlipped_20 : decode cX0_allSlipped 20 = .ok (.istore_n 1, 1) := by decide +kernel
theorem dX0_allSlipped_21 : decode cX0_allSlipped 21 = .ok (.iinc 2 1, 3) := by decide +kernel
theorem dX0_allSlipped_24 : decode cX0_allSlipped 24 = .ok (.goto (-20), 3) := by decide +kernel
theorem dX0_allSlipped_27 : decode cX0_allSlipped 27 = .ok (.iload_n 1, 1) := by decide +kernel
theorem dX0_allSlipped_28 : decode cX0_allSlipped 28 = .ok (.ireturn, 1) := by decide +kernel
theorem dX0_digestOn_0 : decode cX0_digestOn 0 = .ok (.lload_n 1, 1) := by decide +kernel
theorem dX0_digestOn_1 : decode cX0_digestOn 1 = .ok (.lstore_n 3, 1) := by decide +kernel
theorem dX0_digestOn_2 : decode cX0_digestOn 2 = .ok (.iconst 0, 1) := by decide +kernel
theorem dX0_digestOn_3 : decode cX0_digestOn 3 = .ok (.istore 5, 2) := by decide +kernel
theorem dX0_digestOn_5 : decode cX0_digestOn 5 = .ok (.iload 5, 2) := by decide +kernel
theorem dX0_digestOn_7 : decode cX0_digestOn 7 = .ok (.aload_n 0, 1) := by decide +kernel
theorem dX0_digestOn_8 : decode cX0_digestOn 8 = .ok (.getfield 9, 3) := by decide +kernel
theorem dX0_digestOn_11 : decode cX0_digestOn 11 = .ok (.if_icmp .ge 24, 3) := by decide +kernel
theorem dX0_digestOn_14 : decode cX0_digestOn 14 = .ok (.ldc2_w 106, 3) := by decide +kernel
theorem dX0_digestOn_17 : decode cX0_digestOn 17 = .ok (.lload_n 3, 1) := by decide +kernel
theorem dX0_digestOn_18 : decode cX0_digestOn 18 = .ok (.lmul, 1) := by decide +kernel
theorem dX0_digestOn_19 : decode cX0_digestOn 19 = .ok (.aload_n 0, 1) := by decide +kernel
theorem dX0_digestOn_20 : decode cX0_digestOn 20 = .ok (.getfield 31, 3) := by decide +kernel
theorem dX0_digestOn_23 : decode cX0_digestOn 23 = .ok (.iload 5, 2) := by decide +kernel
theorem dX0_digestOn_25 : decode cX0_digestOn 25 = .ok (.iaload, 1) := by decide +kernel
theorem dX0_digestOn_26 : decode cX0_digestOn 26 = .ok (.i2l, 1) := by decide +kernel
theorem dX0_digestOn_27 : decode cX0_digestOn 27 = .ok (.ladd, 1) := by decide +kernel
theorem dX0_digestOn_28 : decode cX0_digestOn 28 = .ok (.lstore_n 3, 1) := by decide +kernel
theorem dX0_digestOn_29 : decode cX0_digestOn 29 = .ok (.iinc 5 1, 3) := by decide +kernel
theorem dX0_digestOn_32 : decode cX0_digestOn 32 = .ok (.goto (-27), 3) := by decide +kernel
theorem dX0_digestOn_35 : decode cX0_digestOn 35 = .ok (.iconst 0, 1) := by decide +kernel
theorem dX0_digestOn_36 : decode cX0_digestOn 36 = .ok (.istore 5, 2) := by decide +kernel
theorem dX0_digestOn_38 : decode cX0_digestOn 38 = .ok (.iload 5, 2) := by decide +kernel
theorem dX0_digestOn_40 : decode cX0_digestOn 40 = .ok (.aload_n 0, 1) := by decide +kernel
theorem dX0_digestOn_41 : decode cX0_digestOn 41 = .ok (.getfield 9, 3) := by decide +kernel
theorem dX0_digestOn_44 : decode cX0_digestOn 44 = .ok (.if_icmp .ge 84, 3) := by decide +kernel
theorem dX0_digestOn_47 : decode cX0_digestOn 47 = .ok (.ldc2_w 106, 3) := by decide +kernel
theorem dX0_digestOn_50 : decode cX0_digestOn 50 = .ok (.lload_n 3, 1) := by decide +kernel
theorem dX0_digestOn_51 : decode cX0_digestOn 51 = .ok (.lmul, 1) := by decide +kernel
theorem dX0_digestOn_52 : decode cX0_digestOn 52 = .ok (.aload_n 0, 1) := by decide +kernel
theorem dX0_digestOn_53 : decode cX0_digestOn 53 = .ok (.getfield 24, 3) := by decide +kernel
theorem dX0_digestOn_56 : decode cX0_digestOn 56 = .ok (.iload 5, 2) := by decide +kernel
theorem dX0_digestOn_58 : decode cX0_digestOn 58 = .ok (.iaload, 1) := by decide +kernel
theorem dX0_digestOn_59 : decode cX0_digestOn 59 = .ok (.i2l, 1) := by decide +kernel
theorem dX0_digestOn_60 : decode cX0_digestOn 60 = .ok (.ladd, 1) := by decide +kernel
theorem dX0_digestOn_61 : decode cX0_digestOn 61 = .ok (.lstore_n 3, 1) := by decide +kernel
theorem dX0_digestOn_62 : decode cX0_digestOn 62 = .ok (.ldc2_w 106, 3) := by decide +kernel
theorem dX0_digestOn_65 : decode cX0_digestOn 65 = .ok (.lload_n 3, 1) := by decide +kernel
theorem dX0_digestOn_66 : decode cX0_digestOn 66 = .ok (.lmul, 1) := by decide +kernel
theorem dX0_digestOn_67 : decode cX0_digestOn 67 = .ok (.aload_n 0, 1) := by decide +kernel
theorem dX0_digestOn_68 : decode cX0_digestOn 68 = .ok (.getfield 28, 3) := by decide +kernel
theorem dX0_digestOn_71 : decode cX0_digestOn 71 = .ok (.iload 5, 2) := by decide +kernel
theorem dX0_digestOn_73 : decode cX0_digestOn 73 = .ok (.iaload, 1) := by decide +kernel
theorem dX0_digestOn_74 : decode cX0_digestOn 74 = .ok (.i2l, 1) := by decide +kernel
theorem dX0_digestOn_75 : decode cX0_digestOn 75 = .ok (.ladd, 1) := by decide +kernel
theorem dX0_digestOn_76 : decode cX0_digestOn 76 = .ok (.lstore_n 3, 1) := by decide +kernel
theorem dX0_digestOn_77 : decode cX0_digestOn 77 = .ok (.ldc2_w 106, 3) := by decide +kernel
theorem dX0_digestOn_80 : decode cX0_digestOn 80 = .ok (.lload_n 3, 1) := by decide +kernel
theorem dX0_digestOn_81 : decode cX0_digestOn 81 = .ok (.lmul, 1) := by decide +kernel
theorem dX0_digestOn_82 : decode cX0_digestOn 82 = .ok (.aload_n 0, 1) := by decide +kernel
theorem dX0_digestOn_83 : decode cX0_digestOn 83 = .ok (.getfield 34, 3) := by decide +kernel
theorem dX0_digestOn_86 : decode cX0_digestOn 86 = .ok (.iload 5, 2) := by decide +kernel
theorem dX0_digestOn_88 : decode cX0_digestOn 88 = .ok (.iaload, 1) := by decide +kernel
theorem dX0_digestOn_89 : decode cX0_digestOn 89 = .ok (.i2l, 1) := by decide +kernel
theorem dX0_digestOn_90 : decode cX0_digestOn 90 = .ok (.ladd, 1) := by decide +kernel
theorem dX0_digestOn_91 : decode cX0_digestOn 91 = .ok (.lstore_n 3, 1) := by decide +kernel
theorem dX0_digestOn_92 : decode cX0_digestOn 92 = .ok (.ldc2_w 106, 3) := by decide +kernel
theorem dX0_digestOn_95 : decode cX0_digestOn 95 = .ok (.lload_n 3, 1) := by decide +kernel
theorem dX0_digestOn_96 : decode cX0_digestOn 96 = .ok (.lmul, 1) := by decide +kernel
theorem dX0_digestOn_97 : decode cX0_digestOn 97 = .ok (.aload_n 0, 1) := by decide +kernel
theorem dX0_digestOn_98 : decode cX0_digestOn 98 = .ok (.getfield 37, 3) := by decide +kernel
theorem dX0_digestOn_101 : decode cX0_digestOn 101 = .ok (.iload 5, 2) := by decide +kernel
theorem dX0_digestOn_103 : decode cX0_digestOn 103 = .ok (.iaload, 1) := by decide +kernel
theorem dX0_digestOn_104 : decode cX0_digestOn 104 = .ok (.i2l, 1) := by decide +kernel
theorem dX0_digestOn_105 : decode cX0_digestOn 105 = .ok (.ladd, 1) := by decide +kernel
theorem dX0_digestOn_106 : decode cX0_digestOn 106 = .ok (.lstore_n 3, 1) := by decide +kernel
theorem dX0_digestOn_107 : decode cX0_digestOn 107 = .ok (.ldc2_w 106, 3) := by decide +kernel
theorem dX0_digestOn_110 : decode cX0_digestOn 110 = .ok (.lload_n 3, 1) := by decide +kernel
theorem dX0_digestOn_111 : decode cX0_digestOn 111 = .ok (.lmul, 1) := by decide +kernel
theorem dX0_digestOn_112 : decode cX0_digestOn 112 = .ok (.aload_n 0, 1) := by decide +kernel
theorem dX0_digestOn_113 : decode cX0_digestOn 113 = .ok (.getfield 40, 3) := by decide +kernel
theorem dX0_digestOn_116 : decode cX0_digestOn 116 = .ok (.iload 5, 2) := by decide +kernel
theorem dX0_digestOn_118 : decode cX0_digestOn 118 = .ok (.iaload, 1) := by decide +kernel
theorem dX0_digestOn_119 : decode cX0_digestOn 119 = .ok (.i2l, 1) := by decide +kernel
theorem dX0_digestOn_120 : decode cX0_digestOn 120 = .ok (.ladd, 1) := by decide +kernel
theorem dX0_digestOn_121 : decode cX0_digestOn 121 = .ok (.lstore_n 3, 1) := by decide +kernel
theorem dX0_digestOn_122 : decode cX0_digestOn 122 = .ok (.iinc 5 1, 3) := by decide +kernel
theorem dX0_digestOn_125 : decode cX0_digestOn 125 = .ok (.goto (-87), 3) := by decide +kernel
theorem dX0_digestOn_128 : decode cX0_digestOn 128 = .ok (.iconst 0, 1) := by decide +kernel
theorem dX0_digestOn_129 : decode cX0_digestOn 129 = .ok (.istore 5, 2) := by decide +kernel
theorem dX0_digestOn_131 : decode cX0_digestOn 131 = .ok (.iload 5, 2) := by decide +kernel
theorem dX0_digestOn_133 : decode cX0_digestOn 133 = .ok (.aload_n 0, 1) := by decide +kernel
theorem dX0_digestOn_134 : decode cX0_digestOn 134 = .ok (.getfield 18, 3) := by decide +kernel
theorem dX0_digestOn_137 : decode cX0_digestOn 137 = .ok (.iconst 5, 1) := by decide +kernel
theorem dX0_digestOn_138 : decode cX0_digestOn 138 = .ok (.imul, 1) := by decide +kernel
theorem dX0_digestOn_139 : decode cX0_digestOn 139 = .ok (.if_icmp .ge 24, 3) := by decide +kernel
theorem dX0_digestOn_142 : decode cX0_digestOn 142 = .ok (.ldc2_w 106, 3) := by decide +kernel
theorem dX0_digestOn_145 : decode cX0_digestOn 145 = .ok (.lload_n 3, 1) := by decide +kernel
theorem dX0_digestOn_146 : decode cX0_digestOn 146 = .ok (.lmul, 1) := by decide +kernel
theorem dX0_digestOn_147 : decode cX0_digestOn 147 = .ok (.aload_n 0, 1) := by decide +kernel
theorem dX0_digestOn_148 : decode cX0_digestOn 148 = .ok (.getfield 43, 3) := by decide +kernel
theorem dX0_digestOn_151 : decode cX0_digestOn 151 = .ok (.iload 5, 2) := by decide +kernel
theorem dX0_digestOn_153 : decode cX0_digestOn 153 = .ok (.iaload, 1) := by decide +kernel
theorem dX0_digestOn_154 : decode cX0_digestOn 154 = .ok (.i2l, 1) := by decide +kernel
theorem dX0_digestOn_155 : decode cX0_digestOn 155 = .ok (.ladd, 1) := by decide +kernel
theorem dX0_digestOn_156 : decode cX0_digestOn 156 = .ok (.lstore_n 3, 1) := by decide +kernel
theorem dX0_digestOn_157 : decode cX0_digestOn 157 = .ok (.iinc 5 1, 3) := by decide +kernel
theorem dX0_digestOn_160 : decode cX0_digestOn 160 = .ok (.goto (-29), 3) := by decide +kernel
theorem dX0_digestOn_163 : decode cX0_digestOn 163 = .ok (.lload_n 3, 1) := by decide +kernel
theorem dX0_digestOn_164 : decode cX0_digestOn 164 = .ok (.lreturn, 1) := by decide +kernel
theorem dX1_soundOf_0 : decode cX1_soundOf 0 = .ok (.iload_n 0, 1) := by decide +kernel
theorem dX1_soundOf_1 : decode cX1_soundOf 1 = .ok (.tableswitch 64 1 5 #[35, 43, 64, 52, 43], 35) := by decide +kernel
theorem dX1_soundOf_36 : decode cX1_soundOf 36 = .ok (.iconst 0, 1) := by decide +kernel
theorem dX1_soundOf_37 : decode cX1_soundOf 37 = .ok (.iload_n 1, 1) := by decide +kernel
theorem dX1_soundOf_38 : decode cX1_soundOf 38 = .ok (.iconst 2, 1) := by decide +kernel
theorem dX1_soundOf_39 : decode cX1_soundOf 39 = .ok (.isub, 1) := by decide +kernel
theorem dX1_soundOf_40 : decode cX1_soundOf 40 = .ok (.invokestatic 9, 3) := by decide +kernel
theorem dX1_soundOf_43 : decode cX1_soundOf 43 = .ok (.ireturn, 1) := by decide +kernel
theorem dX1_soundOf_44 : decode cX1_soundOf 44 = .ok (.bipush 9, 2) := by decide +kernel
theorem dX1_soundOf_46 : decode cX1_soundOf 46 = .ok (.iload_n 1, 1) := by decide +kernel
theorem dX1_soundOf_47 : decode cX1_soundOf 47 = .ok (.iconst 2, 1) := by decide +kernel
theorem dX1_soundOf_48 : decode cX1_soundOf 48 = .ok (.iadd, 1) := by decide +kernel
theorem dX1_soundOf_49 : decode cX1_soundOf 49 = .ok (.invokestatic 15, 3) := by decide +kernel
theorem dX1_soundOf_52 : decode cX1_soundOf 52 = .ok (.ireturn, 1) := by decide +kernel
theorem dX1_soundOf_53 : decode cX1_soundOf 53 = .ok (.iconst 0, 1) := by decide +kernel
theorem dX1_soundOf_54 : decode cX1_soundOf 54 = .ok (.iload_n 1, 1) := by decide +kernel
theorem dX1_soundOf_55 : decode cX1_soundOf 55 = .ok (.iconst 2, 1) := by decide +kernel
theorem dX1_soundOf_56 : decode cX1_soundOf 56 = .ok (.isub, 1) := by decide +kernel
theorem dX1_soundOf_57 : decode cX1_soundOf 57 = .ok (.iload_n 2, 1) := by decide +kernel
theorem dX1_soundOf_58 : decode cX1_soundOf 58 = .ok (.iconst 2, 1) := by decide +kernel
theorem dX1_soundOf_59 : decode cX1_soundOf 59 = .ok (.irem, 1) := by decide +kernel
theorem dX1_soundOf_60 : decode cX1_soundOf 60 = .ok (.isub, 1) := by decide +kernel
theorem dX1_soundOf_61 : decode cX1_soundOf 61 = .ok (.invokestatic 9, 3) := by decide +kernel
theorem dX1_soundOf_64 : decode cX1_soundOf 64 = .ok (.ireturn, 1) := by decide +kernel
theorem dX1_soundOf_65 : decode cX1_soundOf 65 = .ok (.iload_n 1, 1) := by decide +kernel
theorem dX1_soundOf_66 : decode cX1_soundOf 66 = .ok (.ireturn, 1) := by decide +kernel
theorem dX1_wordsOf_0 : decode cX1_wordsOf 0 = .ok (.iload_n 0, 1) := by decide +kernel
theorem dX1_wordsOf_1 : decode cX1_wordsOf 1 = .ok (.tableswitch 51 2 5 #[31, 36, 51, 44], 31) := by decide +kernel
theorem dX1_wordsOf_32 : decode cX1_wordsOf 32 = .ok (.iload_n 1, 1) := by decide +kernel
theorem dX1_wordsOf_33 : decode cX1_wordsOf 33 = .ok (.invokestatic 18, 3) := by decide +kernel
theorem dX1_wordsOf_36 : decode cX1_wordsOf 36 = .ok (.ireturn, 1) := by decide +kernel
theorem dX1_wordsOf_37 : decode cX1_wordsOf 37 = .ok (.iconst 1, 1) := by decide +kernel
theorem dX1_wordsOf_38 : decode cX1_wordsOf 38 = .ok (.iconst 3, 1) := by decide +kernel
theorem dX1_wordsOf_39 : decode cX1_wordsOf 39 = .ok (.iload_n 1, 1) := by decide +kernel
theorem dX1_wordsOf_40 : decode cX1_wordsOf 40 = .ok (.isub, 1) := by decide +kernel
theorem dX1_wordsOf_41 : decode cX1_wordsOf 41 = .ok (.invokestatic 9, 3) := by decide +kernel
theorem dX1_wordsOf_44 : decode cX1_wordsOf 44 = .ok (.ireturn, 1) := by decide +kernel
theorem dX1_wordsOf_45 : decode cX1_wordsOf 45 = .ok (.iconst 2, 1) := by decide +kernel
theorem dX1_wordsOf_46 : decode cX1_wordsOf 46 = .ok (.iload_n 1, 1) := by decide +kernel
theorem dX1_wordsOf_47 : decode cX1_wordsOf 47 = .ok (.invokestatic 18, 3) := by decide +kernel
theorem dX1_wordsOf_50 : decode cX1_wordsOf 50 = .ok (.imul, 1) := by decide +kernel
theorem dX1_wordsOf_51 : decode cX1_wordsOf 51 = .ok (.ireturn, 1) := by decide +kernel
theorem dX1_wordsOf_52 : decode cX1_wordsOf 52 = .ok (.iload_n 1, 1) := by decide +kernel
theorem dX1_wordsOf_53 : decode cX1_wordsOf 53 = .ok (.invokestatic 24, 3) := by decide +kernel
theorem dX1_wordsOf_56 : decode cX1_wordsOf 56 = .ok (.ireturn, 1) := by decide +kernel
theorem dX1_plainWords_0 : decode cX1_plainWords 0 = .ok (.iload_n 0, 1) := by decide +kernel
theorem dX1_plainWords_1 : decode cX1_plainWords 1 = .ok (.iconst 2, 1) := by decide +kernel
theorem dX1_plainWords_2 : decode cX1_plainWords 2 = .ok (.if_icmp .gt 7, 3) := by decide +kernel
theorem dX1_plainWords_5 : decode cX1_plainWords 5 = .ok (.iconst 1, 1) := by decide +kernel
theorem dX1_plainWords_6 : decode cX1_plainWords 6 = .ok (.goto 4, 3) := by decide +kernel
theorem dX1_plainWords_9 : decode cX1_plainWords 9 = .ok (.iconst 0, 1) := by decide +kernel
theorem dX1_plainWords_10 : decode cX1_plainWords 10 = .ok (.ireturn, 1) := by decide +kernel
theorem dX1_trebleWords_0 : decode cX1_trebleWords 0 = .ok (.iload_n 0, 1) := by decide +kernel
theorem dX1_trebleWords_1 : decode cX1_trebleWords 1 = .ok (.invokestatic 24, 3) := by decide +kernel
theorem dX1_trebleWords_4 : decode cX1_trebleWords 4 = .ok (.iconst 1, 1) := by decide +kernel
theorem dX1_trebleWords_5 : decode cX1_trebleWords 5 = .ok (.iadd, 1) := by decide +kernel
theorem dX1_trebleWords_6 : decode cX1_trebleWords 6 = .ok (.ireturn, 1) := by decide +kernel
theorem dX1_mostAlike_0 : decode cX1_mostAlike 0 = .ok (.iconst 0, 1) := by decide +kernel
theorem dX1_mostAlike_1 : decode cX1_mostAlike 1 = .ok (.istore 4, 2) := by decide +kernel
theorem dX1_mostAlike_3 : decode cX1_mostAlike 3 = .ok (.iconst 0, 1) := by decide +kernel
theorem dX1_mostAlike_4 : decode cX1_mostAlike 4 = .ok (.istore 5, 2) := by decide +kernel
theorem dX1_mostAlike_6 : decode cX1_mostAlike 6 = .ok (.iload 5, 2) := by decide +kernel
theorem dX1_mostAlike_8 : decode cX1_mostAlike 8 = .ok (.bipush 6, 2) := by decide +kernel
theorem dX1_mostAlike_10 : decode cX1_mostAlike 10 = .ok (.if_icmp .ge 104, 3) := by decide +kernel
theorem dX1_mostAlike_13 : decode cX1_mostAlike 13 = .ok (.iconst 0, 1) := by decide +kernel
theorem dX1_mostAlike_14 : decode cX1_mostAlike 14 = .ok (.istore 6, 2) := by decide +kernel
theorem dX1_mostAlike_16 : decode cX1_mostAlike 16 = .ok (.iconst 0, 1) := by decide +kernel
theorem dX1_mostAlike_17 : decode cX1_mostAlike 17 = .ok (.istore 7, 2) := by decide +kernel
theorem dX1_mostAlike_19 : decode cX1_mostAlike 19 = .ok (.iload 7, 2) := by decide +kernel
theorem dX1_mostAlike_21 : decode cX1_mostAlike 21 = .ok (.bipush 6, 2) := by decide +kernel
theorem dX1_mostAlike_23 : decode cX1_mostAlike 23 = .ok (.if_icmp .ge 76, 3) := by decide +kernel
theorem dX1_mostAlike_26 : decode cX1_mostAlike 26 = .ok (.iload_n 0, 1) := by decide +kernel
theorem dX1_mostAlike_27 : decode cX1_mostAlike 27 = .ok (.iload 5, 2) := by decide +kernel
theorem dX1_mostAlike_29 : decode cX1_mostAlike 29 = .ok (.ishr, 1) := by decide +kernel
theorem dX1_mostAlike_30 : decode cX1_mostAlike 30 = .ok (.iconst 1, 1) := by decide +kernel
theorem dX1_mostAlike_31 : decode cX1_mostAlike 31 = .ok (.iand, 1) := by decide +kernel
theorem dX1_mostAlike_32 : decode cX1_mostAlike 32 = .ok (.iconst 1, 1) := by decide +kernel
theorem dX1_mostAlike_33 : decode cX1_mostAlike 33 = .ok (.if_icmp .ne 17, 3) := by decide +kernel
theorem dX1_mostAlike_36 : decode cX1_mostAlike 36 = .ok (.iload_n 0, 1) := by decide +kernel
theorem dX1_mostAlike_37 : decode cX1_mostAlike 37 = .ok (.iload 7, 2) := by decide +kernel
theorem dX1_mostAlike_39 : decode cX1_mostAlike 39 = .ok (.ishr, 1) := by decide +kernel
theorem dX1_mostAlike_40 : decode cX1_mostAlike 40 = .ok (.iconst 1, 1) := by decide +kernel
theorem dX1_mostAlike_41 : decode cX1_mostAlike 41 = .ok (.iand, 1) := by decide +kernel
theorem dX1_mostAlike_42 : decode cX1_mostAlike 42 = .ok (.iconst 1, 1) := by decide +kernel
theorem dX1_mostAlike_43 : decode cX1_mostAlike 43 = .ok (.if_icmp .ne 7, 3) := by decide +kernel
theorem dX1_mostAlike_46 : decode cX1_mostAlike 46 = .ok (.iconst 1, 1) := by decide +kernel
theorem dX1_mostAlike_47 : decode cX1_mostAlike 47 = .ok (.goto 4, 3) := by decide +kernel
theorem dX1_mostAlike_50 : decode cX1_mostAlike 50 = .ok (.iconst 0, 1) := by decide +kernel
theorem dX1_mostAlike_51 : decode cX1_mostAlike 51 = .ok (.istore 8, 2) := by decide +kernel
theorem dX1_mostAlike_53 : decode cX1_mostAlike 53 = .ok (.iload 8, 2) := by decide +kernel
theorem dX1_mostAlike_55 : decode cX1_mostAlike 55 = .ok (.ifCond .eq 38, 3) := by decide +kernel
theorem dX1_mostAlike_58 : decode cX1_mostAlike 58 = .ok (.iload 5, 2) := by decide +kernel
theorem dX1_mostAlike_60 : decode cX1_mostAlike 60 = .ok (.iload_n 1, 1) := by decide +kernel
theorem dX1_mostAlike_61 : decode cX1_mostAlike 61 = .ok (.iload_n 3, 1) := by decide +kernel
theorem dX1_mostAlike_62 : decode cX1_mostAlike 62 = .ok (.invokestatic 27, 3) := by decide +kernel
theorem dX1_mostAlike_65 : decode cX1_mostAlike 65 = .ok (.iload 7, 2) := by decide +kernel
theorem dX1_mostAlike_67 : decode cX1_mostAlike 67 = .ok (.iload_n 1, 1) := by decide +kernel
theorem dX1_mostAlike_68 : decode cX1_mostAlike 68 = .ok (.iload_n 3, 1) := by decide +kernel
theorem dX1_mostAlike_69 : decode cX1_mostAlike 69 = .ok (.invokestatic 27, 3) := by decide +kernel
theorem dX1_mostAlike_72 : decode cX1_mostAlike 72 = .ok (.if_icmp .ne 21, 3) := by decide +kernel
theorem dX1_mostAlike_75 : decode cX1_mostAlike 75 = .ok (.iload 5, 2) := by decide +kernel
theorem dX1_mostAlike_77 : decode cX1_mostAlike 77 = .ok (.iload_n 2, 1) := by decide +kernel
theorem dX1_mostAlike_78 : decode cX1_mostAlike 78 = .ok (.invokestatic 31, 3) := by decide +kernel
theorem dX1_mostAlike_81 : decode cX1_mostAlike 81 = .ok (.iload 7, 2) := by decide +kernel
theorem dX1_mostAlike_83 : decode cX1_mostAlike 83 = .ok (.iload_n 2, 1) := by decide +kernel
theorem dX1_mostAlike_84 : decode cX1_mostAlike 84 = .ok (.invokestatic 31, 3) := by decide +kernel
theorem dX1_mostAlike_87 : decode cX1_mostAlike 87 = .ok (.if_icmp .ne 6, 3) := by decide +kernel
theorem dX1_mostAlike_90 : decode cX1_mostAlike 90 = .ok (.iinc 6 1, 3) := by decide +kernel
theorem dX1_mostAlike_93 : decode cX1_mostAlike 93 = .ok (.iinc 7 1, 3) := by decide +kernel
theorem dX1_mostAlike_96 : decode cX1_mostAlike 96 = .ok (.goto (-77), 3) := by decide +kernel
theorem dX1_mostAlike_99 : decode cX1_mostAlike 99 = .ok (.iload 4, 2) := by decide +kernel
theorem dX1_mostAlike_101 : decode cX1_mostAlike 101 = .ok (.iload 6, 2) := by decide +kernel
theorem dX1_mostAlike_103 : decode cX1_mostAlike 103 = .ok (.invokestatic 9, 3) := by decide +kernel
theorem dX1_mostAlike_106 : decode cX1_mostAlike 106 = .ok (.istore 4, 2) := by decide +kernel
theorem dX1_mostAlike_108 : decode cX1_mostAlike 108 = .ok (.iinc 5 1, 3) := by decide +kernel
theorem dX1_mostAlike_111 : decode cX1_mostAlike 111 = .ok (.goto (-105), 3) := by decide +kernel
theorem dX1_mostAlike_114 : decode cX1_mostAlike 114 = .ok (.iload 4, 2) := by decide +kernel
theorem dX1_mostAlike_116 : decode cX1_mostAlike 116 = .ok (.ireturn, 1) := by decide +kernel
theorem dX2_init_0 : decode cX2_init 0 = .ok (.aload_n 0, 1) := by decide +kernel
theorem dX2_init_1 : decode cX2_init 1 = .ok (.invokespecial 3, 3) := by decide +kernel
theorem dX2_init_4 : decode cX2_init 4 = .ok (.aload_n 0, 1) := by decide +kernel
theorem dX2_init_5 : decode cX2_init 5 = .ok (.sipush 150, 3) := by decide +kernel
theorem dX2_init_8 : decode cX2_init 8 = .ok (.newarray .byte, 2) := by decide +kernel
theorem dX2_init_10 : decode cX2_init 10 = .ok (.putfield 9, 3) := by decide +kernel
theorem dX2_init_13 : decode cX2_init 13 = .ok (.aload_n 0, 1) := by decide +kernel
theorem dX2_init_14 : decode cX2_init 14 = .ok (.iconst 0, 1) := by decide +kernel
theorem dX2_init_15 : decode cX2_init 15 = .ok (.putfield 15, 3) := by decide +kernel
theorem dX2_init_18 : decode cX2_init 18 = .ok (.aload_n 0, 1) := by decide +kernel
theorem dX2_init_19 : decode cX2_init 19 = .ok (.iconst 0, 1) := by decide +kernel
theorem dX2_init_20 : decode cX2_init 20 = .ok (.putfield 19, 3) := by decide +kernel
theorem dX2_init_23 : decode cX2_init 23 = .ok (.aload_n 0, 1) := by decide +kernel
theorem dX2_init_24 : decode cX2_init 24 = .ok (.iconst 0, 1) := by decide +kernel
theorem dX2_init_25 : decode cX2_init 25 = .ok (.putfield 22, 3) := by decide +kernel
theorem dX2_init_28 : decode cX2_init 28 = .ok (.aload_n 0, 1) := by decide +kernel
theorem dX2_init_29 : decode cX2_init 29 = .ok (.iconst 0, 1) := by decide +kernel
theorem dX2_init_30 : decode cX2_init 30 = .ok (.putfield 25, 3) := by decide +kernel
theorem dX2_init_33 : decode cX2_init 33 = .ok (.aload_n 0, 1) := by decide +kernel
theorem dX2_init_34 : decode cX2_init 34 = .ok (.iconst 0, 1) := by decide +kernel
theorem dX2_init_35 : decode cX2_init 35 = .ok (.putfield 28, 3) := by decide +kernel
theorem dX2_init_38 : decode cX2_init 38 = .ok (.return_, 1) := by decide +kernel
theorem dX2_append_0 : decode cX2_append 0 = .ok (.aload_n 0, 1) := by decide +kernel
theorem dX2_append_1 : decode cX2_append 1 = .ok (.getfield 9, 3) := by decide +kernel
theorem dX2_append_4 : decode cX2_append 4 = .ok (.aload_n 0, 1) := by decide +kernel
theorem dX2_append_5 : decode cX2_append 5 = .ok (.getfield 15, 3) := by decide +kernel
theorem dX2_append_8 : decode cX2_append 8 = .ok (.iload_n 1, 1) := by decide +kernel
theorem dX2_append_9 : decode cX2_append 9 = .ok (.i2b, 1) := by decide +kernel
theorem dX2_append_10 : decode cX2_append 10 = .ok (.bastore, 1) := by decide +kernel
theorem dX2_append_11 : decode cX2_append 11 = .ok (.aload_n 0, 1) := by decide +kernel
theorem dX2_append_12 : decode cX2_append 12 = .ok (.dup, 1) := by decide +kernel
theorem dX2_append_13 : decode cX2_append 13 = .ok (.getfield 15, 3) := by decide +kernel
theorem dX2_append_16 : decode cX2_append 16 = .ok (.iconst 1, 1) := by decide +kernel
theorem dX2_append_17 : decode cX2_append 17 = .ok (.iadd, 1) := by decide +kernel
theorem dX2_append_18 : decode cX2_append 18 = .ok (.putfield 15, 3) := by decide +kernel
theorem dX2_append_21 : decode cX2_append 21 = .ok (.aload_n 0, 1) := by decide +kernel
theorem dX2_append_22 : decode cX2_append 22 = .ok (.getfield 15, 3) := by decide +kernel
theorem dX2_append_25 : decode cX2_append 25 = .ok (.ireturn, 1) := by decide +kernel
theorem dX2_readInto_0 : decode cX2_readInto 0 = .ok (.aload_n 1, 1) := by decide +kernel
theorem dX2_readInto_1 : decode cX2_readInto 1 = .ok (.invokevirtual 31, 3) := by decide +kernel
theorem dX2_readInto_4 : decode cX2_readInto 4 = .ok (.aload_n 0, 1) := by decide +kernel
theorem dX2_readInto_5 : decode cX2_readInto 5 = .ok (.iconst 0, 1) := by decide +kernel
theorem dX2_readInto_6 : decode cX2_readInto 6 = .ok (.putfield 25, 3) := by decide +kernel
theorem dX2_readInto_9 : decode cX2_readInto 9 = .ok (.iconst 0, 1) := by decide +kernel
theorem dX2_readInto_10 : decode cX2_readInto 10 = .ok (.istore_n 2, 1) := by decide +kernel
theorem dX2_readInto_11 : decode cX2_readInto 11 = .ok (.iconst 0, 1) := by decide +kernel
theorem dX2_readInto_12 : decode cX2_readInto 12 = .ok (.istore_n 3, 1) := by decide +kernel
theorem dX2_readInto_13 : decode cX2_readInto 13 = .ok (.iload_n 3, 1) := by decide +kernel
theorem dX2_readInto_14 : decode cX2_readInto 14 = .ok (.sipush 150, 3) := by decide +kernel
theorem dX2_readInto_17 : decode cX2_readInto 17 = .ok (.if_icmp .gt 54, 3) := by decide +kernel
theorem dX2_readInto_20 : decode cX2_readInto 20 = .ok (.aload_n 0, 1) := by decide +kernel
theorem dX2_readInto_21 : decode cX2_readInto 21 = .ok (.invokevirtual 36, 3) := by decide +kernel
theorem dX2_readInto_24 : decode cX2_readInto 24 = .ok (.aload_n 0, 1) := by decide +kernel
theorem dX2_readInto_25 : decode cX2_readInto 25 = .ok (.getfield 19, 3) := by decide +kernel
theorem dX2_readInto_28 : decode cX2_readInto 28 = .ok (.ifCond .ne 9, 3) := by decide +kernel
theorem dX2_readInto_31 : decode cX2_readInto 31 = .ok (.iload_n 2, 1) := by decide +kernel
theorem dX2_readInto_32 : decode cX2_readInto 32 = .ok (.ifCond .le 5, 3) := by decide +kernel
theorem dX2_readInto_35 : decode cX2_readInto 35 = .ok (.iload_n 2, 1) := by decide +kernel
theorem dX2_readInto_36 : decode cX2_readInto 36 = .ok (.ireturn, 1) := by decide +kernel
theorem dX2_readInto_37 : decode cX2_readInto 37 = .ok (.iload_n 2, 1) := by decide +kernel
theorem dX2_readInto_38 : decode cX2_readInto 38 = .ok (.ifCond .ne 13, 3) := by decide +kernel
theorem dX2_readInto_41 : decode cX2_readInto 41 = .ok (.aload_n 0, 1) := by decide +kernel
theorem dX2_readInto_42 : decode cX2_readInto 42 = .ok (.invokevirtual 39, 3) := by decide +kernel
theorem dX2_readInto_45 : decode cX2_readInto 45 = .ok (.ifCond .eq 26, 3) := by decide +kernel
theorem dX2_readInto_48 : decode cX2_readInto 48 = .ok (.goto 14, 3) := by decide +kernel
theorem dX2_readInto_51 : decode cX2_readInto 51 = .ok (.aload_n 0, 1) := by decide +kernel
theorem dX2_readInto_52 : decode cX2_readInto 52 = .ok (.aload_n 1, 1) := by decide +kernel
theorem dX2_readInto_53 : decode cX2_readInto 53 = .ok (.invokevirtual 43, 3) := by decide +kernel
theorem dX2_readInto_56 : decode cX2_readInto 56 = .ok (.ifCond .ne 6, 3) := by decide +kernel
theorem dX2_readInto_59 : decode cX2_readInto 59 = .ok (.goto 12, 3) := by decide +kernel
theorem dX2_readInto_62 : decode cX2_readInto 62 = .ok (.iinc 2 1, 3) := by decide +kernel
theorem dX2_readInto_65 : decode cX2_readInto 65 = .ok (.iinc 3 1, 3) := by decide +kernel
theorem dX2_readInto_68 : decode cX2_readInto 68 = .ok (.goto (-55), 3) := by decide +kernel
theorem dX2_readInto_71 : decode cX2_readInto 71 = .ok (.bipush (-10), 2) := by decide +kernel
theorem dX2_readInto_73 : decode cX2_readInto 73 = .ok (.aload_n 0, 1) := by decide +kernel
theorem dX2_readInto_74 : decode cX2_readInto 74 = .ok (.getfield 22, 3) := by decide +kernel
theorem dX2_readInto_77 : decode cX2_readInto 77 = .ok (.isub, 1) := by decide +kernel
theorem dX2_readInto_78 : decode cX2_readInto 78 = .ok (.ireturn, 1) := by decide +kernel
theorem dX2_isCounter_0 : decode cX2_isCounter 0 = .ok (.aload_n 0, 1) := by decide +kernel
theorem dX2_isCounter_1 : decode cX2_isCounter 1 = .ok (.ldc 47, 2) := by decide +kernel
theorem dX2_isCounter_3 : decode cX2_isCounter 3 = .ok (.invokevirtual 49, 3) := by decide +kernel
theorem dX2_isCounter_6 : decode cX2_isCounter 6 = .ok (.ifCond .eq 14, 3) := by decide +kernel
theorem dX2_isCounter_9 : decode cX2_isCounter 9 = .ok (.aload_n 0, 1) := by decide +kernel
theorem dX2_isCounter_10 : decode cX2_isCounter 10 = .ok (.invokevirtual 53, 3) := by decide +kernel
theorem dX2_isCounter_13 : decode cX2_isCounter 13 = .ok (.ifCond .eq 7, 3) := by decide +kernel
theorem dX2_isCounter_16 : decode cX2_isCounter 16 = .ok (.iconst 1, 1) := by decide +kernel
theorem dX2_isCounter_17 : decode cX2_isCounter 17 = .ok (.goto 4, 3) := by decide +kernel
theorem dX2_isCounter_20 : decode cX2_isCounter 20 = .ok (.iconst 0, 1) := by decide +kernel
theorem dX2_isCounter_21 : decode cX2_isCounter 21 = .ok (.ireturn, 1) := by decide +kernel
theorem dX2_isItem_0 : decode cX2_isItem 0 = .ok (.aload_n 0, 1) := by decide +kernel
theorem dX2_isItem_1 : decode cX2_isItem 1 = .ok (.ldc 56, 2) := by decide +kernel
theorem dX2_isItem_3 : decode cX2_isItem 3 = .ok (.invokevirtual 49, 3) := by decide +kernel
theorem dX2_isItem_6 : decode cX2_isItem 6 = .ok (.ifCond .eq 9, 3) := by decide +kernel
theorem dX2_isItem_9 : decode cX2_isItem 9 = .ok (.aload_n 0, 1) := by decide +kernel
theorem dX2_isItem_10 : decode cX2_isItem 10 = .ok (.aload_n 1, 1) := by decide +kernel
theorem dX2_isItem_11 : decode cX2_isItem 11 = .ok (.invokevirtual 58, 3) := by decide +kernel
theorem dX2_isItem_14 : decode cX2_isItem 14 = .ok (.ireturn, 1) := by decide +kernel
theorem dX2_isItem_15 : decode cX2_isItem 15 = .ok (.aload_n 0, 1) := by decide +kernel
theorem dX2_isItem_16 : decode cX2_isItem 16 = .ok (.ldc 61, 2) := by decide +kernel
theorem dX2_isItem_18 : decode cX2_isItem 18 = .ok (.invokevirtual 49, 3) := by decide +kernel
theorem dX2_isItem_21 : decode cX2_isItem 21 = .ok (.ifCond .eq 9, 3) := by decide +kernel
theorem dX2_isItem_24 : decode cX2_isItem 24 = .ok (.aload_n 0, 1) := by decide +kernel
theorem dX2_isItem_25 : decode cX2_isItem 25 = .ok (.aload_n 1, 1) := by decide +kernel
theorem dX2_isItem_26 : decode cX2_isItem 26 = .ok (.invokevirtual 63, 3) := by decide +kernel
theorem dX2_isItem_29 : decode cX2_isItem 29 = .ok (.ireturn, 1) := by decide +kernel
theorem dX2_isItem_30 : decode cX2_isItem 30 = .ok (.aload_n 0, 1) := by decide +kernel
theorem dX2_isItem_31 : decode cX2_isItem 31 = .ok (.ldc 66, 2) := by decide +kernel
theorem dX2_isItem_33 : decode cX2_isItem 33 = .ok (.invokevirtual 49, 3) := by decide +kernel
theorem dX2_isItem_36 : decode cX2_isItem 36 = .ok (.ifCond .eq 15, 3) := by decide +kernel
theorem dX2_isItem_39 : decode cX2_isItem 39 = .ok (.aload_n 0, 1) := by decide +kernel
theorem dX2_isItem_40 : decode cX2_isItem 40 = .ok (.aload_n 1, 1) := by decide +kernel
theorem dX2_isItem_41 : decode cX2_isItem 41 = .ok (.invokevirtual 68, 3) := by decide +kernel
theorem dX2_isItem_44 : decode cX2_isItem 44 = .ok (.ifCond .eq 7, 3) := by decide +kernel
theorem dX2_isItem_47 : decode cX2_isItem 47 = .ok (.iconst 1, 1) := by decide +kernel
theorem dX2_isItem_48 : decode cX2_isItem 48 = .ok (.goto 4, 3) := by decide +kernel
theorem dX2_isItem_51 : decode cX2_isItem 51 = .ok (.iconst 0, 1) := by decide +kernel
theorem dX2_isItem_52 : decode cX2_isItem 52 = .ok (.ireturn, 1) := by decide +kernel
theorem dX2_isOne_0 : decode cX2_isOne 0 = .ok (.aload_n 1, 1) := by decide +kernel
theorem dX2_isOne_1 : decode cX2_isOne 1 = .ok (.getfield 71, 3) := by decide +kernel
theorem dX2_isOne_4 : decode cX2_isOne 4 = .ok (.bipush 6, 2) := by decide +kernel
theorem dX2_isOne_6 : decode cX2_isOne 6 = .ok (.if_icmp .ge 12, 3) := by decide +kernel
theorem dX2_isOne_9 : decode cX2_isOne 9 = .ok (.aload_n 0, 1) := by decide +kernel
theorem dX2_isOne_10 : decode cX2_isOne 10 = .ok (.bipush 6, 2) := by decide +kernel
theorem dX2_isOne_12 : decode cX2_isOne 12 = .ok (.invokevirtual 76, 3) := by decide +kernel
theorem dX2_isOne_15 : decode cX2_isOne 15 = .ok (.ifCond .ne 5, 3) := by decide +kernel
theorem dX2_isOne_18 : decode cX2_isOne 18 = .ok (.iconst 0, 1) := by decide +kernel
theorem dX2_isOne_19 : decode cX2_isOne 19 = .ok (.ireturn, 1) := by decide +kernel
theorem dX2_isOne_20 : decode cX2_isOne 20 = .ok (.aload_n 0, 1) := by decide +kernel
theorem dX2_isOne_21 : decode cX2_isOne 21 = .ok (.getfield 28, 3) := by decide +kernel
theorem dX2_isOne_24 : decode cX2_isOne 24 = .ok (.istore_n 2, 1) := by decide +kernel
theorem dX2_isOne_25 : decode cX2_isOne 25 = .ok (.aload_n 0, 1) := by decide +kernel
theorem dX2_isOne_26 : decode cX2_isOne 26 = .ok (.bipush 10, 2) := by decide +kernel
theorem dX2_isOne_28 : decode cX2_isOne 28 = .ok (.invokevirtual 76, 3) := by decide +kernel
theorem dX2_isOne_31 : decode cX2_isOne 31 = .ok (.ifCond .ne 5, 3) := by decide +kernel
theorem dX2_isOne_34 : decode cX2_isOne 34 = .ok (.iconst 0, 1) := by decide +kernel
theorem dX2_isOne_35 : decode cX2_isOne 35 = .ok (.ireturn, 1) := by decide +kernel
theorem dX2_isOne_36 : decode cX2_isOne 36 = .ok (.aload_n 0, 1) := by decide +kernel
theorem dX2_isOne_37 : decode cX2_isOne 37 = .ok (.getfield 28, 3) := by decide +kernel
theorem dX2_isOne_40 : decode cX2_isOne 40 = .ok (.istore_n 3, 1) := by decide +kernel
theorem dX2_isOne_41 : decode cX2_isOne 41 = .ok (.aload_n 0, 1) := by decide +kernel
theorem dX2_isOne_42 : decode cX2_isOne 42 = .ok (.bipush 10, 2) := by decide +kernel
theorem dX2_isOne_44 : decode cX2_isOne 44 = .ok (.invokevirtual 76, 3) := by decide +kernel
theorem dX2_isOne_47 : decode cX2_isOne 47 = .ok (.ifCond .ne 5, 3) := by decide +kernel
theorem dX2_isOne_50 : decode cX2_isOne 50 = .ok (.iconst 0, 1) := by decide +kernel
theorem dX2_isOne_51 : decode cX2_isOne 51 = .ok (.ireturn, 1) := by decide +kernel
theorem dX2_isOne_52 : decode cX2_isOne 52 = .ok (.aload_n 1, 1) := by decide +kernel
theorem dX2_isOne_53 : decode cX2_isOne 53 = .ok (.iload_n 2, 1) := by decide +kernel
theorem dX2_isOne_54 : decode cX2_isOne 54 = .ok (.iload_n 3, 1) := by decide +kernel
theorem dX2_isOne_55 : decode cX2_isOne 55 = .ok (.aload_n 0, 1) := by decide +kernel
theorem dX2_isOne_56 : decode cX2_isOne 56 = .ok (.getfield 28, 3) := by decide +kernel
theorem dX2_isOne_59 : decode cX2_isOne 59 = .ok (.invokevirtual 80, 3) := by decide +kernel
theorem dX2_isOne_62 : decode cX2_isOne 62 = .ok (.pop, 1) := by decide +kernel
theorem dX2_isOne_63 : decode cX2_isOne 63 = .ok (.aload_n 0, 1) := by decide +kernel
theorem dX2_isOne_64 : decode cX2_isOne 64 = .ok (.invokevirtual 53, 3) := by decide +kernel
theorem dX2_isOne_67 : decode cX2_isOne 67 = .ok (.ireturn, 1) := by decide +kernel
theorem dX2_isLeave_0 : decode cX2_isLeave 0 = .ok (.aload_n 0, 1) := by decide +kernel
theorem dX2_isLeave_1 : decode cX2_isLeave 1 = .ok (.aload_n 1, 1) := by decide +kernel
theorem dX2_isLeave_2 : decode cX2_isLeave 2 = .ok (.getfield 71, 3) := by decide +kernel
theorem dX2_isLeave_5 : decode cX2_isLeave 5 = .ok (.invokevirtual 76, 3) := by decide +kernel
theorem dX2_isLeave_8 : decode cX2_isLeave 8 = .ok (.ifCond .ne 5, 3) := by decide +kernel
theorem dX2_isLeave_11 : decode cX2_isLeave 11 = .ok (.iconst 0, 1) := by decide +kernel
theorem dX2_isLeave_12 : decode cX2_isLeave 12 = .ok (.ireturn, 1) := by decide +kernel
theorem dX2_isLeave_13 : decode cX2_isLeave 13 = .ok (.aload_n 1, 1) := by decide +kernel
theorem dX2_isLeave_14 : decode cX2_isLeave 14 = .ok (.aload_n 0, 1) := by decide +kernel
theorem dX2_isLeave_15 : decode cX2_isLeave 15 = .ok (.getfield 28, 3) := by decide +kernel
theorem dX2_isLeave_18 : decode cX2_isLeave 18 = .ok (.invokevirtual 84, 3) := by decide +kernel
theorem dX2_isLeave_21 : decode cX2_isLeave 21 = .ok (.istore_n 2, 1) := by decide +kernel
theorem dX2_isLeave_22 : decode cX2_isLeave 22 = .ok (.iload_n 2, 1) := by decide +kernel
theorem dX2_isLeave_23 : decode cX2_isLeave 23 = .ok (.iconst (-1), 1) := by decide +kernel
theorem dX2_isLeave_24 : decode cX2_isLeave 24 = .ok (.if_icmp .ne 5, 3) := by decide +kernel
theorem dX2_isLeave_27 : decode cX2_isLeave 27 = .ok (.iconst 0, 1) := by decide +kernel
theorem dX2_isLeave_28 : decode cX2_isLeave 28 = .ok (.ireturn, 1) := by decide +kernel
theorem dX2_isLeave_29 : decode cX2_isLeave 29 = .ok (.aload_n 1, 1) := by decide +kernel
theorem dX2_isLeave_30 : decode cX2_isLeave 30 = .ok (.iload_n 2, 1) := by decide +kernel
theorem dX2_isLeave_31 : decode cX2_isLeave 31 = .ok (.invokevirtual 88, 3) := by decide +kernel
theorem dX2_isLeave_34 : decode cX2_isLeave 34 = .ok (.aload_n 0, 1) := by decide +kernel
theorem dX2_isLeave_35 : decode cX2_isLeave 35 = .ok (.invokevirtual 53, 3) := by decide +kernel
theorem dX2_isLeave_38 : decode cX2_isLeave 38 = .ok (.ireturn, 1) := by decide +kernel
theorem dX2_isLend_0 : decode cX2_isLend 0 = .ok (.aload_n 0, 1) := by decide +kernel
theorem dX2_isLend_1 : decode cX2_isLend 1 = .ok (.aload_n 1, 1) := by decide +kernel
theorem dX2_isLend_2 : decode cX2_isLend 2 = .ok (.getfield 71, 3) := by decide +kernel
theorem dX2_isLend_5 : decode cX2_isLend 5 = .ok (.invokevirtual 76, 3) := by decide +kernel
theorem dX2_isLend_8 : decode cX2_isLend 8 = .ok (.ifCond .eq 16, 3) := by decide +kernel
