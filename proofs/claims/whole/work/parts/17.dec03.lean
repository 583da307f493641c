theorem dX4_voiceOf_31 : decode cX4_voiceOf 31 = .ok (.goto (-27), 3) := by decide +kernel
theorem dX4_voiceOf_34 : decode cX4_voiceOf 34 = .ok (.iload_n 2, 1) := by decide +kernel
theorem dX4_voiceOf_35 : decode cX4_voiceOf 35 = .ok (.ireturn, 1) := by decide +kernel
theorem dX4_fitNow_0 : decode cX4_fitNow 0 = .ok (.aload_n 0, 1) := by decide +kernel
theorem dX4_fitNow_1 : decode cX4_fitNow 1 = .ok (.iload_n 1, 1) := by decide +kernel
theorem dX4_fitNow_2 : decode cX4_fitNow 2 = .ok (.invokevirtual 183, 3) := by decide +kernel
theorem dX4_fitNow_5 : decode cX4_fitNow 5 = .ok (.istore_n 2, 1) := by decide +kernel
theorem dX4_fitNow_6 : decode cX4_fitNow 6 = .ok (.iload_n 2, 1) := by decide +kernel
theorem dX4_fitNow_7 : decode cX4_fitNow 7 = .ok (.iconst (-1), 1) := by decide +kernel
theorem dX4_fitNow_8 : decode cX4_fitNow 8 = .ok (.if_icmp .ne 7, 3) := by decide +kernel
theorem dX4_fitNow_11 : decode cX4_fitNow 11 = .ok (.iconst 0, 1) := by decide +kernel
theorem dX4_fitNow_12 : decode cX4_fitNow 12 = .ok (.goto 9, 3) := by decide +kernel
theorem dX4_fitNow_15 : decode cX4_fitNow 15 = .ok (.aload_n 0, 1) := by decide +kernel
theorem dX4_fitNow_16 : decode cX4_fitNow 16 = .ok (.iload_n 1, 1) := by decide +kernel
theorem dX4_fitNow_17 : decode cX4_fitNow 17 = .ok (.iload_n 2, 1) := by decide +kernel
theorem dX4_fitNow_18 : decode cX4_fitNow 18 = .ok (.invokevirtual 186, 3) := by decide +kernel
theorem dX4_fitNow_21 : decode cX4_fitNow 21 = .ok (.ireturn, 1) := by decide +kernel
theorem dX4_lays_0 : decode cX4_lays 0 = .ok (.aload_n 1, 1) := by decide +kernel
theorem dX4_lays_1 : decode cX4_lays 1 = .ok (.iload_n 2, 1) := by decide +kernel
theorem dX4_lays_2 : decode cX4_lays 2 = .ok (.aload_n 0, 1) := by decide +kernel
theorem dX4_lays_3 : decode cX4_lays 3 = .ok (.getfield 84, 3) := by decide +kernel
theorem dX4_lays_6 : decode cX4_lays 6 = .ok (.iastore, 1) := by decide +kernel
theorem dX4_lays_7 : decode cX4_lays 7 = .ok (.iconst 0, 1) := by decide +kernel
theorem dX4_lays_8 : decode cX4_lays 8 = .ok (.istore_n 3, 1) := by decide +kernel
theorem dX4_lays_9 : decode cX4_lays 9 = .ok (.iload_n 3, 1) := by decide +kernel
theorem dX4_lays_10 : decode cX4_lays 10 = .ok (.bipush 6, 2) := by decide +kernel
theorem dX4_lays_12 : decode cX4_lays 12 = .ok (.if_icmp .ge 50, 3) := by decide +kernel
theorem dX4_lays_15 : decode cX4_lays 15 = .ok (.aload_n 1, 1) := by decide +kernel
theorem dX4_lays_16 : decode cX4_lays 16 = .ok (.iload_n 2, 1) := by decide +kernel
theorem dX4_lays_17 : decode cX4_lays 17 = .ok (.iconst 1, 1) := by decide +kernel
theorem dX4_lays_18 : decode cX4_lays 18 = .ok (.iadd, 1) := by decide +kernel
theorem dX4_lays_19 : decode cX4_lays 19 = .ok (.iload_n 3, 1) := by decide +kernel
theorem dX4_lays_20 : decode cX4_lays 20 = .ok (.iadd, 1) := by decide +kernel
theorem dX4_lays_21 : decode cX4_lays 21 = .ok (.aload_n 0, 1) := by decide +kernel
theorem dX4_lays_22 : decode cX4_lays 22 = .ok (.getfield 22, 3) := by decide +kernel
theorem dX4_lays_25 : decode cX4_lays 25 = .ok (.iload_n 3, 1) := by decide +kernel
theorem dX4_lays_26 : decode cX4_lays 26 = .ok (.iaload, 1) := by decide +kernel
theorem dX4_lays_27 : decode cX4_lays 27 = .ok (.iastore, 1) := by decide +kernel
theorem dX4_lays_28 : decode cX4_lays 28 = .ok (.aload_n 1, 1) := by decide +kernel
theorem dX4_lays_29 : decode cX4_lays 29 = .ok (.iload_n 2, 1) := by decide +kernel
theorem dX4_lays_30 : decode cX4_lays 30 = .ok (.bipush 7, 2) := by decide +kernel
theorem dX4_lays_32 : decode cX4_lays 32 = .ok (.iadd, 1) := by decide +kernel
theorem dX4_lays_33 : decode cX4_lays 33 = .ok (.iload_n 3, 1) := by decide +kernel
theorem dX4_lays_34 : decode cX4_lays 34 = .ok (.iadd, 1) := by decide +kernel
theorem dX4_lays_35 : decode cX4_lays 35 = .ok (.aload_n 0, 1) := by decide +kernel
theorem dX4_lays_36 : decode cX4_lays 36 = .ok (.getfield 25, 3) := by decide +kernel
theorem dX4_lays_39 : decode cX4_lays 39 = .ok (.iload_n 3, 1) := by decide +kernel
theorem dX4_lays_40 : decode cX4_lays 40 = .ok (.iaload, 1) := by decide +kernel
theorem dX4_lays_41 : decode cX4_lays 41 = .ok (.iastore, 1) := by decide +kernel
theorem dX4_lays_42 : decode cX4_lays 42 = .ok (.aload_n 1, 1) := by decide +kernel
theorem dX4_lays_43 : decode cX4_lays 43 = .ok (.iload_n 2, 1) := by decide +kernel
theorem dX4_lays_44 : decode cX4_lays 44 = .ok (.bipush 13, 2) := by decide +kernel
theorem dX4_lays_46 : decode cX4_lays 46 = .ok (.iadd, 1) := by decide +kernel
theorem dX4_lays_47 : decode cX4_lays 47 = .ok (.iload_n 3, 1) := by decide +kernel
theorem dX4_lays_48 : decode cX4_lays 48 = .ok (.iadd, 1) := by decide +kernel
theorem dX4_lays_49 : decode cX4_lays 49 = .ok (.aload_n 0, 1) := by decide +kernel
theorem dX4_lays_50 : decode cX4_lays 50 = .ok (.getfield 28, 3) := by decide +kernel
theorem dX4_lays_53 : decode cX4_lays 53 = .ok (.iload_n 3, 1) := by decide +kernel
theorem dX4_lays_54 : decode cX4_lays 54 = .ok (.iaload, 1) := by decide +kernel
theorem dX4_lays_55 : decode cX4_lays 55 = .ok (.iastore, 1) := by decide +kernel
theorem dX4_lays_56 : decode cX4_lays 56 = .ok (.iinc 3 1, 3) := by decide +kernel
theorem dX4_lays_59 : decode cX4_lays 59 = .ok (.goto (-50), 3) := by decide +kernel
theorem dX4_lays_62 : decode cX4_lays 62 = .ok (.return_, 1) := by decide +kernel
theorem dX4_takes_0 : decode cX4_takes 0 = .ok (.aload_n 0, 1) := by decide +kernel
theorem dX4_takes_1 : decode cX4_takes 1 = .ok (.aload_n 1, 1) := by decide +kernel
theorem dX4_takes_2 : decode cX4_takes 2 = .ok (.iload_n 2, 1) := by decide +kernel
theorem dX4_takes_3 : decode cX4_takes 3 = .ok (.iaload, 1) := by decide +kernel
theorem dX4_takes_4 : decode cX4_takes 4 = .ok (.putfield 84, 3) := by decide +kernel
theorem dX4_takes_7 : decode cX4_takes 7 = .ok (.iconst 0, 1) := by decide +kernel
theorem dX4_takes_8 : decode cX4_takes 8 = .ok (.istore_n 3, 1) := by decide +kernel
theorem dX4_takes_9 : decode cX4_takes 9 = .ok (.iload_n 3, 1) := by decide +kernel
theorem dX4_takes_10 : decode cX4_takes 10 = .ok (.bipush 6, 2) := by decide +kernel
theorem dX4_takes_12 : decode cX4_takes 12 = .ok (.if_icmp .ge 50, 3) := by decide +kernel
theorem dX4_takes_15 : decode cX4_takes 15 = .ok (.aload_n 0, 1) := by decide +kernel
theorem dX4_takes_16 : decode cX4_takes 16 = .ok (.getfield 22, 3) := by decide +kernel
theorem dX4_takes_19 : decode cX4_takes 19 = .ok (.iload_n 3, 1) := by decide +kernel
theorem dX4_takes_20 : decode cX4_takes 20 = .ok (.aload_n 1, 1) := by decide +kernel
theorem dX4_takes_21 : decode cX4_takes 21 = .ok (.iload_n 2, 1) := by decide +kernel
theorem dX4_takes_22 : decode cX4_takes 22 = .ok (.iconst 1, 1) := by decide +kernel
theorem dX4_takes_23 : decode cX4_takes 23 = .ok (.iadd, 1) := by decide +kernel
theorem dX4_takes_24 : decode cX4_takes 24 = .ok (.iload_n 3, 1) := by decide +kernel
theorem dX4_takes_25 : decode cX4_takes 25 = .ok (.iadd, 1) := by decide +kernel
theorem dX4_takes_26 : decode cX4_takes 26 = .ok (.iaload, 1) := by decide +kernel
theorem dX4_takes_27 : decode cX4_takes 27 = .ok (.iastore, 1) := by decide +kernel
theorem dX4_takes_28 : decode cX4_takes 28 = .ok (.aload_n 0, 1) := by decide +kernel
theorem dX4_takes_29 : decode cX4_takes 29 = .ok (.getfield 25, 3) := by decide +kernel
theorem dX4_takes_32 : decode cX4_takes 32 = .ok (.iload_n 3, 1) := by decide +kernel
theorem dX4_takes_33 : decode cX4_takes 33 = .ok (.aload_n 1, 1) := by decide +kernel
theorem dX4_takes_34 : decode cX4_takes 34 = .ok (.iload_n 2, 1) := by decide +kernel
theorem dX4_takes_35 : decode cX4_takes 35 = .ok (.bipush 7, 2) := by decide +kernel
theorem dX4_takes_37 : decode cX4_takes 37 = .ok (.iadd, 1) := by decide +kernel
theorem dX4_takes_38 : decode cX4_takes 38 = .ok (.iload_n 3, 1) := by decide +kernel
theorem dX4_takes_39 : decode cX4_takes 39 = .ok (.iadd, 1) := by decide +kernel
theorem dX4_takes_40 : decode cX4_takes 40 = .ok (.iaload, 1) := by decide +kernel
theorem dX4_takes_41 : decode cX4_takes 41 = .ok (.iastore, 1) := by decide +kernel
theorem dX4_takes_42 : decode cX4_takes 42 = .ok (.aload_n 0, 1) := by decide +kernel
theorem dX4_takes_43 : decode cX4_takes 43 = .ok (.getfield 28, 3) := by decide +kernel
theorem dX4_takes_46 : decode cX4_takes 46 = .ok (.iload_n 3, 1) := by decide +kernel
theorem dX4_takes_47 : decode cX4_takes 47 = .ok (.aload_n 1, 1) := by decide +kernel
theorem dX4_takes_48 : decode cX4_takes 48 = .ok (.iload_n 2, 1) := by decide +kernel
theorem dX4_takes_49 : decode cX4_takes 49 = .ok (.bipush 13, 2) := by decide +kernel
theorem dX4_takes_51 : decode cX4_takes 51 = .ok (.iadd, 1) := by decide +kernel
theorem dX4_takes_52 : decode cX4_takes 52 = .ok (.iload_n 3, 1) := by decide +kernel
theorem dX4_takes_53 : decode cX4_takes 53 = .ok (.iadd, 1) := by decide +kernel
theorem dX4_takes_54 : decode cX4_takes 54 = .ok (.iaload, 1) := by decide +kernel
theorem dX4_takes_55 : decode cX4_takes 55 = .ok (.iastore, 1) := by decide +kernel
theorem dX4_takes_56 : decode cX4_takes 56 = .ok (.iinc 3 1, 3) := by decide +kernel
theorem dX4_takes_59 : decode cX4_takes 59 = .ok (.goto (-50), 3) := by decide +kernel
theorem dX4_takes_62 : decode cX4_takes 62 = .ok (.return_, 1) := by decide +kernel
theorem dX4_notes_0 : decode cX4_notes 0 = .ok (.aload_n 0, 1) := by decide +kernel
theorem dX4_notes_1 : decode cX4_notes 1 = .ok (.getfield 90, 3) := by decide +kernel
theorem dX4_notes_4 : decode cX4_notes 4 = .ok (.bipush 8, 2) := by decide +kernel
theorem dX4_notes_6 : decode cX4_notes 6 = .ok (.if_icmp .ne 43, 3) := by decide +kernel
theorem dX4_notes_9 : decode cX4_notes 9 = .ok (.iconst 0, 1) := by decide +kernel
theorem dX4_notes_10 : decode cX4_notes 10 = .ok (.istore_n 1, 1) := by decide +kernel
theorem dX4_notes_11 : decode cX4_notes 11 = .ok (.iload_n 1, 1) := by decide +kernel
theorem dX4_notes_12 : decode cX4_notes 12 = .ok (.sipush 133, 3) := by decide +kernel
theorem dX4_notes_15 : decode cX4_notes 15 = .ok (.if_icmp .ge 24, 3) := by decide +kernel
theorem dX4_notes_18 : decode cX4_notes 18 = .ok (.aload_n 0, 1) := by decide +kernel
theorem dX4_notes_19 : decode cX4_notes 19 = .ok (.getfield 55, 3) := by decide +kernel
theorem dX4_notes_22 : decode cX4_notes 22 = .ok (.iload_n 1, 1) := by decide +kernel
theorem dX4_notes_23 : decode cX4_notes 23 = .ok (.aload_n 0, 1) := by decide +kernel
theorem dX4_notes_24 : decode cX4_notes 24 = .ok (.getfield 55, 3) := by decide +kernel
theorem dX4_notes_27 : decode cX4_notes 27 = .ok (.iload_n 1, 1) := by decide +kernel
theorem dX4_notes_28 : decode cX4_notes 28 = .ok (.bipush 19, 2) := by decide +kernel
theorem dX4_notes_30 : decode cX4_notes 30 = .ok (.iadd, 1) := by decide +kernel
theorem dX4_notes_31 : decode cX4_notes 31 = .ok (.iaload, 1) := by decide +kernel
theorem dX4_notes_32 : decode cX4_notes 32 = .ok (.iastore, 1) := by decide +kernel
theorem dX4_notes_33 : decode cX4_notes 33 = .ok (.iinc 1 1, 3) := by decide +kernel
theorem dX4_notes_36 : decode cX4_notes 36 = .ok (.goto (-25), 3) := by decide +kernel
theorem dX4_notes_39 : decode cX4_notes 39 = .ok (.aload_n 0, 1) := by decide +kernel
theorem dX4_notes_40 : decode cX4_notes 40 = .ok (.dup, 1) := by decide +kernel
theorem dX4_notes_41 : decode cX4_notes 41 = .ok (.getfield 90, 3) := by decide +kernel
theorem dX4_notes_44 : decode cX4_notes 44 = .ok (.iconst 1, 1) := by decide +kernel
theorem dX4_notes_45 : decode cX4_notes 45 = .ok (.isub, 1) := by decide +kernel
theorem dX4_notes_46 : decode cX4_notes 46 = .ok (.putfield 90, 3) := by decide +kernel
theorem dX4_notes_49 : decode cX4_notes 49 = .ok (.aload_n 0, 1) := by decide +kernel
theorem dX4_notes_50 : decode cX4_notes 50 = .ok (.aload_n 0, 1) := by decide +kernel
theorem dX4_notes_51 : decode cX4_notes 51 = .ok (.getfield 55, 3) := by decide +kernel
theorem dX4_notes_54 : decode cX4_notes 54 = .ok (.bipush 19, 2) := by decide +kernel
theorem dX4_notes_56 : decode cX4_notes 56 = .ok (.aload_n 0, 1) := by decide +kernel
theorem dX4_notes_57 : decode cX4_notes 57 = .ok (.getfield 90, 3) := by decide +kernel
theorem dX4_notes_60 : decode cX4_notes 60 = .ok (.imul, 1) := by decide +kernel
theorem dX4_notes_61 : decode cX4_notes 61 = .ok (.invokevirtual 189, 3) := by decide +kernel
theorem dX4_notes_64 : decode cX4_notes 64 = .ok (.aload_n 0, 1) := by decide +kernel
theorem dX4_notes_65 : decode cX4_notes 65 = .ok (.dup, 1) := by decide +kernel
theorem dX4_notes_66 : decode cX4_notes 66 = .ok (.getfield 90, 3) := by decide +kernel
theorem dX4_notes_69 : decode cX4_notes 69 = .ok (.iconst 1, 1) := by decide +kernel
theorem dX4_notes_70 : decode cX4_notes 70 = .ok (.iadd, 1) := by decide +kernel
theorem dX4_notes_71 : decode cX4_notes 71 = .ok (.putfield 90, 3) := by decide +kernel
theorem dX4_notes_74 : decode cX4_notes 74 = .ok (.return_, 1) := by decide +kernel
theorem dX4_puts_0 : decode cX4_puts 0 = .ok (.aload_n 0, 1) := by decide +kernel
theorem dX4_puts_1 : decode cX4_puts 1 = .ok (.aload_n 0, 1) := by decide +kernel
theorem dX4_puts_2 : decode cX4_puts 2 = .ok (.getfield 58, 3) := by decide +kernel
theorem dX4_puts_5 : decode cX4_puts 5 = .ok (.iconst 0, 1) := by decide +kernel
theorem dX4_puts_6 : decode cX4_puts 6 = .ok (.invokevirtual 189, 3) := by decide +kernel
theorem dX4_puts_9 : decode cX4_puts 9 = .ok (.return_, 1) := by decide +kernel
theorem dX4_back_0 : decode cX4_back 0 = .ok (.aload_n 0, 1) := by decide +kernel
theorem dX4_back_1 : decode cX4_back 1 = .ok (.aload_n 0, 1) := by decide +kernel
theorem dX4_back_2 : decode cX4_back 2 = .ok (.getfield 58, 3) := by decide +kernel
theorem dX4_back_5 : decode cX4_back 5 = .ok (.iconst 0, 1) := by decide +kernel
theorem dX4_back_6 : decode cX4_back 6 = .ok (.invokevirtual 193, 3) := by decide +kernel
theorem dX4_back_9 : decode cX4_back 9 = .ok (.return_, 1) := by decide +kernel
theorem dX4_leaves_0 : decode cX4_leaves 0 = .ok (.aload_n 0, 1) := by decide +kernel
theorem dX4_leaves_1 : decode cX4_leaves 1 = .ok (.getfield 22, 3) := by decide +kernel
theorem dX4_leaves_4 : decode cX4_leaves 4 = .ok (.iload_n 1, 1) := by decide +kernel
theorem dX4_leaves_5 : decode cX4_leaves 5 = .ok (.iconst (-1), 1) := by decide +kernel
theorem dX4_leaves_6 : decode cX4_leaves 6 = .ok (.iastore, 1) := by decide +kernel
theorem dX4_leaves_7 : decode cX4_leaves 7 = .ok (.aload_n 0, 1) := by decide +kernel
theorem dX4_leaves_8 : decode cX4_leaves 8 = .ok (.getfield 25, 3) := by decide +kernel
theorem dX4_leaves_11 : decode cX4_leaves 11 = .ok (.iload_n 1, 1) := by decide +kernel
theorem dX4_leaves_12 : decode cX4_leaves 12 = .ok (.iconst 0, 1) := by decide +kernel
theorem dX4_leaves_13 : decode cX4_leaves 13 = .ok (.iastore, 1) := by decide +kernel
theorem dX4_leaves_14 : decode cX4_leaves 14 = .ok (.return_, 1) := by decide +kernel
theorem dX4_lends_0 : decode cX4_lends 0 = .ok (.aload_n 0, 1) := by decide +kernel
theorem dX4_lends_1 : decode cX4_lends 1 = .ok (.iload_n 2, 1) := by decide +kernel
theorem dX4_lends_2 : decode cX4_lends 2 = .ok (.invokevirtual 183, 3) := by decide +kernel
theorem dX4_lends_5 : decode cX4_lends 5 = .ok (.istore_n 3, 1) := by decide +kernel
theorem dX4_lends_6 : decode cX4_lends 6 = .ok (.iload_n 3, 1) := by decide +kernel
theorem dX4_lends_7 : decode cX4_lends 7 = .ok (.iconst (-1), 1) := by decide +kernel
theorem dX4_lends_8 : decode cX4_lends 8 = .ok (.if_icmp .eq 8, 3) := by decide +kernel
theorem dX4_lends_11 : decode cX4_lends 11 = .ok (.aload_n 0, 1) := by decide +kernel
theorem dX4_lends_12 : decode cX4_lends 12 = .ok (.iload_n 3, 1) := by decide +kernel
theorem dX4_lends_13 : decode cX4_lends 13 = .ok (.invokevirtual 196, 3) := by decide +kernel
theorem dX4_lends_16 : decode cX4_lends 16 = .ok (.aload_n 0, 1) := by decide +kernel
theorem dX4_lends_17 : decode cX4_lends 17 = .ok (.getfield 22, 3) := by decide +kernel
theorem dX4_lends_20 : decode cX4_lends 20 = .ok (.iload_n 1, 1) := by decide +kernel
theorem dX4_lends_21 : decode cX4_lends 21 = .ok (.iload_n 2, 1) := by decide +kernel
theorem dX4_lends_22 : decode cX4_lends 22 = .ok (.iastore, 1) := by decide +kernel
theorem dX4_lends_23 : decode cX4_lends 23 = .ok (.aload_n 0, 1) := by decide +kernel
theorem dX4_lends_24 : decode cX4_lends 24 = .ok (.getfield 25, 3) := by decide +kernel
theorem dX4_lends_27 : decode cX4_lends 27 = .ok (.iload_n 1, 1) := by decide +kernel
theorem dX4_lends_28 : decode cX4_lends 28 = .ok (.iconst 0, 1) := by decide +kernel
theorem dX4_lends_29 : decode cX4_lends 29 = .ok (.iastore, 1) := by decide +kernel
theorem dX4_lends_30 : decode cX4_lends 30 = .ok (.iload_n 3, 1) := by decide +kernel
theorem dX4_lends_31 : decode cX4_lends 31 = .ok (.ireturn, 1) := by decide +kernel
theorem dX4_pass_0 : decode cX4_pass 0 = .ok (.iconst 0, 1) := by decide +kernel
theorem dX4_pass_1 : decode cX4_pass 1 = .ok (.istore_n 1, 1) := by decide +kernel
theorem dX4_pass_2 : decode cX4_pass 2 = .ok (.aload_n 0, 1) := by decide +kernel
theorem dX4_pass_3 : decode cX4_pass 3 = .ok (.getfield 84, 3) := by decide +kernel
theorem dX4_pass_6 : decode cX4_pass 6 = .ok (.sipush 999, 3) := by decide +kernel
theorem dX4_pass_9 : decode cX4_pass 9 = .ok (.if_icmp .ge 93, 3) := by decide +kernel
theorem dX4_pass_12 : decode cX4_pass 12 = .ok (.iconst 0, 1) := by decide +kernel
theorem dX4_pass_13 : decode cX4_pass 13 = .ok (.istore_n 2, 1) := by decide +kernel
theorem dX4_pass_14 : decode cX4_pass 14 = .ok (.iload_n 2, 1) := by decide +kernel
theorem dX4_pass_15 : decode cX4_pass 15 = .ok (.aload_n 0, 1) := by decide +kernel
theorem dX4_pass_16 : decode cX4_pass 16 = .ok (.getfield 80, 3) := by decide +kernel
theorem dX4_pass_19 : decode cX4_pass 19 = .ok (.if_icmp .ge 73, 3) := by decide +kernel
theorem dX4_pass_22 : decode cX4_pass 22 = .ok (.aload_n 0, 1) := by decide +kernel
theorem dX4_pass_23 : decode cX4_pass 23 = .ok (.getfield 22, 3) := by decide +kernel
theorem dX4_pass_26 : decode cX4_pass 26 = .ok (.iload_n 2, 1) := by decide +kernel
theorem dX4_pass_27 : decode cX4_pass 27 = .ok (.iaload, 1) := by decide +kernel
theorem dX4_pass_28 : decode cX4_pass 28 = .ok (.iconst (-1), 1) := by decide +kernel
theorem dX4_pass_29 : decode cX4_pass 29 = .ok (.if_icmp .eq 57, 3) := by decide +kernel
theorem dX4_pass_32 : decode cX4_pass 32 = .ok (.aload_n 0, 1) := by decide +kernel
theorem dX4_pass_33 : decode cX4_pass 33 = .ok (.getfield 22, 3) := by decide +kernel
theorem dX4_pass_36 : decode cX4_pass 36 = .ok (.iload_n 2, 1) := by decide +kernel
theorem dX4_pass_37 : decode cX4_pass 37 = .ok (.iaload, 1) := by decide +kernel
theorem dX4_pass_38 : decode cX4_pass 38 = .ok (.iload_n 2, 1) := by decide +kernel
theorem dX4_pass_39 : decode cX4_pass 39 = .ok (.if_icmp .ne 7, 3) := by decide +kernel
theorem dX4_pass_42 : decode cX4_pass 42 = .ok (.iconst 0, 1) := by decide +kernel
theorem dX4_pass_43 : decode cX4_pass 43 = .ok (.goto 18, 3) := by decide +kernel
theorem dX4_pass_46 : decode cX4_pass 46 = .ok (.aload_n 0, 1) := by decide +kernel
theorem dX4_pass_47 : decode cX4_pass 47 = .ok (.getfield 13, 3) := by decide +kernel
theorem dX4_pass_50 : decode cX4_pass 50 = .ok (.iload_n 2, 1) := by decide +kernel
theorem dX4_pass_51 : decode cX4_pass 51 = .ok (.iaload, 1) := by decide +kernel
theorem dX4_pass_52 : decode cX4_pass 52 = .ok (.aload_n 0, 1) := by decide +kernel
theorem dX4_pass_53 : decode cX4_pass 53 = .ok (.getfield 25, 3) := by decide +kernel
theorem dX4_pass_56 : decode cX4_pass 56 = .ok (.iload_n 2, 1) := by decide +kernel
theorem dX4_pass_57 : decode cX4_pass 57 = .ok (.iaload, 1) := by decide +kernel
theorem dX4_pass_58 : decode cX4_pass 58 = .ok (.invokestatic 200, 3) := by decide +kernel
theorem dX4_pass_61 : decode cX4_pass 61 = .ok (.istore_n 3, 1) := by decide +kernel
theorem dX4_pass_62 : decode cX4_pass 62 = .ok (.aload_n 0, 1) := by decide +kernel
theorem dX4_pass_63 : decode cX4_pass 63 = .ok (.getfield 28, 3) := by decide +kernel
theorem dX4_pass_66 : decode cX4_pass 66 = .ok (.iload_n 2, 1) := by decide +kernel
theorem dX4_pass_67 : decode cX4_pass 67 = .ok (.dup2, 1) := by decide +kernel
theorem dX4_pass_68 : decode cX4_pass 68 = .ok (.iaload, 1) := by decide +kernel
theorem dX4_pass_69 : decode cX4_pass 69 = .ok (.iload_n 3, 1) := by decide +kernel
theorem dX4_pass_70 : decode cX4_pass 70 = .ok (.iadd, 1) := by decide +kernel
theorem dX4_pass_71 : decode cX4_pass 71 = .ok (.iastore, 1) := by decide +kernel
theorem dX4_pass_72 : decode cX4_pass 72 = .ok (.iload_n 1, 1) := by decide +kernel
theorem dX4_pass_73 : decode cX4_pass 73 = .ok (.iload_n 3, 1) := by decide +kernel
theorem dX4_pass_74 : decode cX4_pass 74 = .ok (.iadd, 1) := by decide +kernel
theorem dX4_pass_75 : decode cX4_pass 75 = .ok (.istore_n 1, 1) := by decide +kernel
theorem dX4_pass_76 : decode cX4_pass 76 = .ok (.aload_n 0, 1) := by decide +kernel
theorem dX4_pass_77 : decode cX4_pass 77 = .ok (.getfield 25, 3) := by decide +kernel
theorem dX4_pass_80 : decode cX4_pass 80 = .ok (.iload_n 2, 1) := by decide +kernel
theorem dX4_pass_81 : decode cX4_pass 81 = .ok (.dup2, 1) := by decide +kernel
theorem dX4_pass_82 : decode cX4_pass 82 = .ok (.iaload, 1) := by decide +kernel
theorem dX4_pass_83 : decode cX4_pass 83 = .ok (.iconst 1, 1) := by decide +kernel
theorem dX4_pass_84 : decode cX4_pass 84 = .ok (.iadd, 1) := by decide +kernel
theorem dX4_pass_85 : decode cX4_pass 85 = .ok (.iastore, 1) := by decide +kernel
theorem dX4_pass_86 : decode cX4_pass 86 = .ok (.iinc 2 1, 3) := by decide +kernel
theorem dX4_pass_89 : decode cX4_pass 89 = .ok (.goto (-75), 3) := by decide +kernel
theorem dX4_pass_92 : decode cX4_pass 92 = .ok (.aload_n 0, 1) := by decide +kernel
theorem dX4_pass_93 : decode cX4_pass 93 = .ok (.dup, 1) := by decide +kernel
theorem dX4_pass_94 : decode cX4_pass 94 = .ok (.getfield 84, 3) := by decide +kernel
theorem dX4_pass_97 : decode cX4_pass 97 = .ok (.iconst 1, 1) := by decide +kernel
theorem dX4_pass_98 : decode cX4_pass 98 = .ok (.iadd, 1) := by decide +kernel
theorem dX4_pass_99 : decode cX4_pass 99 = .ok (.putfield 84, 3) := by decide +kernel
theorem dX4_pass_102 : decode cX4_pass 102 = .ok (.iload_n 1, 1) := by decide +kernel
theorem dX4_pass_103 : decode cX4_pass 103 = .ok (.ireturn, 1) := by decide +kernel
theorem dX4_lend_0 : decode cX4_lend 0 = .ok (.aload_n 0, 1) := by decide +kernel
theorem dX4_lend_1 : decode cX4_lend 1 = .ok (.iload_n 1, 1) := by decide +kernel
theorem dX4_lend_2 : decode cX4_lend 2 = .ok (.invokevirtual 203, 3) := by decide +kernel
theorem dX4_lend_5 : decode cX4_lend 5 = .ok (.ifCond .eq 11, 3) := by decide +kernel
theorem dX4_lend_8 : decode cX4_lend 8 = .ok (.aload_n 0, 1) := by decide +kernel
theorem dX4_lend_9 : decode cX4_lend 9 = .ok (.iload_n 2, 1) := by decide +kernel
theorem dX4_lend_10 : decode cX4_lend 10 = .ok (.invokevirtual 203, 3) := by decide +kernel
theorem dX4_lend_13 : decode cX4_lend 13 = .ok (.ifCond .ne 8, 3) := by decide +kernel
theorem dX4_lend_16 : decode cX4_lend 16 = .ok (.aload_n 0, 1) := by decide +kernel
theorem dX4_lend_17 : decode cX4_lend 17 = .ok (.invokevirtual 206, 3) := by decide +kernel
theorem dX4_lend_20 : decode cX4_lend 20 = .ok (.ireturn, 1) := by decide +kernel
theorem dX4_lend_21 : decode cX4_lend 21 = .ok (.aload_n 0, 1) := by decide +kernel
theorem dX4_lend_22 : decode cX4_lend 22 = .ok (.getfield 22, 3) := by decide +kernel
theorem dX4_lend_25 : decode cX4_lend 25 = .ok (.iload_n 1, 1) := by decide +kernel
theorem dX4_lend_26 : decode cX4_lend 26 = .ok (.iaload, 1) := by decide +kernel
theorem dX4_lend_27 : decode cX4_lend 27 = .ok (.iconst (-1), 1) := by decide +kernel
theorem dX4_lend_28 : decode cX4_lend 28 = .ok (.if_icmp .eq 8, 3) := by decide +kernel
theorem dX4_lend_31 : decode cX4_lend 31 = .ok (.aload_n 0, 1) := by decide +kernel
theorem dX4_lend_32 : decode cX4_lend 32 = .ok (.invokevirtual 209, 3) := by decide +kernel
theorem dX4_lend_35 : decode cX4_lend 35 = .ok (.ireturn, 1) := by decide +kernel
theorem dX4_lend_36 : decode cX4_lend 36 = .ok (.aload_n 0, 1) := by decide +kernel
theorem dX4_lend_37 : decode cX4_lend 37 = .ok (.invokevirtual 212, 3) := by decide +kernel
theorem dX4_lend_40 : decode cX4_lend 40 = .ok (.aload_n 0, 1) := by decide +kernel
theorem dX4_lend_41 : decode cX4_lend 41 = .ok (.iload_n 1, 1) := by decide +kernel
theorem dX4_lend_42 : decode cX4_lend 42 = .ok (.iload_n 2, 1) := by decide +kernel
theorem dX4_lend_43 : decode cX4_lend 43 = .ok (.invokevirtual 215, 3) := by decide +kernel
theorem dX4_lend_46 : decode cX4_lend 46 = .ok (.ireturn, 1) := by decide +kernel
theorem dX4_leave_0 : decode cX4_leave 0 = .ok (.aload_n 0, 1) := by decide +kernel
theorem dX4_leave_1 : decode cX4_leave 1 = .ok (.iload_n 1, 1) := by decide +kernel
theorem dX4_leave_2 : decode cX4_leave 2 = .ok (.invokevirtual 203, 3) := by decide +kernel
theorem dX4_leave_5 : decode cX4_leave 5 = .ok (.ifCond .ne 8, 3) := by decide +kernel
theorem dX4_leave_8 : decode cX4_leave 8 = .ok (.aload_n 0, 1) := by decide +kernel
theorem dX4_leave_9 : decode cX4_leave 9 = .ok (.invokevirtual 97, 3) := by decide +kernel
theorem dX4_leave_12 : decode cX4_leave 12 = .ok (.ireturn, 1) := by decide +kernel
theorem dX4_leave_13 : decode cX4_leave 13 = .ok (.aload_n 0, 1) := by decide +kernel
theorem dX4_leave_14 : decode cX4_leave 14 = .ok (.iload_n 1, 1) := by decide +kernel
theorem dX4_leave_15 : decode cX4_leave 15 = .ok (.invokevirtual 183, 3) := by decide +kernel
theorem dX4_leave_18 : decode cX4_leave 18 = .ok (.istore_n 2, 1) := by decide +kernel
theorem dX4_leave_19 : decode cX4_leave 19 = .ok (.iload_n 2, 1) := by decide +kernel
theorem dX4_leave_20 : decode cX4_leave 20 = .ok (.iconst (-1), 1) := by decide +kernel
theorem dX4_leave_21 : decode cX4_leave 21 = .ok (.if_icmp .ne 8, 3) := by decide +kernel
theorem dX4_leave_24 : decode cX4_leave 24 = .ok (.aload_n 0, 1) := by decide +kernel
theorem dX4_leave_25 : decode cX4_leave 25 = .ok (.invokevirtual 209, 3) := by decide +kernel
theorem dX4_leave_28 : decode cX4_leave 28 = .ok (.ireturn, 1) := by decide +kernel
theorem dX4_leave_29 : decode cX4_leave 29 = .ok (.aload_n 0, 1) := by decide +kernel
theorem dX4_leave_30 : decode cX4_leave 30 = .ok (.invokevirtual 212, 3) := by decide +kernel
theorem dX4_leave_33 : decode cX4_leave 33 = .ok (.aload_n 0, 1) := by decide +kernel
theorem dX4_leave_34 : decode cX4_leave 34 = .ok (.iload_n 2, 1) := by decide +kernel
theorem dX4_leave_35 : decode cX4_leave 35 = .ok (.invokevirtual 196, 3) := by decide +kernel
theorem dX4_leave_38 : decode cX4_leave 38 = .ok (.iload_n 2, 1) := by decide +kernel
theorem dX4_leave_39 : decode cX4_leave 39 = .ok (.ireturn, 1) := by decide +kernel
theorem dX4_evening_0 : decode cX4_evening 0 = .ok (.iload_n 1, 1) := by decide +kernel
theorem dX4_evening_1 : decode cX4_evening 1 = .ok (.iconst 1, 1) := by decide +kernel
theorem dX4_evening_2 : decode cX4_evening 2 = .ok (.bipush 30, 2) := by decide +kernel
theorem dX4_evening_4 : decode cX4_evening 4 = .ok (.invokestatic 93, 3) := by decide +kernel
theorem dX4_evening_7 : decode cX4_evening 7 = .ok (.ifCond .ne 8, 3) := by decide +kernel
theorem dX4_evening_10 : decode cX4_evening 10 = .ok (.aload_n 0, 1) := by decide +kernel
theorem dX4_evening_11 : decode cX4_evening 11 = .ok (.invokevirtual 97, 3) := by decide +kernel
theorem dX4_evening_14 : decode cX4_evening 14 = .ok (.ireturn, 1) := by decide +kernel
theorem dX4_evening_15 : decode cX4_evening 15 = .ok (.aload_n 0, 1) := by decide +kernel
theorem dX4_evening_16 : decode cX4_evening 16 = .ok (.invokevirtual 212, 3) := by decide +kernel
theorem dX4_evening_19 : decode cX4_evening 19 = .ok (.iconst 0, 1) := by decide +kernel
theorem dX4_evening_20 : decode cX4_evening 20 = .ok (.istore_n 2, 1) := by decide +kernel
theorem dX4_evening_21 : decode cX4_evening 21 = .ok (.iconst 0, 1) := by decide +kernel
theorem dX4_evening_22 : decode cX4_evening 22 = .ok (.istore_n 3, 1) := by decide +kernel
theorem dX4_evening_23 : decode cX4_evening 23 = .ok (.iload_n 3, 1) := by decide +kernel
theorem dX4_evening_24 : decode cX4_evening 24 = .ok (.iload_n 1, 1) := by decide +kernel
theorem dX4_evening_25 : decode cX4_evening 25 = .ok (.if_icmp .ge 20, 3) := by decide +kernel
theorem dX4_evening_28 : decode cX4_evening 28 = .ok (.aload_n 0, 1) := by decide +kernel
theorem dX4_evening_29 : decode cX4_evening 29 = .ok (.invokevirtual 218, 3) := by decide +kernel
theorem dX4_evening_32 : decode cX4_evening 32 = .ok (.istore 4, 2) := by decide +kernel
theorem dX4_evening_34 : decode cX4_evening 34 = .ok (.iload_n 2, 1) := by decide +kernel
theorem dX4_evening_35 : decode cX4_evening 35 = .ok (.iload 4, 2) := by decide +kernel
theorem dX4_evening_37 : decode cX4_evening 37 = .ok (.iadd, 1) := by decide +kernel
theorem dX4_evening_38 : decode cX4_evening 38 = .ok (.istore_n 2, 1) := by decide +kernel
theorem dX4_evening_39 : decode cX4_evening 39 = .ok (.iinc 3 1, 3) := by decide +kernel
theorem dX4_evening_42 : decode cX4_evening 42 = .ok (.goto (-19), 3) := by decide +kernel
theorem dX4_evening_45 : decode cX4_evening 45 = .ok (.iload_n 2, 1) := by decide +kernel
theorem dX4_evening_46 : decode cX4_evening 46 = .ok (.ireturn, 1) := by decide +kernel
theorem dX4_undo_0 : decode cX4_undo 0 = .ok (.aload_n 0, 1) := by decide +kernel
theorem dX4_undo_1 : decode cX4_undo 1 = .ok (.getfield 90, 3) := by decide +kernel
theorem dX4_undo_4 : decode cX4_undo 4 = .ok (.ifCond .ne 8, 3) := by decide +kernel
theorem dX4_undo_7 : decode cX4_undo 7 = .ok (.aload_n 0, 1) := by decide +kernel
theorem dX4_undo_8 : decode cX4_undo 8 = .ok (.invokevirtual 209, 3) := by decide +kernel
theorem dX4_undo_11 : decode cX4_undo 11 = .ok (.ireturn, 1) := by decide +kernel
theorem dX4_undo_12 : decode cX4_undo 12 = .ok (.aload_n 0, 1) := by decide +kernel
theorem dX4_undo_13 : decode cX4_undo 13 = .ok (.dup, 1) := by decide +kernel
theorem dX4_undo_14 : decode cX4_undo 14 = .ok (.getfield 90, 3) := by decide +kernel
theorem dX4_undo_17 : decode cX4_undo 17 = .ok (.iconst 1, 1) := by decide +kernel
theorem dX4_undo_18 : decode cX4_undo 18 = .ok (.isub, 1) := by decide +kernel
theorem dX4_undo_19 : decode cX4_undo 19 = .ok (.putfield 90, 3) := by decide +kernel
theorem dX4_undo_22 : decode cX4_undo 22 = .ok (.aload_n 0, 1) := by decide +kernel
theorem dX4_undo_23 : decode cX4_undo 23 = .ok (.aload_n 0, 1) := by decide +kernel
theorem dX4_undo_24 : decode cX4_undo 24 = .ok (.getfield 55, 3) := by decide +kernel
theorem dX4_undo_27 : decode cX4_undo 27 = .ok (.bipush 19, 2) := by decide +kernel
theorem dX4_undo_29 : decode cX4_undo 29 = .ok (.aload_n 0, 1) := by decide +kernel
theorem dX4_undo_30 : decode cX4_undo 30 = .ok (.getfield 90, 3) := by decide +kernel
theorem dX4_undo_33 : decode cX4_undo 33 = .ok (.imul, 1) := by decide +kernel
theorem dX4_undo_34 : decode cX4_undo 34 = .ok (.invokevirtual 193, 3) := by decide +kernel
theorem dX4_undo_37 : decode cX4_undo 37 = .ok (.aload_n 0, 1) := by decide +kernel
theorem dX4_undo_38 : decode cX4_undo 38 = .ok (.getfield 84, 3) := by decide +kernel
theorem dX4_undo_41 : decode cX4_undo 41 = .ok (.ireturn, 1) := by decide +kernel
theorem dX4_of_0 : decode cX4_of 0 = .ok (.aload_n 0, 1) := by decide +kernel
theorem dX4_of_1 : decode cX4_of 1 = .ok (.iload_n 1, 1) := by decide +kernel
theorem dX4_of_2 : decode cX4_of 2 = .ok (.invokevirtual 203, 3) := by decide +kernel
theorem dX4_of_5 : decode cX4_of 5 = .ok (.ifCond .eq 12, 3) := by decide +kernel
theorem dX4_of_8 : decode cX4_of 8 = .ok (.iload_n 2, 1) := by decide +kernel
theorem dX4_of_9 : decode cX4_of 9 = .ok (.iconst 0, 1) := by decide +kernel
theorem dX4_of_10 : decode cX4_of 10 = .ok (.iconst 2, 1) := by decide +kernel
theorem dX4_of_11 : decode cX4_of 11 = .ok (.invokestatic 93, 3) := by decide +kernel
theorem dX4_of_14 : decode cX4_of 14 = .ok (.ifCond .ne 8, 3) := by decide +kernel
theorem dX4_of_17 : decode cX4_of 17 = .ok (.aload_n 0, 1) := by decide +kernel
theorem dX4_of_18 : decode cX4_of 18 = .ok (.invokevirtual 206, 3) := by decide +kernel
theorem dX4_of_21 : decode cX4_of 21 = .ok (.ireturn, 1) := by decide +kernel
theorem dX4_of_22 : decode cX4_of 22 = .ok (.iload_n 2, 1) := by decide +kernel
theorem dX4_of_23 : decode cX4_of 23 = .ok (.ifCond .ne 12, 3) := by decide +kernel
theorem dX4_of_26 : decode cX4_of 26 = .ok (.aload_n 0, 1) := by decide +kernel
theorem dX4_of_27 : decode cX4_of 27 = .ok (.getfield 19, 3) := by decide +kernel
theorem dX4_of_30 : decode cX4_of 30 = .ok (.iload_n 1, 1) := by decide +kernel
theorem dX4_of_31 : decode cX4_of 31 = .ok (.iaload, 1) := by decide +kernel
theorem dX4_of_32 : decode cX4_of 32 = .ok (.goto 21, 3) := by decide +kernel
theorem dX4_of_35 : decode cX4_of 35 = .ok (.iload_n 2, 1) := by decide +kernel
theorem dX4_of_36 : decode cX4_of 36 = .ok (.iconst 1, 1) := by decide +kernel
theorem dX4_of_37 : decode cX4_of 37 = .ok (.if_icmp .ne 11, 3) := by decide +kernel
theorem dX4_of_40 : decode cX4_of 40 = .ok (.aload_n 0, 1) := by decide +kernel
theorem dX4_of_41 : decode cX4_of 41 = .ok (.iload_n 1, 1) := by decide +kernel
theorem dX4_of_42 : decode cX4_of 42 = .ok (.invokevirtual 183, 3) := by decide +kernel
theorem dX4_of_45 : decode cX4_of 45 = .ok (.goto 8, 3) := by decide +kernel
theorem dX4_of_48 : decode cX4_of 48 = .ok (.aload_n 0, 1) := by decide +kernel
theorem dX4_of_49 : decode cX4_of 49 = .ok (.iload_n 1, 1) := by decide +kernel
theorem dX4_of_50 : decode cX4_of 50 = .ok (.invokevirtual 221, 3) := by decide +kernel
theorem dX4_of_53 : decode cX4_of 53 = .ok (.ireturn, 1) := by decide +kernel
theorem dX4_about_0 : decode cX4_about 0 = .ok (.aload_n 0, 1) := by decide +kernel
theorem dX4_about_1 : decode cX4_about 1 = .ok (.iload_n 1, 1) := by decide +kernel
theorem dX4_about_2 : decode cX4_about 2 = .ok (.invokevirtual 203, 3) := by decide +kernel
theorem dX4_about_5 : decode cX4_about 5 = .ok (.ifCond .eq 12, 3) := by decide +kernel
theorem dX4_about_8 : decode cX4_about 8 = .ok (.iload_n 2, 1) := by decide +kernel
theorem dX4_about_9 : decode cX4_about 9 = .ok (.iconst 0, 1) := by decide +kernel
theorem dX4_about_10 : decode cX4_about 10 = .ok (.iconst 5, 1) := by decide +kernel
theorem dX4_about_11 : decode cX4_about 11 = .ok (.invokestatic 93, 3) := by decide +kernel
theorem dX4_about_14 : decode cX4_about 14 = .ok (.ifCond .ne 8, 3) := by decide +kernel
theorem dX4_about_17 : decode cX4_about 17 = .ok (.aload_n 0, 1) := by decide +kernel
theorem dX4_about_18 : decode cX4_about 18 = .ok (.invokevirtual 206, 3) := by decide +kernel
theorem dX4_about_21 : decode cX4_about 21 = .ok (.ireturn, 1) := by decide +kernel
theorem dX4_about_22 : decode cX4_about 22 = .ok (.iload_n 2, 1) := by decide +kernel
theorem dX4_about_23 : decode cX4_about 23 = .ok (.tableswitch 68 0 4 #[33, 40, 47, 54, 61], 33) := by decide +kernel
theorem dX4_about_56 : decode cX4_about 56 = .ok (.aload_n 0, 1) := by decide +kernel
theorem dX4_about_57 : decode cX4_about 57 = .ok (.getfield 13, 3) := by decide +kernel
theorem dX4_about_60 : decode cX4_about 60 = .ok (.iload_n 1, 1) := by decide +kernel
theorem dX4_about_61 : decode cX4_about 61 = .ok (.iaload, 1) := by decide +kernel
theorem dX4_about_62 : decode cX4_about 62 = .ok (.ireturn, 1) := by decide +kernel
theorem dX4_about_63 : decode cX4_about 63 = .ok (.aload_n 0, 1) := by decide +kernel
theorem dX4_about_64 : decode cX4_about 64 = .ok (.getfield 16, 3) := by decide +kernel
theorem dX4_about_67 : decode cX4_about 67 = .ok (.iload_n 1, 1) := by decide +kernel
theorem dX4_about_68 : decode cX4_about 68 = .ok (.iaload, 1) := by decide +kernel
theorem dX4_about_69 : decode cX4_about 69 = .ok (.ireturn, 1) := by decide +kernel
theorem dX4_about_70 : decode cX4_about 70 = .ok (.aload_n 0, 1) := by decide +kernel
theorem dX4_about_71 : decode cX4_about 71 = .ok (.getfield 22, 3) := by decide +kernel
theorem dX4_about_74 : decode cX4_about 74 = .ok (.iload_n 1, 1) := by decide +kernel
theorem dX4_about_75 : decode cX4_about 75 = .ok (.iaload, 1) := by decide +kernel
theorem dX4_about_76 : decode cX4_about 76 = .ok (.ireturn, 1) := by decide +kernel
theorem dX4_about_77 : decode cX4_about 77 = .ok (.aload_n 0, 1) := by decide +kernel
theorem dX4_about_78 : decode cX4_about 78 = .ok (.getfield 25, 3) := by decide +kernel
theorem dX4_about_81 : decode cX4_about 81 = .ok (.iload_n 1, 1) := by decide +kernel
theorem dX4_about_82 : decode cX4_about 82 = .ok (.iaload, 1) := by decide +kernel
theorem dX4_about_83 : decode cX4_about 83 = .ok (.ireturn, 1) := by decide +kernel
theorem dX4_about_84 : decode cX4_about 84 = .ok (.aload_n 0, 1) := by decide +kernel
theorem dX4_about_85 : decode cX4_about 85 = .ok (.getfield 28, 3) := by decide +kernel
theorem dX4_about_88 : decode cX4_about 88 = .ok (.iload_n 1, 1) := by decide +kernel
theorem dX4_about_89 : decode cX4_about 89 = .ok (.iaload, 1) := by decide +kernel
theorem dX4_about_90 : decode cX4_about 90 = .ok (.ireturn, 1) := by decide +kernel
theorem dX4_about_91 : decode cX4_about 91 = .ok (.aload_n 0, 1) := by decide +kernel
theorem dX4_about_92 : decode cX4_about 92 = .ok (.iload_n 1, 1) := by decide +kernel
theorem dX4_about_93 : decode cX4_about 93 = .ok (.invokevirtual 180, 3) := by decide +kernel
theorem dX4_about_96 : decode cX4_about 96 = .ok (.ireturn, 1) := by decide +kernel
theorem dX4_fit_0 : decode cX4_fit 0 = .ok (.aload_n 0, 1) := by decide +kernel
theorem dX4_fit_1 : decode cX4_fit 1 = .ok (.iload_n 1, 1) := by decide +kernel
theorem dX4_fit_2 : decode cX4_fit 2 = .ok (.invokevirtual 203, 3) := by decide +kernel
theorem dX4_fit_5 : decode cX4_fit 5 = .ok (.ifCond .eq 20, 3) := by decide +kernel
theorem dX4_fit_8 : decode cX4_fit 8 = .ok (.aload_n 0, 1) := by decide +kernel
theorem dX4_fit_9 : decode cX4_fit 9 = .ok (.iload_n 2, 1) := by decide +kernel
theorem dX4_fit_10 : decode cX4_fit 10 = .ok (.invokevirtual 203, 3) := by decide +kernel
theorem dX4_fit_13 : decode cX4_fit 13 = .ok (.ifCond .eq 12, 3) := by decide +kernel
theorem dX4_fit_16 : decode cX4_fit 16 = .ok (.aload_n 0, 1) := by decide +kernel
theorem dX4_fit_17 : decode cX4_fit 17 = .ok (.iload_n 1, 1) := by decide +kernel
theorem dX4_fit_18 : decode cX4_fit 18 = .ok (.iload_n 2, 1) := by decide +kernel
theorem dX4_fit_19 : decode cX4_fit 19 = .ok (.invokevirtual 186, 3) := by decide +kernel
theorem dX4_fit_22 : decode cX4_fit 22 = .ok (.goto 7, 3) := by decide +kernel
theorem dX4_fit_25 : decode cX4_fit 25 = .ok (.aload_n 0, 1) := by decide +kernel
theorem dX4_fit_26 : decode cX4_fit 26 = .ok (.invokevirtual 97, 3) := by decide +kernel
theorem dX4_fit_29 : decode cX4_fit 29 = .ok (.ireturn, 1) := by decide +kernel
theorem dX4_nextLine_0 : decode cX4_nextLine 0 = .ok (.aload_n 0, 1) := by decide +kernel
theorem dX4_nextLine_1 : decode cX4_nextLine 1 = .ok (.getfield 80, 3) := by decide +kernel
theorem dX4_nextLine_4 : decode cX4_nextLine 4 = .ok (.iconst 2, 1) := by decide +kernel
theorem dX4_nextLine_5 : decode cX4_nextLine 5 = .ok (.isub, 1) := by decide +kernel
theorem dX4_nextLine_6 : decode cX4_nextLine 6 = .ok (.istore_n 1, 1) := by decide +kernel
theorem dX4_nextLine_7 : decode cX4_nextLine 7 = .ok (.iload_n 1, 1) := by decide +kernel
theorem dX4_nextLine_8 : decode cX4_nextLine 8 = .ok (.ifCond .lt 26, 3) := by decide +kernel
theorem dX4_nextLine_11 : decode cX4_nextLine 11 = .ok (.aload_n 0, 1) := by decide +kernel
theorem dX4_nextLine_12 : decode cX4_nextLine 12 = .ok (.getfield 61, 3) := by decide +kernel
theorem dX4_nextLine_15 : decode cX4_nextLine 15 = .ok (.iload_n 1, 1) := by decide +kernel
theorem dX4_nextLine_16 : decode cX4_nextLine 16 = .ok (.iaload, 1) := by decide +kernel
theorem dX4_nextLine_17 : decode cX4_nextLine 17 = .ok (.aload_n 0, 1) := by decide +kernel
theorem dX4_nextLine_18 : decode cX4_nextLine 18 = .ok (.getfield 61, 3) := by decide +kernel
theorem dX4_nextLine_21 : decode cX4_nextLine 21 = .ok (.iload_n 1, 1) := by decide +kernel
theorem dX4_nextLine_22 : decode cX4_nextLine 22 = .ok (.iconst 1, 1) := by decide +kernel
theorem dX4_nextLine_23 : decode cX4_nextLine 23 = .ok (.iadd, 1) := by decide +kernel
theorem dX4_nextLine_24 : decode cX4_nextLine 24 = .ok (.iaload, 1) := by decide +kernel
theorem dX4_nextLine_25 : decode cX4_nextLine 25 = .ok (.if_icmp .le 9, 3) := by decide +kernel
theorem dX4_nextLine_28 : decode cX4_nextLine 28 = .ok (.iinc 1 (-1), 3) := by decide +kernel
theorem dX4_nextLine_31 : decode cX4_nextLine 31 = .ok (.goto (-24), 3) := by decide +kernel
theorem dX4_nextLine_34 : decode cX4_nextLine 34 = .ok (.iload_n 1, 1) := by decide +kernel
theorem dX4_nextLine_35 : decode cX4_nextLine 35 = .ok (.ifCond .ge 5, 3) := by decide +kernel
theorem dX4_nextLine_38 : decode cX4_nextLine 38 = .ok (.iconst 0, 1) := by decide +kernel
theorem dX4_nextLine_39 : decode cX4_nextLine 39 = .ok (.ireturn, 1) := by decide +kernel
theorem dX4_nextLine_40 : decode cX4_nextLine 40 = .ok (.aload_n 0, 1) := by decide +kernel
theorem dX4_nextLine_41 : decode cX4_nextLine 41 = .ok (.getfield 80, 3) := by decide +kernel
theorem dX4_nextLine_44 : decode cX4_nextLine 44 = .ok (.iconst 1, 1) := by decide +kernel
theorem dX4_nextLine_45 : decode cX4_nextLine 45 = .ok (.isub, 1) := by decide +kernel
theorem dX4_nextLine_46 : decode cX4_nextLine 46 = .ok (.istore_n 2, 1) := by decide +kernel
theorem dX4_nextLine_47 : decode cX4_nextLine 47 = .ok (.aload_n 0, 1) := by decide +kernel
theorem dX4_nextLine_48 : decode cX4_nextLine 48 = .ok (.getfield 61, 3) := by decide +kernel
theorem dX4_nextLine_51 : decode cX4_nextLine 51 = .ok (.iload_n 2, 1) := by decide +kernel
theorem dX4_nextLine_52 : decode cX4_nextLine 52 = .ok (.iaload, 1) := by decide +kernel
theorem dX4_nextLine_53 : decode cX4_nextLine 53 = .ok (.aload_n 0, 1) := by decide +kernel
theorem dX4_nextLine_54 : decode cX4_nextLine 54 = .ok (.getfield 61, 3) := by decide +kernel
theorem dX4_nextLine_57 : decode cX4_nextLine 57 = .ok (.iload_n 1, 1) := by decide +kernel
theorem dX4_nextLine_58 : decode cX4_nextLine 58 = .ok (.iaload, 1) := by decide +kernel
theorem dX4_nextLine_59 : decode cX4_nextLine 59 = .ok (.if_icmp .ge 9, 3) := by decide +kernel
theorem dX4_nextLine_62 : decode cX4_nextLine 62 = .ok (.iinc 2 (-1), 3) := by decide +kernel
theorem dX4_nextLine_65 : decode cX4_nextLine 65 = .ok (.goto (-18), 3) := by decide +kernel
theorem dX4_nextLine_68 : decode cX4_nextLine 68 = .ok (.aload_n 0, 1) := by decide +kernel
theorem dX4_nextLine_69 : decode cX4_nextLine 69 = .ok (.getfield 61, 3) := by decide +kernel
theorem dX4_nextLine_72 : decode cX4_nextLine 72 = .ok (.iload_n 1, 1) := by decide +kernel
theorem dX4_nextLine_73 : decode cX4_nextLine 73 = .ok (.iaload, 1) := by decide +kernel
theorem dX4_nextLine_74 : decode cX4_nextLine 74 = .ok (.istore_n 3, 1) := by decide +kernel
theorem dX4_nextLine_75 : decode cX4_nextLine 75 = .ok (.aload_n 0, 1) := by decide +kernel
theorem dX4_nextLine_76 : decode cX4_nextLine 76 = .ok (.getfield 61, 3) := by decide +kernel
theorem dX4_nextLine_79 : decode cX4_nextLine 79 = .ok (.iload_n 1, 1) := by decide +kernel
theorem dX4_nextLine_80 : decode cX4_nextLine 80 = .ok (.aload_n 0, 1) := by decide +kernel
theorem dX4_nextLine_81 : decode cX4_nextLine 81 = .ok (.getfield 61, 3) := by decide +kernel
theorem dX4_nextLine_84 : decode cX4_nextLine 84 = .ok (.iload_n 2, 1) := by decide +kernel
theorem dX4_nextLine_85 : decode cX4_nextLine 85 = .ok (.iaload, 1) := by decide +kernel
theorem dX4_nextLine_86 : decode cX4_nextLine 86 = .ok (.iastore, 1) := by decide +kernel
theorem dX4_nextLine_87 : decode cX4_nextLine 87 = .ok (.aload_n 0, 1) := by decide +kernel
theorem dX4_nextLine_88 : decode cX4_nextLine 88 = .ok (.getfield 61, 3) := by decide +kernel
theorem dX4_nextLine_91 : decode cX4_nextLine 91 = .ok (.iload_n 2, 1) := by decide +kernel
theorem dX4_nextLine_92 : decode cX4_nextLine 92 = .ok (.iload_n 3, 1) := by decide +kernel
theorem dX4_nextLine_93 : decode cX4_nextLine 93 = .ok (.iastore, 1) := by decide +kernel
theorem dX4_nextLine_94 : decode cX4_nextLine 94 = .ok (.iload_n 1, 1) := by decide +kernel
theorem dX4_nextLine_95 : decode cX4_nextLine 95 = .ok (.iconst 1, 1) := by decide +kernel
theorem dX4_nextLine_96 : decode cX4_nextLine 96 = .ok (.iadd, 1) := by decide +kernel
theorem dX4_nextLine_97 : decode cX4_nextLine 97 = .ok (.istore 4, 2) := by decide +kernel
theorem dX4_nextLine_99 : decode cX4_nextLine 99 = .ok (.aload_n 0, 1) := by decide +kernel
theorem dX4_nextLine_100 : decode cX4_nextLine 100 = .ok (.getfield 80, 3) := by decide +kernel
theorem dX4_nextLine_103 : decode cX4_nextLine 103 = .ok (.iconst 1, 1) := by decide +kernel
theorem dX4_nextLine_104 : decode cX4_nextLine 104 = .ok (.isub, 1) := by decide +kernel
theorem dX4_nextLine_105 : decode cX4_nextLine 105 = .ok (.istore 5, 2) := by decide +kernel
theorem dX4_nextLine_107 : decode cX4_nextLine 107 = .ok (.iload 4, 2) := by decide +kernel
theorem dX4_nextLine_109 : decode cX4_nextLine 109 = .ok (.iload 5, 2) := by decide +kernel
theorem dX4_nextLine_111 : decode cX4_nextLine 111 = .ok (.if_icmp .ge 42, 3) := by decide +kernel
theorem dX4_nextLine_114 : decode cX4_nextLine 114 = .ok (.aload_n 0, 1) := by decide +kernel
theorem dX4_nextLine_115 : decode cX4_nextLine 115 = .ok (.getfield 61, 3) := by decide +kernel
theorem dX4_nextLine_118 : decode cX4_nextLine 118 = .ok (.iload 4, 2) := by decide +kernel
theorem dX4_nextLine_120 : decode cX4_nextLine 120 = .ok (.iaload, 1) := by decide +kernel
theorem dX4_nextLine_121 : decode cX4_nextLine 121 = .ok (.istore_n 3, 1) := by decide +kernel
theorem dX4_nextLine_122 : decode cX4_nextLine 122 = .ok (.aload_n 0, 1) := by decide +kernel
theorem dX4_nextLine_123 : decode cX4_nextLine 123 = .ok (.getfield 61, 3) := by decide +kernel
theorem dX4_nextLine_126 : decode cX4_nextLine 126 = .ok (.iload 4, 2) := by decide +kernel
theorem dX4_nextLine_128 : decode cX4_nextLine 128 = .ok (.aload_n 0, 1) := by decide +kernel
theorem dX4_nextLine_129 : decode cX4_nextLine 129 = .ok (.getfield 61, 3) := by decide +kernel
theorem dX4_nextLine_132 : decode cX4_nextLine 132 = .ok (.iload 5, 2) := by decide +kernel
theorem dX4_nextLine_134 : decode cX4_nextLine 134 = .ok (.iaload, 1) := by decide +kernel
theorem dX4_nextLine_135 : decode cX4_nextLine 135 = .ok (.iastore, 1) := by decide +kernel
theorem dX4_nextLine_136 : decode cX4_nextLine 136 = .ok (.aload_n 0, 1) := by decide +kernel
theorem dX4_nextLine_137 : decode cX4_nextLine 137 = .ok (.getfield 61, 3) := by decide +kernel
theorem dX4_nextLine_140 : decode cX4_nextLine 140 = .ok (.iload 5, 2) := by decide +kernel
theorem dX4_nextLine_142 : decode cX4_nextLine 142 = .ok (.iload_n 3, 1) := by decide +kernel
theorem dX4_nextLine_143 : decode cX4_nextLine 143 = .ok (.iastore, 1) := by decide +kernel
theorem dX4_nextLine_144 : decode cX4_nextLine 144 = .ok (.iinc 4 1, 3) := by decide +kernel
theorem dX4_nextLine_147 : decode cX4_nextLine 147 = .ok (.iinc 5 (-1), 3) := by decide +kernel
theorem dX4_nextLine_150 : decode cX4_nextLine 150 = .ok (.goto (-43), 3) := by decide +kernel
theorem dX4_nextLine_153 : decode cX4_nextLine 153 = .ok (.iconst 1, 1) := by decide +kernel
theorem dX4_nextLine_154 : decode cX4_nextLine 154 = .ok (.ireturn, 1) := by decide +kernel
theorem dX4_best_0 : decode cX4_best 0 = .ok (.iload_n 1, 1) := by decide +kernel
theorem dX4_best_1 : decode cX4_best 1 = .ok (.iconst (-1), 1) := by decide +kernel
theorem dX4_best_2 : decode cX4_best 2 = .ok (.if_icmp .eq 16, 3) := by decide +kernel
theorem dX4_best_5 : decode cX4_best 5 = .ok (.aload_n 0, 1) := by decide +kernel
theorem dX4_best_6 : decode cX4_best 6 = .ok (.iload_n 1, 1) := by decide +kernel
theorem dX4_best_7 : decode cX4_best 7 = .ok (.invokevirtual 203, 3) := by decide +kernel
theorem dX4_best_10 : decode cX4_best 10 = .ok (.ifCond .ne 8, 3) := by decide +kernel
theorem dX4_best_13 : decode cX4_best 13 = .ok (.aload_n 0, 1) := by decide +kernel
theorem dX4_best_14 : decode cX4_best 14 = .ok (.invokevirtual 206, 3) := by decide +kernel
theorem dX4_best_17 : decode cX4_best 17 = .ok (.ireturn, 1) := by decide +kernel
theorem dX4_best_18 : decode cX4_best 18 = .ok (.iconst 0, 1) := by decide +kernel
theorem dX4_best_19 : decode cX4_best 19 = .ok (.istore_n 2, 1) := by decide +kernel
theorem dX4_best_20 : decode cX4_best 20 = .ok (.iload_n 2, 1) := by decide +kernel
theorem dX4_best_21 : decode cX4_best 21 = .ok (.aload_n 0, 1) := by decide +kernel
theorem dX4_best_22 : decode cX4_best 22 = .ok (.getfield 80, 3) := by decide +kernel
theorem dX4_best_25 : decode cX4_best 25 = .ok (.if_icmp .ge 16, 3) := by decide +kernel
theorem dX4_best_28 : decode cX4_best 28 = .ok (.aload_n 0, 1) := by decide +kernel
theorem dX4_best_29 : decode cX4_best 29 = .ok (.getfield 61, 3) := by decide +kernel
theorem dX4_best_32 : decode cX4_best 32 = .ok (.iload_n 2, 1) := by decide +kernel
theorem dX4_best_33 : decode cX4_best 33 = .ok (.iload_n 2, 1) := by decide +kernel
theorem dX4_best_34 : decode cX4_best 34 = .ok (.iastore, 1) := by decide +kernel
theorem dX4_best_35 : decode cX4_best 35 = .ok (.iinc 2 1, 3) := by decide +kernel
theorem dX4_best_38 : decode cX4_best 38 = .ok (.goto (-18), 3) := by decide +kernel
theorem dX4_best_41 : decode cX4_best 41 = .ok (.iconst (-1), 1) := by decide +kernel
theorem dX4_best_42 : decode cX4_best 42 = .ok (.istore_n 2, 1) := by decide +kernel
theorem dX4_best_43 : decode cX4_best 43 = .ok (.iconst 1, 1) := by decide +kernel
theorem dX4_best_44 : decode cX4_best 44 = .ok (.istore_n 3, 1) := by decide +kernel
theorem dX4_best_45 : decode cX4_best 45 = .ok (.iload_n 3, 1) := by decide +kernel
theorem dX4_best_46 : decode cX4_best 46 = .ok (.ifCond .eq 101, 3) := by decide +kernel
theorem dX4_best_49 : decode cX4_best 49 = .ok (.iconst 0, 1) := by decide +kernel
theorem dX4_best_50 : decode cX4_best 50 = .ok (.istore 4, 2) := by decide +kernel
theorem dX4_best_52 : decode cX4_best 52 = .ok (.iconst 0, 1) := by decide +kernel
theorem dX4_best_53 : decode cX4_best 53 = .ok (.istore 5, 2) := by decide +kernel
theorem dX4_best_55 : decode cX4_best 55 = .ok (.iload 5, 2) := by decide +kernel
theorem dX4_best_57 : decode cX4_best 57 = .ok (.aload_n 0, 1) := by decide +kernel
theorem dX4_best_58 : decode cX4_best 58 = .ok (.getfield 80, 3) := by decide +kernel
theorem dX4_best_61 : decode cX4_best 61 = .ok (.if_icmp .ge 27, 3) := by decide +kernel
theorem dX4_best_64 : decode cX4_best 64 = .ok (.iload 4, 2) := by decide +kernel
theorem dX4_best_66 : decode cX4_best 66 = .ok (.aload_n 0, 1) := by decide +kernel
theorem dX4_best_67 : decode cX4_best 67 = .ok (.iload 5, 2) := by decide +kernel
theorem dX4_best_69 : decode cX4_best 69 = .ok (.aload_n 0, 1) := by decide +kernel
theorem dX4_best_70 : decode cX4_best 70 = .ok (.getfield 61, 3) := by decide +kernel
theorem dX4_best_73 : decode cX4_best 73 = .ok (.iload 5, 2) := by decide +kernel
theorem dX4_best_75 : decode cX4_best 75 = .ok (.iaload, 1) := by decide +kernel
theorem dX4_best_76 : decode cX4_best 76 = .ok (.invokevirtual 186, 3) := by decide +kernel
theorem dX4_best_79 : decode cX4_best 79 = .ok (.iadd, 1) := by decide +kernel
theorem dX4_best_80 : decode cX4_best 80 = .ok (.istore 4, 2) := by decide +kernel
theorem dX4_best_82 : decode cX4_best 82 = .ok (.iinc 5 1, 3) := by decide +kernel
theorem dX4_best_85 : decode cX4_best 85 = .ok (.goto (-30), 3) := by decide +kernel
theorem dX4_best_88 : decode cX4_best 88 = .ok (.iconst 0, 1) := by decide +kernel
theorem dX4_best_89 : decode cX4_best 89 = .ok (.istore 5, 2) := by decide +kernel
theorem dX4_best_91 : decode cX4_best 91 = .ok (.iload 5, 2) := by decide +kernel
theorem dX4_best_93 : decode cX4_best 93 = .ok (.aload_n 0, 1) := by decide +kernel
theorem dX4_best_94 : decode cX4_best 94 = .ok (.getfield 80, 3) := by decide +kernel
theorem dX4_best_97 : decode cX4_best 97 = .ok (.if_icmp .ge 29, 3) := by decide +kernel
theorem dX4_best_100 : decode cX4_best 100 = .ok (.iload 4, 2) := by decide +kernel
theorem dX4_best_102 : decode cX4_best 102 = .ok (.iload_n 2, 1) := by decide +kernel
theorem dX4_best_103 : decode cX4_best 103 = .ok (.if_icmp .le 23, 3) := by decide +kernel
theorem dX4_best_106 : decode cX4_best 106 = .ok (.aload_n 0, 1) := by decide +kernel
theorem dX4_best_107 : decode cX4_best 107 = .ok (.getfield 64, 3) := by decide +kernel
theorem dX4_best_110 : decode cX4_best 110 = .ok (.iload 5, 2) := by decide +kernel
theorem dX4_best_112 : decode cX4_best 112 = .ok (.aload_n 0, 1) := by decide +kernel
theorem dX4_best_113 : decode cX4_best 113 = .ok (.getfield 61, 3) := by decide +kernel
theorem dX4_best_116 : decode cX4_best 116 = .ok (.iload 5, 2) := by decide +kernel
theorem dX4_best_118 : decode cX4_best 118 = .ok (.iaload, 1) := by decide +kernel
theorem dX4_best_119 : decode cX4_best 119 = .ok (.iastore, 1) := by decide +kernel
theorem dX4_best_120 : decode cX4_best 120 = .ok (.iinc 5 1, 3) := by decide +kernel
theorem dX4_best_123 : decode cX4_best 123 = .ok (.goto (-32), 3) := by decide +kernel
theorem dX4_best_126 : decode cX4_best 126 = .ok (.iload 4, 2) := by decide +kernel
theorem dX4_best_128 : decode cX4_best 128 = .ok (.iload_n 2, 1) := by decide +kernel
theorem dX4_best_129 : decode cX4_best 129 = .ok (.if_icmp .le 8, 3) := by decide +kernel
theorem dX4_best_132 : decode cX4_best 132 = .ok (.iload 4, 2) := by decide +kernel
theorem dX4_best_134 : decode cX4_best 134 = .ok (.goto 4, 3) := by decide +kernel
theorem dX4_best_137 : decode cX4_best 137 = .ok (.iload_n 2, 1) := by decide +kernel
theorem dX4_best_138 : decode cX4_best 138 = .ok (.istore_n 2, 1) := by decide +kernel
theorem dX4_best_139 : decode cX4_best 139 = .ok (.aload_n 0, 1) := by decide +kernel
theorem dX4_best_140 : decode cX4_best 140 = .ok (.invokevirtual 224, 3) := by decide +kernel
theorem dX4_best_143 : decode cX4_best 143 = .ok (.istore_n 3, 1) := by decide +kernel
theorem dX4_best_144 : decode cX4_best 144 = .ok (.goto (-99), 3) := by decide +kernel
theorem dX4_best_147 : decode cX4_best 147 = .ok (.iload_n 1, 1) := by decide +kernel
theorem dX4_best_148 : decode cX4_best 148 = .ok (.iconst (-1), 1) := by decide +kernel
theorem dX4_best_149 : decode cX4_best 149 = .ok (.if_icmp .ne 7, 3) := by decide +kernel
theorem dX4_best_152 : decode cX4_best 152 = .ok (.iload_n 2, 1) := by decide +kernel
theorem dX4_best_153 : decode cX4_best 153 = .ok (.goto 9, 3) := by decide +kernel
theorem dX4_best_156 : decode cX4_best 156 = .ok (.aload_n 0, 1) := by decide +kernel
theorem dX4_best_157 : decode cX4_best 157 = .ok (.getfield 64, 3) := by decide +kernel
theorem dX4_best_160 : decode cX4_best 160 = .ok (.iload_n 1, 1) := by decide +kernel
theorem dX4_best_161 : decode cX4_best 161 = .ok (.iaload, 1) := by decide +kernel
theorem dX4_best_162 : decode cX4_best 162 = .ok (.ireturn, 1) := by decide +kernel
theorem dX4_dumb_0 : decode cX4_dumb 0 = .ok (.iconst 0, 1) := by decide +kernel
theorem dX4_dumb_1 : decode cX4_dumb 1 = .ok (.istore_n 1, 1) := by decide +kernel
theorem dX4_dumb_2 : decode cX4_dumb 2 = .ok (.iconst 0, 1) := by decide +kernel
theorem dX4_dumb_3 : decode cX4_dumb 3 = .ok (.istore_n 2, 1) := by decide +kernel
theorem dX4_dumb_4 : decode cX4_dumb 4 = .ok (.iload_n 2, 1) := by decide +kernel
theorem dX4_dumb_5 : decode cX4_dumb 5 = .ok (.aload_n 0, 1) := by decide +kernel
theorem dX4_dumb_6 : decode cX4_dumb 6 = .ok (.getfield 80, 3) := by decide +kernel
theorem dX4_dumb_9 : decode cX4_dumb 9 = .ok (.if_icmp .ge 28, 3) := by decide +kernel
theorem dX4_dumb_12 : decode cX4_dumb 12 = .ok (.iload_n 1, 1) := by decide +kernel
theorem dX4_dumb_13 : decode cX4_dumb 13 = .ok (.aload_n 0, 1) := by decide +kernel
theorem dX4_dumb_14 : decode cX4_dumb 14 = .ok (.iload_n 2, 1) := by decide +kernel
theorem dX4_dumb_15 : decode cX4_dumb 15 = .ok (.invokevirtual 183, 3) := by decide +kernel
theorem dX4_dumb_18 : decode cX4_dumb 18 = .ok (.iconst (-1), 1) := by decide +kernel
theorem dX4_dumb_19 : decode cX4_dumb 19 = .ok (.if_icmp .ne 9, 3) := by decide +kernel
theorem dX4_dumb_22 : decode cX4_dumb 22 = .ok (.iconst 1, 1) := by decide +kernel
theorem dX4_dumb_23 : decode cX4_dumb 23 = .ok (.iload_n 2, 1) := by decide +kernel
theorem dX4_dumb_24 : decode cX4_dumb 24 = .ok (.ishl, 1) := by decide +kernel
theorem dX4_dumb_25 : decode cX4_dumb 25 = .ok (.goto 4, 3) := by decide +kernel
theorem dX4_dumb_28 : decode cX4_dumb 28 = .ok (.iconst 0, 1) := by decide +kernel
theorem dX4_dumb_29 : decode cX4_dumb 29 = .ok (.ior, 1) := by decide +kernel
theorem dX4_dumb_30 : decode cX4_dumb 30 = .ok (.istore_n 1, 1) := by decide +kernel
theorem dX4_dumb_31 : decode cX4_dumb 31 = .ok (.iinc 2 1, 3) := by decide +kernel
theorem dX4_dumb_34 : decode cX4_dumb 34 = .ok (.goto (-30), 3) := by decide +kernel
theorem dX4_dumb_37 : decode cX4_dumb 37 = .ok (.iload_n 1, 1) := by decide +kernel
theorem dX4_dumb_38 : decode cX4_dumb 38 = .ok (.ireturn, 1) := by decide +kernel
theorem dX4_ringOf_0 : decode cX4_ringOf 0 = .ok (.aload_n 0, 1) := by decide +kernel
theorem dX4_ringOf_1 : decode cX4_ringOf 1 = .ok (.iload_n 1, 1) := by decide +kernel
theorem dX4_ringOf_2 : decode cX4_ringOf 2 = .ok (.invokevirtual 183, 3) := by decide +kernel
theorem dX4_ringOf_5 : decode cX4_ringOf 5 = .ok (.istore_n 2, 1) := by decide +kernel
theorem dX4_ringOf_6 : decode cX4_ringOf 6 = .ok (.iconst 1, 1) := by decide +kernel
theorem dX4_ringOf_7 : decode cX4_ringOf 7 = .ok (.istore_n 3, 1) := by decide +kernel
theorem dX4_ringOf_8 : decode cX4_ringOf 8 = .ok (.iload_n 2, 1) := by decide +kernel
theorem dX4_ringOf_9 : decode cX4_ringOf 9 = .ok (.iconst (-1), 1) := by decide +kernel
theorem dX4_ringOf_10 : decode cX4_ringOf 10 = .ok (.if_icmp .eq 20, 3) := by decide +kernel
theorem dX4_ringOf_13 : decode cX4_ringOf 13 = .ok (.iload_n 2, 1) := by decide +kernel
theorem dX4_ringOf_14 : decode cX4_ringOf 14 = .ok (.iload_n 1, 1) := by decide +kernel
theorem dX4_ringOf_15 : decode cX4_ringOf 15 = .ok (.if_icmp .eq 15, 3) := by decide +kernel
theorem dX4_ringOf_18 : decode cX4_ringOf 18 = .ok (.aload_n 0, 1) := by decide +kernel
theorem dX4_ringOf_19 : decode cX4_ringOf 19 = .ok (.iload_n 2, 1) := by decide +kernel
theorem dX4_ringOf_20 : decode cX4_ringOf 20 = .ok (.invokevirtual 183, 3) := by decide +kernel
theorem dX4_ringOf_23 : decode cX4_ringOf 23 = .ok (.istore_n 2, 1) := by decide +kernel
theorem dX4_ringOf_24 : decode cX4_ringOf 24 = .ok (.iinc 3 1, 3) := by decide +kernel
theorem dX4_ringOf_27 : decode cX4_ringOf 27 = .ok (.goto (-19), 3) := by decide +kernel
theorem dX4_ringOf_30 : decode cX4_ringOf 30 = .ok (.iload_n 2, 1) := by decide +kernel
theorem dX4_ringOf_31 : decode cX4_ringOf 31 = .ok (.iconst (-1), 1) := by decide +kernel
theorem dX4_ringOf_32 : decode cX4_ringOf 32 = .ok (.if_icmp .ne 7, 3) := by decide +kernel
theorem dX4_ringOf_35 : decode cX4_ringOf 35 = .ok (.iconst 0, 1) := by decide +kernel
theorem dX4_ringOf_36 : decode cX4_ringOf 36 = .ok (.goto 4, 3) := by decide +kernel
theorem dX4_ringOf_39 : decode cX4_ringOf 39 = .ok (.iload_n 3, 1) := by decide +kernel
theorem dX4_ringOf_40 : decode cX4_ringOf 40 = .ok (.ireturn, 1) := by decide +kernel
theorem dX4_own_0 : decode cX4_own 0 = .ok (.iconst 0, 1) := by decide +kernel
theorem dX4_own_1 : decode cX4_own 1 = .ok (.istore_n 1, 1) := by decide +kernel
theorem dX4_own_2 : decode cX4_own 2 = .ok (.iconst 0, 1) := by decide +kernel
theorem dX4_own_3 : decode cX4_own 3 = .ok (.istore_n 2, 1) := by decide +kernel
theorem dX4_own_4 : decode cX4_own 4 = .ok (.iload_n 2, 1) := by decide +kernel
theorem dX4_own_5 : decode cX4_own 5 = .ok (.aload_n 0, 1) := by decide +kernel
theorem dX4_own_6 : decode cX4_own 6 = .ok (.getfield 80, 3) := by decide +kernel
theorem dX4_own_9 : decode cX4_own 9 = .ok (.if_icmp .ge 27, 3) := by decide +kernel
theorem dX4_own_12 : decode cX4_own 12 = .ok (.iload_n 1, 1) := by decide +kernel
theorem dX4_own_13 : decode cX4_own 13 = .ok (.aload_n 0, 1) := by decide +kernel
theorem dX4_own_14 : decode cX4_own 14 = .ok (.getfield 22, 3) := by decide +kernel
theorem dX4_own_17 : decode cX4_own 17 = .ok (.iload_n 2, 1) := by decide +kernel
theorem dX4_own_18 : decode cX4_own 18 = .ok (.iaload, 1) := by decide +kernel
theorem dX4_own_19 : decode cX4_own 19 = .ok (.iload_n 2, 1) := by decide +kernel
theorem dX4_own_20 : decode cX4_own 20 = .ok (.if_icmp .ne 7, 3) := by decide +kernel
theorem dX4_own_23 : decode cX4_own 23 = .ok (.iconst 0, 1) := by decide +kernel
theorem dX4_own_24 : decode cX4_own 24 = .ok (.goto 4, 3) := by decide +kernel
theorem dX4_own_27 : decode cX4_own 27 = .ok (.iconst 1, 1) := by decide +kernel
theorem dX4_own_28 : decode cX4_own 28 = .ok (.iadd, 1) := by decide +kernel
theorem dX4_own_29 : decode cX4_own 29 = .ok (.istore_n 1, 1) := by decide +kernel
theorem dX4_own_30 : decode cX4_own 30 = .ok (.iinc 2 1, 3) := by decide +kernel
theorem dX4_own_33 : decode cX4_own 33 = .ok (.goto (-29), 3) := by decide +kernel
theorem dX4_own_36 : decode cX4_own 36 = .ok (.iconst 0, 1) := by decide +kernel
theorem dX4_own_37 : decode cX4_own 37 = .ok (.istore_n 2, 1) := by decide +kernel
theorem dX4_own_38 : decode cX4_own 38 = .ok (.iload_n 2, 1) := by decide +kernel
theorem dX4_own_39 : decode cX4_own 39 = .ok (.aload_n 0, 1) := by decide +kernel
theorem dX4_own_40 : decode cX4_own 40 = .ok (.getfield 80, 3) := by decide +kernel
theorem dX4_own_43 : decode cX4_own 43 = .ok (.if_icmp .ge 91, 3) := by decide +kernel
theorem dX4_own_46 : decode cX4_own 46 = .ok (.aload_n 0, 1) := by decide +kernel
theorem dX4_own_47 : decode cX4_own 47 = .ok (.iload_n 2, 1) := by decide +kernel
theorem dX4_own_48 : decode cX4_own 48 = .ok (.invokevirtual 227, 3) := by decide +kernel
theorem dX4_own_51 : decode cX4_own 51 = .ok (.istore_n 3, 1) := by decide +kernel
theorem dX4_own_52 : decode cX4_own 52 = .ok (.iload_n 3, 1) := by decide +kernel
theorem dX4_own_53 : decode cX4_own 53 = .ok (.iconst 1, 1) := by decide +kernel
theorem dX4_own_54 : decode cX4_own 54 = .ok (.if_icmp .le 11, 3) := by decide +kernel
theorem dX4_own_57 : decode cX4_own 57 = .ok (.aload_n 0, 1) := by decide +kernel
theorem dX4_own_58 : decode cX4_own 58 = .ok (.iload_n 2, 1) := by decide +kernel
theorem dX4_own_59 : decode cX4_own 59 = .ok (.invokevirtual 183, 3) := by decide +kernel
theorem dX4_own_62 : decode cX4_own 62 = .ok (.goto 4, 3) := by decide +kernel
theorem dX4_own_65 : decode cX4_own 65 = .ok (.iload_n 2, 1) := by decide +kernel
theorem dX4_own_66 : decode cX4_own 66 = .ok (.istore 4, 2) := by decide +kernel
theorem dX4_own_68 : decode cX4_own 68 = .ok (.iload_n 3, 1) := by decide +kernel
theorem dX4_own_69 : decode cX4_own 69 = .ok (.iconst 1, 1) := by decide +kernel
theorem dX4_own_70 : decode cX4_own 70 = .ok (.if_icmp .le 7, 3) := by decide +kernel
theorem dX4_own_73 : decode cX4_own 73 = .ok (.iconst 1, 1) := by decide +kernel
theorem dX4_own_74 : decode cX4_own 74 = .ok (.goto 4, 3) := by decide +kernel
theorem dX4_own_77 : decode cX4_own 77 = .ok (.iconst 0, 1) := by decide +kernel
theorem dX4_own_78 : decode cX4_own 78 = .ok (.istore 5, 2) := by decide +kernel
theorem dX4_own_80 : decode cX4_own 80 = .ok (.iload 4, 2) := by decide +kernel
theorem dX4_own_82 : decode cX4_own 82 = .ok (.iload_n 2, 1) := by decide +kernel
theorem dX4_own_83 : decode cX4_own 83 = .ok (.if_icmp .eq 32, 3) := by decide +kernel
theorem dX4_own_86 : decode cX4_own 86 = .ok (.iload 5, 2) := by decide +kernel
theorem dX4_own_88 : decode cX4_own 88 = .ok (.ifCond .eq 13, 3) := by decide +kernel
theorem dX4_own_91 : decode cX4_own 91 = .ok (.iload 4, 2) := by decide +kernel
theorem dX4_own_93 : decode cX4_own 93 = .ok (.iload_n 2, 1) := by decide +kernel
theorem dX4_own_94 : decode cX4_own 94 = .ok (.if_icmp .le 7, 3) := by decide +kernel
theorem dX4_own_97 : decode cX4_own 97 = .ok (.iconst 1, 1) := by decide +kernel
theorem dX4_own_98 : decode cX4_own 98 = .ok (.goto 4, 3) := by decide +kernel
theorem dX4_own_101 : decode cX4_own 101 = .ok (.iconst 0, 1) := by decide +kernel
theorem dX4_own_102 : decode cX4_own 102 = .ok (.istore 5, 2) := by decide +kernel
theorem dX4_own_104 : decode cX4_own 104 = .ok (.aload_n 0, 1) := by decide +kernel
theorem dX4_own_105 : decode cX4_own 105 = .ok (.iload 4, 2) := by decide +kernel
theorem dX4_own_107 : decode cX4_own 107 = .ok (.invokevirtual 183, 3) := by decide +kernel
theorem dX4_own_110 : decode cX4_own 110 = .ok (.istore 4, 2) := by decide +kernel
theorem dX4_own_112 : decode cX4_own 112 = .ok (.goto (-32), 3) := by decide +kernel
theorem dX4_own_115 : decode cX4_own 115 = .ok (.iload_n 1, 1) := by decide +kernel
theorem dX4_own_116 : decode cX4_own 116 = .ok (.iload 5, 2) := by decide +kernel
theorem dX4_own_118 : decode cX4_own 118 = .ok (.ifCond .eq 7, 3) := by decide +kernel
theorem dX4_own_121 : decode cX4_own 121 = .ok (.iconst 1, 1) := by decide +kernel
theorem dX4_own_122 : decode cX4_own 122 = .ok (.goto 4, 3) := by decide +kernel
theorem dX4_own_125 : decode cX4_own 125 = .ok (.iconst 0, 1) := by decide +kernel
theorem dX4_own_126 : decode cX4_own 126 = .ok (.iadd, 1) := by decide +kernel
theorem dX4_own_127 : decode cX4_own 127 = .ok (.istore_n 1, 1) := by decide +kernel
theorem dX4_own_128 : decode cX4_own 128 = .ok (.iinc 2 1, 3) := by decide +kernel
theorem dX4_own_131 : decode cX4_own 131 = .ok (.goto (-93), 3) := by decide +kernel
theorem dX4_own_134 : decode cX4_own 134 = .ok (.iload_n 1, 1) := by decide +kernel
theorem dX4_own_135 : decode cX4_own 135 = .ok (.ireturn, 1) := by decide +kernel
theorem dX4_ring_0 : decode cX4_ring 0 = .ok (.aload_n 0, 1) := by decide +kernel
theorem dX4_ring_1 : decode cX4_ring 1 = .ok (.iload_n 1, 1) := by decide +kernel
theorem dX4_ring_2 : decode cX4_ring 2 = .ok (.invokevirtual 203, 3) := by decide +kernel
theorem dX4_ring_5 : decode cX4_ring 5 = .ok (.ifCond .eq 11, 3) := by decide +kernel
theorem dX4_ring_8 : decode cX4_ring 8 = .ok (.aload_n 0, 1) := by decide +kernel
theorem dX4_ring_9 : decode cX4_ring 9 = .ok (.iload_n 1, 1) := by decide +kernel
theorem dX4_ring_10 : decode cX4_ring 10 = .ok (.invokevirtual 227, 3) := by decide +kernel
theorem dX4_ring_13 : decode cX4_ring 13 = .ok (.goto 7, 3) := by decide +kernel
theorem dX4_ring_16 : decode cX4_ring 16 = .ok (.aload_n 0, 1) := by decide +kernel
theorem dX4_ring_17 : decode cX4_ring 17 = .ok (.invokevirtual 97, 3) := by decide +kernel
theorem dX4_ring_20 : decode cX4_ring 20 = .ok (.ireturn, 1) := by decide +kernel
theorem dX4_isSwap_0 : decode cX4_isSwap 0 = .ok (.aload_n 0, 1) := by decide +kernel
theorem dX4_isSwap_1 : decode cX4_isSwap 1 = .ok (.iload_n 1, 1) := by decide +kernel
theorem dX4_isSwap_2 : decode cX4_isSwap 2 = .ok (.invokevirtual 183, 3) := by decide +kernel
theorem dX4_isSwap_5 : decode cX4_isSwap 5 = .ok (.istore_n 3, 1) := by decide +kernel
theorem dX4_isSwap_6 : decode cX4_isSwap 6 = .ok (.aload_n 0, 1) := by decide +kernel
theorem dX4_isSwap_7 : decode cX4_isSwap 7 = .ok (.iload_n 2, 1) := by decide +kernel
theorem dX4_isSwap_8 : decode cX4_isSwap 8 = .ok (.invokevirtual 183, 3) := by decide +kernel
theorem dX4_isSwap_11 : decode cX4_isSwap 11 = .ok (.istore 4, 2) := by decide +kernel
theorem dX4_isSwap_13 : decode cX4_isSwap 13 = .ok (.iload_n 3, 1) := by decide +kernel
theorem dX4_isSwap_14 : decode cX4_isSwap 14 = .ok (.iconst (-1), 1) := by decide +kernel
theorem dX4_isSwap_15 : decode cX4_isSwap 15 = .ok (.if_icmp .eq 45, 3) := by decide +kernel
theorem dX4_isSwap_18 : decode cX4_isSwap 18 = .ok (.iload 4, 2) := by decide +kernel
theorem dX4_isSwap_20 : decode cX4_isSwap 20 = .ok (.iconst (-1), 1) := by decide +kernel
theorem dX4_isSwap_21 : decode cX4_isSwap 21 = .ok (.if_icmp .eq 39, 3) := by decide +kernel
theorem dX4_isSwap_24 : decode cX4_isSwap 24 = .ok (.aload_n 0, 1) := by decide +kernel
theorem dX4_isSwap_25 : decode cX4_isSwap 25 = .ok (.iload_n 1, 1) := by decide +kernel
theorem dX4_isSwap_26 : decode cX4_isSwap 26 = .ok (.iload 4, 2) := by decide +kernel
theorem dX4_isSwap_28 : decode cX4_isSwap 28 = .ok (.invokevirtual 186, 3) := by decide +kernel
theorem dX4_isSwap_31 : decode cX4_isSwap 31 = .ok (.aload_n 0, 1) := by decide +kernel
theorem dX4_isSwap_32 : decode cX4_isSwap 32 = .ok (.iload_n 1, 1) := by decide +kernel
theorem dX4_isSwap_33 : decode cX4_isSwap 33 = .ok (.iload_n 3, 1) := by decide +kernel
theorem dX4_isSwap_34 : decode cX4_isSwap 34 = .ok (.invokevirtual 186, 3) := by decide +kernel
theorem dX4_isSwap_37 : decode cX4_isSwap 37 = .ok (.if_icmp .le 23, 3) := by decide +kernel
theorem dX4_isSwap_40 : decode cX4_isSwap 40 = .ok (.aload_n 0, 1) := by decide +kernel
theorem dX4_isSwap_41 : decode cX4_isSwap 41 = .ok (.iload_n 2, 1) := by decide +kernel
theorem dX4_isSwap_42 : decode cX4_isSwap 42 = .ok (.iload_n 3, 1) := by decide +kernel
theorem dX4_isSwap_43 : decode cX4_isSwap 43 = .ok (.invokevirtual 186, 3) := by decide +kernel
theorem dX4_isSwap_46 : decode cX4_isSwap 46 = .ok (.aload_n 0, 1) := by decide +kernel
theorem dX4_isSwap_47 : decode cX4_isSwap 47 = .ok (.iload_n 2, 1) := by decide +kernel
theorem dX4_isSwap_48 : decode cX4_isSwap 48 = .ok (.iload 4, 2) := by decide +kernel
theorem dX4_isSwap_50 : decode cX4_isSwap 50 = .ok (.invokevirtual 186, 3) := by decide +kernel
theorem dX4_isSwap_53 : decode cX4_isSwap 53 = .ok (.if_icmp .le 7, 3) := by decide +kernel
theorem dX4_isSwap_56 : decode cX4_isSwap 56 = .ok (.iconst 1, 1) := by decide +kernel
theorem dX4_isSwap_57 : decode cX4_isSwap 57 = .ok (.goto 4, 3) := by decide +kernel
theorem dX4_isSwap_60 : decode cX4_isSwap 60 = .ok (.iconst 0, 1) := by decide +kernel
theorem dX4_isSwap_61 : decode cX4_isSwap 61 = .ok (.ireturn, 1) := by decide +kernel
theorem dX4_swaps_0 : decode cX4_swaps 0 = .ok (.iload_n 1, 1) := by decide +kernel
theorem dX4_swaps_1 : decode cX4_swaps 1 = .ok (.iconst (-1), 1) := by decide +kernel
theorem dX4_swaps_2 : decode cX4_swaps 2 = .ok (.if_icmp .ge 8, 3) := by decide +kernel
theorem dX4_swaps_5 : decode cX4_swaps 5 = .ok (.aload_n 0, 1) := by decide +kernel
theorem dX4_swaps_6 : decode cX4_swaps 6 = .ok (.invokevirtual 206, 3) := by decide +kernel
theorem dX4_swaps_9 : decode cX4_swaps 9 = .ok (.ireturn, 1) := by decide +kernel
theorem dX4_swaps_10 : decode cX4_swaps 10 = .ok (.iconst 0, 1) := by decide +kernel
theorem dX4_swaps_11 : decode cX4_swaps 11 = .ok (.istore_n 2, 1) := by decide +kernel
theorem dX4_swaps_12 : decode cX4_swaps 12 = .ok (.bipush (-5), 2) := by decide +kernel
theorem dX4_swaps_14 : decode cX4_swaps 14 = .ok (.istore_n 3, 1) := by decide +kernel
theorem dX4_swaps_15 : decode cX4_swaps 15 = .ok (.iconst 0, 1) := by decide +kernel
theorem dX4_swaps_16 : decode cX4_swaps 16 = .ok (.istore 4, 2) := by decide +kernel
theorem dX4_swaps_18 : decode cX4_swaps 18 = .ok (.iload 4, 2) := by decide +kernel
theorem dX4_swaps_20 : decode cX4_swaps 20 = .ok (.aload_n 0, 1) := by decide +kernel
theorem dX4_swaps_21 : decode cX4_swaps 21 = .ok (.getfield 80, 3) := by decide +kernel
theorem dX4_swaps_24 : decode cX4_swaps 24 = .ok (.if_icmp .ge 62, 3) := by decide +kernel
theorem dX4_swaps_27 : decode cX4_swaps 27 = .ok (.iload 4, 2) := by decide +kernel
theorem dX4_swaps_29 : decode cX4_swaps 29 = .ok (.iconst 1, 1) := by decide +kernel
theorem dX4_swaps_30 : decode cX4_swaps 30 = .ok (.iadd, 1) := by decide +kernel
theorem dX4_swaps_31 : decode cX4_swaps 31 = .ok (.istore 5, 2) := by decide +kernel
theorem dX4_swaps_33 : decode cX4_swaps 33 = .ok (.iload 5, 2) := by decide +kernel
theorem dX4_swaps_35 : decode cX4_swaps 35 = .ok (.aload_n 0, 1) := by decide +kernel
theorem dX4_swaps_36 : decode cX4_swaps 36 = .ok (.getfield 80, 3) := by decide +kernel
theorem dX4_swaps_39 : decode cX4_swaps 39 = .ok (.if_icmp .ge 41, 3) := by decide +kernel
theorem dX4_swaps_42 : decode cX4_swaps 42 = .ok (.aload_n 0, 1) := by decide +kernel
theorem dX4_swaps_43 : decode cX4_swaps 43 = .ok (.iload 4, 2) := by decide +kernel
theorem dX4_swaps_45 : decode cX4_swaps 45 = .ok (.iload 5, 2) := by decide +kernel
theorem dX4_swaps_47 : decode cX4_swaps 47 = .ok (.invokevirtual 230, 3) := by decide +kernel
theorem dX4_swaps_50 : decode cX4_swaps 50 = .ok (.ifCond .eq 24, 3) := by decide +kernel
theorem dX4_swaps_53 : decode cX4_swaps 53 = .ok (.iload_n 2, 1) := by decide +kernel
theorem dX4_swaps_54 : decode cX4_swaps 54 = .ok (.iload_n 1, 1) := by decide +kernel
theorem dX4_swaps_55 : decode cX4_swaps 55 = .ok (.if_icmp .ne 14, 3) := by decide +kernel
theorem dX4_swaps_58 : decode cX4_swaps 58 = .ok (.bipush 10, 2) := by decide +kernel
theorem dX4_swaps_60 : decode cX4_swaps 60 = .ok (.iload 4, 2) := by decide +kernel
theorem dX4_swaps_62 : decode cX4_swaps 62 = .ok (.imul, 1) := by decide +kernel
theorem dX4_swaps_63 : decode cX4_swaps 63 = .ok (.iload 5, 2) := by decide +kernel
theorem dX4_swaps_65 : decode cX4_swaps 65 = .ok (.iadd, 1) := by decide +kernel
theorem dX4_swaps_66 : decode cX4_swaps 66 = .ok (.goto 4, 3) := by decide +kernel
theorem dX4_swaps_69 : decode cX4_swaps 69 = .ok (.iload_n 3, 1) := by decide +kernel
theorem dX4_swaps_70 : decode cX4_swaps 70 = .ok (.istore_n 3, 1) := by decide +kernel
theorem dX4_swaps_71 : decode cX4_swaps 71 = .ok (.iinc 2 1, 3) := by decide +kernel
theorem dX4_swaps_74 : decode cX4_swaps 74 = .ok (.iinc 5 1, 3) := by decide +kernel
theorem dX4_swaps_77 : decode cX4_swaps 77 = .ok (.goto (-44), 3) := by decide +kernel
theorem dX4_swaps_80 : decode cX4_swaps 80 = .ok (.iinc 4 1, 3) := by decide +kernel
theorem dX4_swaps_83 : decode cX4_swaps 83 = .ok (.goto (-65), 3) := by decide +kernel
theorem dX4_swaps_86 : decode cX4_swaps 86 = .ok (.iload_n 1, 1) := by decide +kernel
theorem dX4_swaps_87 : decode cX4_swaps 87 = .ok (.iconst (-1), 1) := by decide +kernel
theorem dX4_swaps_88 : decode cX4_swaps 88 = .ok (.if_icmp .ne 7, 3) := by decide +kernel
theorem dX4_swaps_91 : decode cX4_swaps 91 = .ok (.iload_n 2, 1) := by decide +kernel
theorem dX4_swaps_92 : decode cX4_swaps 92 = .ok (.goto 4, 3) := by decide +kernel
theorem dX4_swaps_95 : decode cX4_swaps 95 = .ok (.iload_n 3, 1) := by decide +kernel
theorem dX4_swaps_96 : decode cX4_swaps 96 = .ok (.ireturn, 1) := by decide +kernel
theorem dX4_firstSwap_0 : decode cX4_firstSwap 0 = .ok (.iconst 0, 1) := by decide +kernel
theorem dX4_firstSwap_1 : decode cX4_firstSwap 1 = .ok (.istore_n 1, 1) := by decide +kernel
theorem dX4_firstSwap_2 : decode cX4_firstSwap 2 = .ok (.iload_n 1, 1) := by decide +kernel
theorem dX4_firstSwap_3 : decode cX4_firstSwap 3 = .ok (.aload_n 0, 1) := by decide +kernel
theorem dX4_firstSwap_4 : decode cX4_firstSwap 4 = .ok (.getfield 80, 3) := by decide +kernel
theorem dX4_firstSwap_7 : decode cX4_firstSwap 7 = .ok (.if_icmp .ge 43, 3) := by decide +kernel
theorem dX4_firstSwap_10 : decode cX4_firstSwap 10 = .ok (.iload_n 1, 1) := by decide +kernel
theorem dX4_firstSwap_11 : decode cX4_firstSwap 11 = .ok (.iconst 1, 1) := by decide +kernel
theorem dX4_firstSwap_12 : decode cX4_firstSwap 12 = .ok (.iadd, 1) := by decide +kernel
theorem dX4_firstSwap_13 : decode cX4_firstSwap 13 = .ok (.istore_n 2, 1) := by decide +kernel
theorem dX4_firstSwap_14 : decode cX4_firstSwap 14 = .ok (.iload_n 2, 1) := by decide +kernel
theorem dX4_firstSwap_15 : decode cX4_firstSwap 15 = .ok (.aload_n 0, 1) := by decide +kernel
theorem dX4_firstSwap_16 : decode cX4_firstSwap 16 = .ok (.getfield 80, 3) := by decide +kernel
theorem dX4_firstSwap_19 : decode cX4_firstSwap 19 = .ok (.if_icmp .ge 25, 3) := by decide +kernel
theorem dX4_firstSwap_22 : decode cX4_firstSwap 22 = .ok (.aload_n 0, 1) := by decide +kernel
theorem dX4_firstSwap_23 : decode cX4_firstSwap 23 = .ok (.iload_n 1, 1) := by decide +kernel
theorem dX4_firstSwap_24 : decode cX4_firstSwap 24 = .ok (.iload_n 2, 1) := by decide +kernel
theorem dX4_firstSwap_25 : decode cX4_firstSwap 25 = .ok (.invokevirtual 230, 3) := by decide +kernel
theorem dX4_firstSwap_28 : decode cX4_firstSwap 28 = .ok (.ifCond .eq 10, 3) := by decide +kernel
theorem dX4_firstSwap_31 : decode cX4_firstSwap 31 = .ok (.bipush 10, 2) := by decide +kernel
theorem dX4_firstSwap_33 : decode cX4_firstSwap 33 = .ok (.iload_n 1, 1) := by decide +kernel
theorem dX4_firstSwap_34 : decode cX4_firstSwap 34 = .ok (.imul, 1) := by decide +kernel
theorem dX4_firstSwap_35 : decode cX4_firstSwap 35 = .ok (.iload_n 2, 1) := by decide +kernel
theorem dX4_firstSwap_36 : decode cX4_firstSwap 36 = .ok (.iadd, 1) := by decide +kernel
theorem dX4_firstSwap_37 : decode cX4_firstSwap 37 = .ok (.ireturn, 1) := by decide +kernel
theorem dX4_firstSwap_38 : decode cX4_firstSwap 38 = .ok (.iinc 2 1, 3) := by decide +kernel
theorem dX4_firstSwap_41 : decode cX4_firstSwap 41 = .ok (.goto (-27), 3) := by decide +kernel
theorem dX4_firstSwap_44 : decode cX4_firstSwap 44 = .ok (.iinc 1 1, 3) := by decide +kernel
theorem dX4_firstSwap_47 : decode cX4_firstSwap 47 = .ok (.goto (-45), 3) := by decide +kernel
theorem dX4_firstSwap_50 : decode cX4_firstSwap 50 = .ok (.iconst (-1), 1) := by decide +kernel
theorem dX4_firstSwap_51 : decode cX4_firstSwap 51 = .ok (.ireturn, 1) := by decide +kernel
theorem dX4_steps_0 : decode cX4_steps 0 = .ok (.aload_n 0, 1) := by decide +kernel
theorem dX4_steps_1 : decode cX4_steps 1 = .ok (.invokevirtual 233, 3) := by decide +kernel
theorem dX4_steps_4 : decode cX4_steps 4 = .ok (.iconst 0, 1) := by decide +kernel
theorem dX4_steps_5 : decode cX4_steps 5 = .ok (.istore_n 1, 1) := by decide +kernel
theorem dX4_steps_6 : decode cX4_steps 6 = .ok (.aload_n 0, 1) := by decide +kernel
theorem dX4_steps_7 : decode cX4_steps 7 = .ok (.invokevirtual 236, 3) := by decide +kernel
theorem dX4_steps_10 : decode cX4_steps 10 = .ok (.istore_n 2, 1) := by decide +kernel
theorem dX4_steps_11 : decode cX4_steps 11 = .ok (.iload_n 1, 1) := by decide +kernel
theorem dX4_steps_12 : decode cX4_steps 12 = .ok (.bipush 60, 2) := by decide +kernel
theorem dX4_steps_14 : decode cX4_steps 14 = .ok (.if_icmp .ge 59, 3) := by decide +kernel
theorem dX4_steps_17 : decode cX4_steps 17 = .ok (.iload_n 2, 1) := by decide +kernel
theorem dX4_steps_18 : decode cX4_steps 18 = .ok (.iconst (-1), 1) := by decide +kernel
theorem dX4_steps_19 : decode cX4_steps 19 = .ok (.if_icmp .eq 54, 3) := by decide +kernel
theorem dX4_steps_22 : decode cX4_steps 22 = .ok (.aload_n 0, 1) := by decide +kernel
theorem dX4_steps_23 : decode cX4_steps 23 = .ok (.iload_n 2, 1) := by decide +kernel
theorem dX4_steps_24 : decode cX4_steps 24 = .ok (.bipush 10, 2) := by decide +kernel
theorem dX4_steps_26 : decode cX4_steps 26 = .ok (.idiv, 1) := by decide +kernel
theorem dX4_steps_27 : decode cX4_steps 27 = .ok (.invokevirtual 183, 3) := by decide +kernel
theorem dX4_steps_30 : decode cX4_steps 30 = .ok (.istore_n 3, 1) := by decide +kernel
theorem dX4_steps_31 : decode cX4_steps 31 = .ok (.aload_n 0, 1) := by decide +kernel
theorem dX4_steps_32 : decode cX4_steps 32 = .ok (.iload_n 2, 1) := by decide +kernel
theorem dX4_steps_33 : decode cX4_steps 33 = .ok (.bipush 10, 2) := by decide +kernel
theorem dX4_steps_35 : decode cX4_steps 35 = .ok (.irem, 1) := by decide +kernel
theorem dX4_steps_36 : decode cX4_steps 36 = .ok (.invokevirtual 183, 3) := by decide +kernel
theorem dX4_steps_39 : decode cX4_steps 39 = .ok (.istore 4, 2) := by decide +kernel
theorem dX4_steps_41 : decode cX4_steps 41 = .ok (.aload_n 0, 1) := by decide +kernel
theorem dX4_steps_42 : decode cX4_steps 42 = .ok (.getfield 22, 3) := by decide +kernel
theorem dX4_steps_45 : decode cX4_steps 45 = .ok (.iload_n 3, 1) := by decide +kernel
theorem dX4_steps_46 : decode cX4_steps 46 = .ok (.iload_n 2, 1) := by decide +kernel
theorem dX4_steps_47 : decode cX4_steps 47 = .ok (.bipush 10, 2) := by decide +kernel
theorem dX4_steps_49 : decode cX4_steps 49 = .ok (.irem, 1) := by decide +kernel
theorem dX4_steps_50 : decode cX4_steps 50 = .ok (.iastore, 1) := by decide +kernel
theorem dX4_steps_51 : decode cX4_steps 51 = .ok (.aload_n 0, 1) := by decide +kernel
theorem dX4_steps_52 : decode cX4_steps 52 = .ok (.getfield 22, 3) := by decide +kernel
theorem dX4_steps_55 : decode cX4_steps 55 = .ok (.iload 4, 2) := by decide +kernel
theorem dX4_steps_57 : decode cX4_steps 57 = .ok (.iload_n 2, 1) := by decide +kernel
theorem dX4_steps_58 : decode cX4_steps 58 = .ok (.bipush 10, 2) := by decide +kernel
theorem dX4_steps_60 : decode cX4_steps 60 = .ok (.idiv, 1) := by decide +kernel
theorem dX4_steps_61 : decode cX4_steps 61 = .ok (.iastore, 1) := by decide +kernel
theorem dX4_steps_62 : decode cX4_steps 62 = .ok (.iinc 1 1, 3) := by decide +kernel
theorem dX4_steps_65 : decode cX4_steps 65 = .ok (.aload_n 0, 1) := by decide +kernel
theorem dX4_steps_66 : decode cX4_steps 66 = .ok (.invokevirtual 236, 3) := by decide +kernel
theorem dX4_steps_69 : decode cX4_steps 69 = .ok (.istore_n 2, 1) := by decide +kernel
theorem dX4_steps_70 : decode cX4_steps 70 = .ok (.goto (-59), 3) := by decide +kernel
theorem dX4_steps_73 : decode cX4_steps 73 = .ok (.aload_n 0, 1) := by decide +kernel
theorem dX4_steps_74 : decode cX4_steps 74 = .ok (.invokevirtual 239, 3) := by decide +kernel
theorem dX4_steps_77 : decode cX4_steps 77 = .ok (.iload_n 1, 1) := by decide +kernel
theorem dX4_steps_78 : decode cX4_steps 78 = .ok (.ireturn, 1) := by decide +kernel
theorem dX4_worst_0 : decode cX4_worst 0 = .ok (.iload_n 1, 1) := by decide +kernel
theorem dX4_worst_1 : decode cX4_worst 1 = .ok (.iconst 0, 1) := by decide +kernel
theorem dX4_worst_2 : decode cX4_worst 2 = .ok (.iconst 1, 1) := by decide +kernel
theorem dX4_worst_3 : decode cX4_worst 3 = .ok (.invokestatic 93, 3) := by decide +kernel
theorem dX4_worst_6 : decode cX4_worst 6 = .ok (.ifCond .ne 8, 3) := by decide +kernel
theorem dX4_worst_9 : decode cX4_worst 9 = .ok (.aload_n 0, 1) := by decide +kernel
theorem dX4_worst_10 : decode cX4_worst 10 = .ok (.invokevirtual 97, 3) := by decide +kernel
theorem dX4_worst_13 : decode cX4_worst 13 = .ok (.ireturn, 1) := by decide +kernel
theorem dX4_worst_14 : decode cX4_worst 14 = .ok (.iconst (-1), 1) := by decide +kernel
theorem dX4_worst_15 : decode cX4_worst 15 = .ok (.istore_n 2, 1) := by decide +kernel
theorem dX4_worst_16 : decode cX4_worst 16 = .ok (.iconst (-1), 1) := by decide +kernel
theorem dX4_worst_17 : decode cX4_worst 17 = .ok (.istore_n 3, 1) := by decide +kernel
theorem dX4_worst_18 : decode cX4_worst 18 = .ok (.iconst 0, 1) := by decide +kernel
theorem dX4_worst_19 : decode cX4_worst 19 = .ok (.istore 4, 2) := by decide +kernel
theorem dX4_worst_21 : decode cX4_worst 21 = .ok (.iload 4, 2) := by decide +kernel
theorem dX4_worst_23 : decode cX4_worst 23 = .ok (.aload_n 0, 1) := by decide +kernel
theorem dX4_worst_24 : decode cX4_worst 24 = .ok (.getfield 80, 3) := by decide +kernel
theorem dX4_worst_27 : decode cX4_worst 27 = .ok (.if_icmp .ge 59, 3) := by decide +kernel
theorem dX4_worst_30 : decode cX4_worst 30 = .ok (.aload_n 0, 1) := by decide +kernel
theorem dX4_worst_31 : decode cX4_worst 31 = .ok (.iload 4, 2) := by decide +kernel
theorem dX4_worst_33 : decode cX4_worst 33 = .ok (.invokevirtual 221, 3) := by decide +kernel
theorem dX4_worst_36 : decode cX4_worst 36 = .ok (.istore 5, 2) := by decide +kernel
theorem dX4_worst_38 : decode cX4_worst 38 = .ok (.iload_n 2, 1) := by decide +kernel
theorem dX4_worst_39 : decode cX4_worst 39 = .ok (.iconst (-1), 1) := by decide +kernel
theorem dX4_worst_40 : decode cX4_worst 40 = .ok (.if_icmp .eq 9, 3) := by decide +kernel
theorem dX4_worst_43 : decode cX4_worst 43 = .ok (.iload 5, 2) := by decide +kernel
theorem dX4_worst_45 : decode cX4_worst 45 = .ok (.iload_n 3, 1) := by decide +kernel
theorem dX4_worst_46 : decode cX4_worst 46 = .ok (.if_icmp .ge 7, 3) := by decide +kernel
theorem dX4_worst_49 : decode cX4_worst 49 = .ok (.iconst 1, 1) := by decide +kernel
theorem dX4_worst_50 : decode cX4_worst 50 = .ok (.goto 4, 3) := by decide +kernel
theorem dX4_worst_53 : decode cX4_worst 53 = .ok (.iconst 0, 1) := by decide +kernel
theorem dX4_worst_54 : decode cX4_worst 54 = .ok (.istore 6, 2) := by decide +kernel
theorem dX4_worst_56 : decode cX4_worst 56 = .ok (.iload 6, 2) := by decide +kernel
theorem dX4_worst_58 : decode cX4_worst 58 = .ok (.ifCond .eq 8, 3) := by decide +kernel
theorem dX4_worst_61 : decode cX4_worst 61 = .ok (.iload 4, 2) := by decide +kernel
theorem dX4_worst_63 : decode cX4_worst 63 = .ok (.goto 4, 3) := by decide +kernel
theorem dX4_worst_66 : decode cX4_worst 66 = .ok (.iload_n 2, 1) := by decide +kernel
theorem dX4_worst_67 : decode cX4_worst 67 = .ok (.istore_n 2, 1) := by decide +kernel
theorem dX4_worst_68 : decode cX4_worst 68 = .ok (.iload 6, 2) := by decide +kernel
theorem dX4_worst_70 : decode cX4_worst 70 = .ok (.ifCond .eq 8, 3) := by decide +kernel
theorem dX4_worst_73 : decode cX4_worst 73 = .ok (.iload 5, 2) := by decide +kernel
theorem dX4_worst_75 : decode cX4_worst 75 = .ok (.goto 4, 3) := by decide +kernel
theorem dX4_worst_78 : decode cX4_worst 78 = .ok (.iload_n 3, 1) := by decide +kernel
theorem dX4_worst_79 : decode cX4_worst 79 = .ok (.istore_n 3, 1) := by decide +kernel
theorem dX4_worst_80 : decode cX4_worst 80 = .ok (.iinc 4 1, 3) := by decide +kernel
theorem dX4_worst_83 : decode cX4_worst 83 = .ok (.goto (-62), 3) := by decide +kernel
theorem dX4_worst_86 : decode cX4_worst 86 = .ok (.iload_n 1, 1) := by decide +kernel
theorem dX4_worst_87 : decode cX4_worst 87 = .ok (.ifCond .ne 7, 3) := by decide +kernel
theorem dX4_worst_90 : decode cX4_worst 90 = .ok (.iload_n 2, 1) := by decide +kernel
theorem dX4_worst_91 : decode cX4_worst 91 = .ok (.goto 4, 3) := by decide +kernel
theorem dX4_worst_94 : decode cX4_worst 94 = .ok (.iload_n 3, 1) := by decide +kernel
theorem dX4_worst_95 : decode cX4_worst 95 = .ok (.ireturn, 1) := by decide +kernel
theorem dX4_slips_0 : decode cX4_slips 0 = .ok (.aload_n 0, 1) := by decide +kernel
theorem dX4_slips_1 : decode cX4_slips 1 = .ok (.iload_n 1, 1) := by decide +kernel
theorem dX4_slips_2 : decode cX4_slips 2 = .ok (.invokevirtual 203, 3) := by decide +kernel
theorem dX4_slips_5 : decode cX4_slips 5 = .ok (.ifCond .eq 13, 3) := by decide +kernel
theorem dX4_slips_8 : decode cX4_slips 8 = .ok (.iload_n 2, 1) := by decide +kernel
theorem dX4_slips_9 : decode cX4_slips 9 = .ok (.iconst 0, 1) := by decide +kernel
theorem dX4_slips_10 : decode cX4_slips 10 = .ok (.bipush 60, 2) := by decide +kernel
theorem dX4_slips_12 : decode cX4_slips 12 = .ok (.invokestatic 93, 3) := by decide +kernel
theorem dX4_slips_15 : decode cX4_slips 15 = .ok (.ifCond .ne 8, 3) := by decide +kernel
theorem dX4_slips_18 : decode cX4_slips 18 = .ok (.aload_n 0, 1) := by decide +kernel
theorem dX4_slips_19 : decode cX4_slips 19 = .ok (.invokevirtual 97, 3) := by decide +kernel
theorem dX4_slips_22 : decode cX4_slips 22 = .ok (.ireturn, 1) := by decide +kernel
theorem dX4_slips_23 : decode cX4_slips 23 = .ok (.aload_n 0, 1) := by decide +kernel
theorem dX4_slips_24 : decode cX4_slips 24 = .ok (.getfield 28, 3) := by decide +kernel
theorem dX4_slips_27 : decode cX4_slips 27 = .ok (.iload_n 1, 1) := by decide +kernel
theorem dX4_slips_28 : decode cX4_slips 28 = .ok (.iaload, 1) := by decide +kernel
theorem dX4_slips_29 : decode cX4_slips 29 = .ok (.istore_n 3, 1) := by decide +kernel
theorem dX4_slips_30 : decode cX4_slips 30 = .ok (.iconst 0, 1) := by decide +kernel
theorem dX4_slips_31 : decode cX4_slips 31 = .ok (.istore 4, 2) := by decide +kernel
theorem dX4_slips_33 : decode cX4_slips 33 = .ok (.iload 4, 2) := by decide +kernel
theorem dX4_slips_35 : decode cX4_slips 35 = .ok (.iload_n 2, 1) := by decide +kernel
theorem dX4_slips_36 : decode cX4_slips 36 = .ok (.if_icmp .ge 54, 3) := by decide +kernel
theorem dX4_slips_39 : decode cX4_slips 39 = .ok (.iload_n 3, 1) := by decide +kernel
theorem dX4_slips_40 : decode cX4_slips 40 = .ok (.aload_n 0, 1) := by decide +kernel
theorem dX4_slips_41 : decode cX4_slips 41 = .ok (.getfield 22, 3) := by decide +kernel
theorem dX4_slips_44 : decode cX4_slips 44 = .ok (.iload_n 1, 1) := by decide +kernel
theorem dX4_slips_45 : decode cX4_slips 45 = .ok (.iaload, 1) := by decide +kernel
theorem dX4_slips_46 : decode cX4_slips 46 = .ok (.iconst (-1), 1) := by decide +kernel
theorem dX4_slips_47 : decode cX4_slips 47 = .ok (.if_icmp .eq 13, 3) := by decide +kernel
theorem dX4_slips_50 : decode cX4_slips 50 = .ok (.aload_n 0, 1) := by decide +kernel
theorem dX4_slips_51 : decode cX4_slips 51 = .ok (.getfield 22, 3) := by decide +kernel
theorem dX4_slips_54 : decode cX4_slips 54 = .ok (.iload_n 1, 1) := by decide +kernel
theorem dX4_slips_55 : decode cX4_slips 55 = .ok (.iaload, 1) := by decide +kernel
theorem dX4_slips_56 : decode cX4_slips 56 = .ok (.iload_n 1, 1) := by decide +kernel
theorem dX4_slips_57 : decode cX4_slips 57 = .ok (.if_icmp .ne 7, 3) := by decide +kernel
theorem dX4_slips_60 : decode cX4_slips 60 = .ok (.iconst 0, 1) := by decide +kernel
theorem dX4_slips_61 : decode cX4_slips 61 = .ok (.goto 21, 3) := by decide +kernel
theorem dX4_slips_64 : decode cX4_slips 64 = .ok (.aload_n 0, 1) := by decide +kernel
theorem dX4_slips_65 : decode cX4_slips 65 = .ok (.getfield 13, 3) := by decide +kernel
theorem dX4_slips_68 : decode cX4_slips 68 = .ok (.iload_n 1, 1) := by decide +kernel
theorem dX4_slips_69 : decode cX4_slips 69 = .ok (.iaload, 1) := by decide +kernel
theorem dX4_slips_70 : decode cX4_slips 70 = .ok (.aload_n 0, 1) := by decide +kernel
theorem dX4_slips_71 : decode cX4_slips 71 = .ok (.getfield 25, 3) := by decide +kernel
theorem dX4_slips_74 : decode cX4_slips 74 = .ok (.iload_n 1, 1) := by decide +kernel
theorem dX4_slips_75 : decode cX4_slips 75 = .ok (.iaload, 1) := by decide +kernel
theorem dX4_slips_76 : decode cX4_slips 76 = .ok (.iload 4, 2) := by decide +kernel
theorem dX4_slips_78 : decode cX4_slips 78 = .ok (.iadd, 1) := by decide +kernel
theorem dX4_slips_79 : decode cX4_slips 79 = .ok (.invokestatic 200, 3) := by decide +kernel
theorem dX4_slips_82 : decode cX4_slips 82 = .ok (.iadd, 1) := by decide +kernel
theorem dX4_slips_83 : decode cX4_slips 83 = .ok (.istore_n 3, 1) := by decide +kernel
theorem dX4_slips_84 : decode cX4_slips 84 = .ok (.iinc 4 1, 3) := by decide +kernel
theorem dX4_slips_87 : decode cX4_slips 87 = .ok (.goto (-54), 3) := by decide +kernel
theorem dX4_slips_90 : decode cX4_slips 90 = .ok (.iload_n 3, 1) := by decide +kernel
theorem dX4_slips_91 : decode cX4_slips 91 = .ok (.ireturn, 1) := by decide +kernel
theorem dX4_note_0 : decode cX4_note 0 = .ok (.aload_n 0, 1) := by decide +kernel
theorem dX4_note_1 : decode cX4_note 1 = .ok (.iload_n 1, 1) := by decide +kernel
theorem dX4_note_2 : decode cX4_note 2 = .ok (.invokevirtual 203, 3) := by decide +kernel
theorem dX4_note_5 : decode cX4_note 5 = .ok (.ifCond .eq 45, 3) := by decide +kernel
theorem dX4_note_8 : decode cX4_note 8 = .ok (.iload_n 2, 1) := by decide +kernel
theorem dX4_note_9 : decode cX4_note 9 = .ok (.iconst 0, 1) := by decide +kernel
theorem dX4_note_10 : decode cX4_note 10 = .ok (.bipush 20, 2) := by decide +kernel
theorem dX4_note_12 : decode cX4_note 12 = .ok (.invokestatic 93, 3) := by decide +kernel
theorem dX4_note_15 : decode cX4_note 15 = .ok (.ifCond .eq 35, 3) := by decide +kernel
theorem dX4_note_18 : decode cX4_note 18 = .ok (.iload_n 3, 1) := by decide +kernel
theorem dX4_note_19 : decode cX4_note 19 = .ok (.iconst 0, 1) := by decide +kernel
theorem dX4_note_20 : decode cX4_note 20 = .ok (.bipush 99, 2) := by decide +kernel
theorem dX4_note_22 : decode cX4_note 22 = .ok (.invokestatic 93, 3) := by decide +kernel
theorem dX4_note_25 : decode cX4_note 25 = .ok (.ifCond .eq 25, 3) := by decide +kernel
theorem dX4_note_28 : decode cX4_note 28 = .ok (.iload 4, 2) := by decide +kernel
theorem dX4_note_30 : decode cX4_note 30 = .ok (.iconst 0, 1) := by decide +kernel
theorem dX4_note_31 : decode cX4_note 31 = .ok (.bipush 9, 2) := by decide +kernel
theorem dX4_note_33 : decode cX4_note 33 = .ok (.invokestatic 93, 3) := by decide +kernel
theorem dX4_note_36 : decode cX4_note 36 = .ok (.ifCond .eq 14, 3) := by decide +kernel
theorem dX4_note_39 : decode cX4_note 39 = .ok (.iload 5, 2) := by decide +kernel
theorem dX4_note_41 : decode cX4_note 41 = .ok (.iconst 0, 1) := by decide +kernel
theorem dX4_note_42 : decode cX4_note 42 = .ok (.bipush 9, 2) := by decide +kernel
theorem dX4_note_44 : decode cX4_note 44 = .ok (.invokestatic 93, 3) := by decide +kernel
theorem dX4_note_47 : decode cX4_note 47 = .ok (.ifCond .ne 8, 3) := by decide +kernel
theorem dX4_note_50 : decode cX4_note 50 = .ok (.aload_n 0, 1) := by decide +kernel
theorem dX4_note_51 : decode cX4_note 51 = .ok (.invokevirtual 97, 3) := by decide +kernel
theorem dX4_note_54 : decode cX4_note 54 = .ok (.ireturn, 1) := by decide +kernel
theorem dX4_note_55 : decode cX4_note 55 = .ok (.aload_n 0, 1) := by decide +kernel
theorem dX4_note_56 : decode cX4_note 56 = .ok (.getfield 87, 3) := by decide +kernel
theorem dX4_note_59 : decode cX4_note 59 = .ok (.bipush 6, 2) := by decide +kernel
theorem dX4_note_61 : decode cX4_note 61 = .ok (.if_icmp .ne 8, 3) := by decide +kernel
theorem dX4_note_64 : decode cX4_note 64 = .ok (.aload_n 0, 1) := by decide +kernel
theorem dX4_note_65 : decode cX4_note 65 = .ok (.invokevirtual 101, 3) := by decide +kernel
theorem dX4_note_68 : decode cX4_note 68 = .ok (.ireturn, 1) := by decide +kernel
theorem dX4_note_69 : decode cX4_note 69 = .ok (.aload_n 0, 1) := by decide +kernel
theorem dX4_note_70 : decode cX4_note 70 = .ok (.getfield 31, 3) := by decide +kernel
theorem dX4_note_73 : decode cX4_note 73 = .ok (.aload_n 0, 1) := by decide +kernel
theorem dX4_note_74 : decode cX4_note 74 = .ok (.getfield 87, 3) := by decide +kernel
theorem dX4_note_77 : decode cX4_note 77 = .ok (.iload_n 1, 1) := by decide +kernel
theorem dX4_note_78 : decode cX4_note 78 = .ok (.iastore, 1) := by decide +kernel
theorem dX4_note_79 : decode cX4_note 79 = .ok (.aload_n 0, 1) := by decide +kernel
theorem dX4_note_80 : decode cX4_note 80 = .ok (.getfield 34, 3) := by decide +kernel
theorem dX4_note_83 : decode cX4_note 83 = .ok (.aload_n 0, 1) := by decide +kernel
theorem dX4_note_84 : decode cX4_note 84 = .ok (.getfield 87, 3) := by decide +kernel
theorem dX4_note_87 : decode cX4_note 87 = .ok (.iload_n 2, 1) := by decide +kernel
theorem dX4_note_88 : decode cX4_note 88 = .ok (.iastore, 1) := by decide +kernel
theorem dX4_note_89 : decode cX4_note 89 = .ok (.aload_n 0, 1) := by decide +kernel
theorem dX4_note_90 : decode cX4_note 90 = .ok (.getfield 37, 3) := by decide +kernel
theorem dX4_note_93 : decode cX4_note 93 = .ok (.aload_n 0, 1) := by decide +kernel
theorem dX4_note_94 : decode cX4_note 94 = .ok (.getfield 87, 3) := by decide +kernel
theorem dX4_note_97 : decode cX4_note 97 = .ok (.iload_n 3, 1) := by decide +kernel
theorem dX4_note_98 : decode cX4_note 98 = .ok (.iastore, 1) := by decide +kernel
theorem dX4_note_99 : decode cX4_note 99 = .ok (.aload_n 0, 1) := by decide +kernel
theorem dX4_note_100 : decode cX4_note 100 = .ok (.getfield 40, 3) := by decide +kernel
theorem dX4_note_103 : decode cX4_note 103 = .ok (.aload_n 0, 1) := by decide +kernel
theorem dX4_note_104 : decode cX4_note 104 = .ok (.getfield 87, 3) := by decide +kernel
theorem dX4_note_107 : decode cX4_note 107 = .ok (.iload 4, 2) := by decide +kernel
theorem dX4_note_109 : decode cX4_note 109 = .ok (.iastore, 1) := by decide +kernel
theorem dX4_note_110 : decode cX4_note 110 = .ok (.aload_n 0, 1) := by decide +kernel
theorem dX4_note_111 : decode cX4_note 111 = .ok (.getfield 43, 3) := by decide +kernel
theorem dX4_note_114 : decode cX4_note 114 = .ok (.aload_n 0, 1) := by decide +kernel
theorem dX4_note_115 : decode cX4_note 115 = .ok (.getfield 87, 3) := by decide +kernel
theorem dX4_note_118 : decode cX4_note 118 = .ok (.iload 5, 2) := by decide +kernel
theorem dX4_note_120 : decode cX4_note 120 = .ok (.iastore, 1) := by decide +kernel
theorem dX4_note_121 : decode cX4_note 121 = .ok (.aload_n 0, 1) := by decide +kernel
theorem dX4_note_122 : decode cX4_note 122 = .ok (.dup, 1) := by decide +kernel
theorem dX4_note_123 : decode cX4_note 123 = .ok (.getfield 87, 3) := by decide +kernel
theorem dX4_note_126 : decode cX4_note 126 = .ok (.iconst 1, 1) := by decide +kernel
theorem dX4_note_127 : decode cX4_note 127 = .ok (.iadd, 1) := by decide +kernel
theorem dX4_note_128 : decode cX4_note 128 = .ok (.putfield 87, 3) := by decide +kernel
theorem dX4_note_131 : decode cX4_note 131 = .ok (.aload_n 0, 1) := by decide +kernel
theorem dX4_note_132 : decode cX4_note 132 = .ok (.getfield 87, 3) := by decide +kernel
theorem dX4_note_135 : decode cX4_note 135 = .ok (.ireturn, 1) := by decide +kernel
theorem dX4_forget_0 : decode cX4_forget 0 = .ok (.aload_n 0, 1) := by decide +kernel
theorem dX4_forget_1 : decode cX4_forget 1 = .ok (.getfield 87, 3) := by decide +kernel
theorem dX4_forget_4 : decode cX4_forget 4 = .ok (.istore_n 1, 1) := by decide +kernel
theorem dX4_forget_5 : decode cX4_forget 5 = .ok (.aload_n 0, 1) := by decide +kernel
theorem dX4_forget_6 : decode cX4_forget 6 = .ok (.iconst 0, 1) := by decide +kernel
theorem dX4_forget_7 : decode cX4_forget 7 = .ok (.putfield 87, 3) := by decide +kernel
theorem dX4_forget_10 : decode cX4_forget 10 = .ok (.iload_n 1, 1) := by decide +kernel
theorem dX4_forget_11 : decode cX4_forget 11 = .ok (.ireturn, 1) := by decide +kernel
theorem dX4_kindsOf_0 : decode cX4_kindsOf 0 = .ok (.iconst 0, 1) := by decide +kernel
theorem dX4_kindsOf_1 : decode cX4_kindsOf 1 = .ok (.istore_n 2, 1) := by decide +kernel
theorem dX4_kindsOf_2 : decode cX4_kindsOf 2 = .ok (.iconst 0, 1) := by decide +kernel
theorem dX4_kindsOf_3 : decode cX4_kindsOf 3 = .ok (.istore_n 3, 1) := by decide +kernel
theorem dX4_kindsOf_4 : decode cX4_kindsOf 4 = .ok (.iload_n 3, 1) := by decide +kernel
theorem dX4_kindsOf_5 : decode cX4_kindsOf 5 = .ok (.iconst 5, 1) := by decide +kernel
theorem dX4_kindsOf_6 : decode cX4_kindsOf 6 = .ok (.if_icmp .gt 128, 3) := by decide +kernel
theorem dX4_kindsOf_9 : decode cX4_kindsOf 9 = .ok (.iconst 1, 1) := by decide +kernel
theorem dX4_kindsOf_10 : decode cX4_kindsOf 10 = .ok (.istore 4, 2) := by decide +kernel
theorem dX4_kindsOf_12 : decode cX4_kindsOf 12 = .ok (.iconst 0, 1) := by decide +kernel
theorem dX4_kindsOf_13 : decode cX4_kindsOf 13 = .ok (.istore 5, 2) := by decide +kernel
theorem dX4_kindsOf_15 : decode cX4_kindsOf 15 = .ok (.iload 5, 2) := by decide +kernel
theorem dX4_kindsOf_17 : decode cX4_kindsOf 17 = .ok (.aload_n 0, 1) := by decide +kernel
theorem dX4_kindsOf_18 : decode cX4_kindsOf 18 = .ok (.getfield 87, 3) := by decide +kernel
theorem dX4_kindsOf_21 : decode cX4_kindsOf 21 = .ok (.if_icmp .ge 92, 3) := by decide +kernel
theorem dX4_kindsOf_24 : decode cX4_kindsOf 24 = .ok (.iload_n 3, 1) := by decide +kernel
theorem dX4_kindsOf_25 : decode cX4_kindsOf 25 = .ok (.aload_n 0, 1) := by decide +kernel
theorem dX4_kindsOf_26 : decode cX4_kindsOf 26 = .ok (.getfield 16, 3) := by decide +kernel
theorem dX4_kindsOf_29 : decode cX4_kindsOf 29 = .ok (.iload_n 1, 1) := by decide +kernel
theorem dX4_kindsOf_30 : decode cX4_kindsOf 30 = .ok (.iaload, 1) := by decide +kernel
theorem dX4_kindsOf_31 : decode cX4_kindsOf 31 = .ok (.aload_n 0, 1) := by decide +kernel
theorem dX4_kindsOf_32 : decode cX4_kindsOf 32 = .ok (.getfield 37, 3) := by decide +kernel
theorem dX4_kindsOf_35 : decode cX4_kindsOf 35 = .ok (.iload 5, 2) := by decide +kernel
theorem dX4_kindsOf_37 : decode cX4_kindsOf 37 = .ok (.iaload, 1) := by decide +kernel
theorem dX4_kindsOf_38 : decode cX4_kindsOf 38 = .ok (.invokestatic 177, 3) := by decide +kernel
theorem dX4_kindsOf_41 : decode cX4_kindsOf 41 = .ok (.aload_n 0, 1) := by decide +kernel
theorem dX4_kindsOf_42 : decode cX4_kindsOf 42 = .ok (.getfield 40, 3) := by decide +kernel
theorem dX4_kindsOf_45 : decode cX4_kindsOf 45 = .ok (.iload 5, 2) := by decide +kernel
theorem dX4_kindsOf_47 : decode cX4_kindsOf 47 = .ok (.iaload, 1) := by decide +kernel
theorem dX4_kindsOf_48 : decode cX4_kindsOf 48 = .ok (.if_icmp .ne 28, 3) := by decide +kernel
theorem dX4_kindsOf_51 : decode cX4_kindsOf 51 = .ok (.iload_n 3, 1) := by decide +kernel
theorem dX4_kindsOf_52 : decode cX4_kindsOf 52 = .ok (.aload_n 0, 1) := by decide +kernel
theorem dX4_kindsOf_53 : decode cX4_kindsOf 53 = .ok (.getfield 34, 3) := by decide +kernel
theorem dX4_kindsOf_56 : decode cX4_kindsOf 56 = .ok (.iload 5, 2) := by decide +kernel
theorem dX4_kindsOf_58 : decode cX4_kindsOf 58 = .ok (.iaload, 1) := by decide +kernel
theorem dX4_kindsOf_59 : decode cX4_kindsOf 59 = .ok (.invokestatic 200, 3) := by decide +kernel
theorem dX4_kindsOf_62 : decode cX4_kindsOf 62 = .ok (.aload_n 0, 1) := by decide +kernel
theorem dX4_kindsOf_63 : decode cX4_kindsOf 63 = .ok (.getfield 43, 3) := by decide +kernel
theorem dX4_kindsOf_66 : decode cX4_kindsOf 66 = .ok (.iload 5, 2) := by decide +kernel
theorem dX4_kindsOf_68 : decode cX4_kindsOf 68 = .ok (.iaload, 1) := by decide +kernel
theorem dX4_kindsOf_69 : decode cX4_kindsOf 69 = .ok (.if_icmp .ne 7, 3) := by decide +kernel
theorem dX4_kindsOf_72 : decode cX4_kindsOf 72 = .ok (.iconst 1, 1) := by decide +kernel
theorem dX4_kindsOf_73 : decode cX4_kindsOf 73 = .ok (.goto 4, 3) := by decide +kernel
theorem dX4_kindsOf_76 : decode cX4_kindsOf 76 = .ok (.iconst 0, 1) := by decide +kernel
theorem dX4_kindsOf_77 : decode cX4_kindsOf 77 = .ok (.istore 6, 2) := by decide +kernel
theorem dX4_kindsOf_79 : decode cX4_kindsOf 79 = .ok (.iload 4, 2) := by decide +kernel
theorem dX4_kindsOf_81 : decode cX4_kindsOf 81 = .ok (.ifCond .eq 23, 3) := by decide +kernel
theorem dX4_kindsOf_84 : decode cX4_kindsOf 84 = .ok (.aload_n 0, 1) := by decide +kernel
theorem dX4_kindsOf_85 : decode cX4_kindsOf 85 = .ok (.getfield 31, 3) := by decide +kernel
theorem dX4_kindsOf_88 : decode cX4_kindsOf 88 = .ok (.iload 5, 2) := by decide +kernel
theorem dX4_kindsOf_90 : decode cX4_kindsOf 90 = .ok (.iaload, 1) := by decide +kernel
theorem dX4_kindsOf_91 : decode cX4_kindsOf 91 = .ok (.iload_n 1, 1) := by decide +kernel
theorem dX4_kindsOf_92 : decode cX4_kindsOf 92 = .ok (.if_icmp .ne 8, 3) := by decide +kernel
theorem dX4_kindsOf_95 : decode cX4_kindsOf 95 = .ok (.iload 6, 2) := by decide +kernel
theorem dX4_kindsOf_97 : decode cX4_kindsOf 97 = .ok (.ifCond .eq 7, 3) := by decide +kernel
theorem dX4_kindsOf_100 : decode cX4_kindsOf 100 = .ok (.iconst 1, 1) := by decide +kernel
theorem dX4_kindsOf_101 : decode cX4_kindsOf 101 = .ok (.goto 4, 3) := by decide +kernel
theorem dX4_kindsOf_104 : decode cX4_kindsOf 104 = .ok (.iconst 0, 1) := by decide +kernel
theorem dX4_kindsOf_105 : decode cX4_kindsOf 105 = .ok (.istore 4, 2) := by decide +kernel
theorem dX4_kindsOf_107 : decode cX4_kindsOf 107 = .ok (.iinc 5 1, 3) := by decide +kernel
theorem dX4_kindsOf_110 : decode cX4_kindsOf 110 = .ok (.goto (-95), 3) := by decide +kernel
theorem dX4_kindsOf_113 : decode cX4_kindsOf 113 = .ok (.iload_n 2, 1) := by decide +kernel
theorem dX4_kindsOf_114 : decode cX4_kindsOf 114 = .ok (.iload 4, 2) := by decide +kernel
theorem dX4_kindsOf_116 : decode cX4_kindsOf 116 = .ok (.ifCond .eq 9, 3) := by decide +kernel
theorem dX4_kindsOf_119 : decode cX4_kindsOf 119 = .ok (.iconst 1, 1) := by decide +kernel
theorem dX4_kindsOf_120 : decode cX4_kindsOf 120 = .ok (.iload_n 3, 1) := by decide +kernel
theorem dX4_kindsOf_121 : decode cX4_kindsOf 121 = .ok (.ishl, 1) := by decide +kernel
theorem dX4_kindsOf_122 : decode cX4_kindsOf 122 = .ok (.goto 4, 3) := by decide +kernel
theorem dX4_kindsOf_125 : decode cX4_kindsOf 125 = .ok (.iconst 0, 1) := by decide +kernel
theorem dX4_kindsOf_126 : decode cX4_kindsOf 126 = .ok (.ior, 1) := by decide +kernel
theorem dX4_kindsOf_127 : decode cX4_kindsOf 127 = .ok (.istore_n 2, 1) := by decide +kernel
theorem dX4_kindsOf_128 : decode cX4_kindsOf 128 = .ok (.iinc 3 1, 3) := by decide +kernel
theorem dX4_kindsOf_131 : decode cX4_kindsOf 131 = .ok (.goto (-127), 3) := by decide +kernel
theorem dX4_kindsOf_134 : decode cX4_kindsOf 134 = .ok (.iload_n 2, 1) := by decide +kernel
theorem dX4_kindsOf_135 : decode cX4_kindsOf 135 = .ok (.ireturn, 1) := by decide +kernel
theorem dX4_is_0 : decode cX4_is 0 = .ok (.aload_n 0, 1) := by decide +kernel
theorem dX4_is_1 : decode cX4_is 1 = .ok (.iload_n 1, 1) := by decide +kernel
theorem dX4_is_2 : decode cX4_is 2 = .ok (.invokevirtual 203, 3) := by decide +kernel
theorem dX4_is_5 : decode cX4_is 5 = .ok (.ifCond .eq 11, 3) := by decide +kernel
theorem dX4_is_8 : decode cX4_is 8 = .ok (.aload_n 0, 1) := by decide +kernel
theorem dX4_is_9 : decode cX4_is 9 = .ok (.iload_n 1, 1) := by decide +kernel
theorem dX4_is_10 : decode cX4_is 10 = .ok (.invokevirtual 242, 3) := by decide +kernel
theorem dX4_is_13 : decode cX4_is 13 = .ok (.goto 7, 3) := by decide +kernel
theorem dX4_is_16 : decode cX4_is 16 = .ok (.aload_n 0, 1) := by decide +kernel
theorem dX4_is_17 : decode cX4_is 17 = .ok (.invokevirtual 97, 3) := by decide +kernel
theorem dX4_is_20 : decode cX4_is 20 = .ok (.ireturn, 1) := by decide +kernel
theorem dX4_alike_0 : decode cX4_alike 0 = .ok (.iconst 0, 1) := by decide +kernel
theorem dX4_alike_1 : decode cX4_alike 1 = .ok (.istore 5, 2) := by decide +kernel
theorem dX4_alike_3 : decode cX4_alike 3 = .ok (.iconst 0, 1) := by decide +kernel
theorem dX4_alike_4 : decode cX4_alike 4 = .ok (.istore 6, 2) := by decide +kernel
theorem dX4_alike_6 : decode cX4_alike 6 = .ok (.iload 6, 2) := by decide +kernel
theorem dX4_alike_8 : decode cX4_alike 8 = .ok (.iconst 5, 1) := by decide +kernel
theorem dX4_alike_9 : decode cX4_alike 9 = .ok (.if_icmp .gt 127, 3) := by decide +kernel
theorem dX4_alike_12 : decode cX4_alike 12 = .ok (.iconst 0, 1) := by decide +kernel
theorem dX4_alike_13 : decode cX4_alike 13 = .ok (.istore 7, 2) := by decide +kernel
theorem dX4_alike_15 : decode cX4_alike 15 = .ok (.iconst 0, 1) := by decide +kernel
theorem dX4_alike_16 : decode cX4_alike 16 = .ok (.istore 8, 2) := by decide +kernel
theorem dX4_alike_18 : decode cX4_alike 18 = .ok (.iload 8, 2) := by decide +kernel
theorem dX4_alike_20 : decode cX4_alike 20 = .ok (.iconst 5, 1) := by decide +kernel
theorem dX4_alike_21 : decode cX4_alike 21 = .ok (.if_icmp .gt 93, 3) := by decide +kernel
theorem dX4_alike_24 : decode cX4_alike 24 = .ok (.iload 6, 2) := by decide +kernel
theorem dX4_alike_26 : decode cX4_alike 26 = .ok (.aload_n 0, 1) := by decide +kernel
theorem dX4_alike_27 : decode cX4_alike 27 = .ok (.getfield 16, 3) := by decide +kernel
theorem dX4_alike_30 : decode cX4_alike 30 = .ok (.iload_n 1, 1) := by decide +kernel
theorem dX4_alike_31 : decode cX4_alike 31 = .ok (.iaload, 1) := by decide +kernel
theorem dX4_alike_32 : decode cX4_alike 32 = .ok (.iload 4, 2) := by decide +kernel
theorem dX4_alike_34 : decode cX4_alike 34 = .ok (.invokestatic 177, 3) := by decide +kernel
theorem dX4_alike_37 : decode cX4_alike 37 = .ok (.iload 8, 2) := by decide +kernel
theorem dX4_alike_39 : decode cX4_alike 39 = .ok (.aload_n 0, 1) := by decide +kernel
theorem dX4_alike_40 : decode cX4_alike 40 = .ok (.getfield 16, 3) := by decide +kernel
theorem dX4_alike_43 : decode cX4_alike 43 = .ok (.iload_n 1, 1) := by decide +kernel
theorem dX4_alike_44 : decode cX4_alike 44 = .ok (.iaload, 1) := by decide +kernel
theorem dX4_alike_45 : decode cX4_alike 45 = .ok (.iload 4, 2) := by decide +kernel
theorem dX4_alike_47 : decode cX4_alike 47 = .ok (.invokestatic 177, 3) := by decide +kernel
theorem dX4_alike_50 : decode cX4_alike 50 = .ok (.if_icmp .ne 22, 3) := by decide +kernel
theorem dX4_alike_53 : decode cX4_alike 53 = .ok (.iload 6, 2) := by decide +kernel
theorem dX4_alike_55 : decode cX4_alike 55 = .ok (.iload_n 3, 1) := by decide +kernel
theorem dX4_alike_56 : decode cX4_alike 56 = .ok (.invokestatic 200, 3) := by decide +kernel
theorem dX4_alike_59 : decode cX4_alike 59 = .ok (.iload 8, 2) := by decide +kernel
theorem dX4_alike_61 : decode cX4_alike 61 = .ok (.iload_n 3, 1) := by decide +kernel
theorem dX4_alike_62 : decode cX4_alike 62 = .ok (.invokestatic 200, 3) := by decide +kernel
theorem dX4_alike_65 : decode cX4_alike 65 = .ok (.if_icmp .ne 7, 3) := by decide +kernel
theorem dX4_alike_68 : decode cX4_alike 68 = .ok (.iconst 1, 1) := by decide +kernel
theorem dX4_alike_69 : decode cX4_alike 69 = .ok (.goto 4, 3) := by decide +kernel
theorem dX4_alike_72 : decode cX4_alike 72 = .ok (.iconst 0, 1) := by decide +kernel
theorem dX4_alike_73 : decode cX4_alike 73 = .ok (.istore 9, 2) := by decide +kernel
theorem dX4_alike_75 : decode cX4_alike 75 = .ok (.iload 7, 2) := by decide +kernel
theorem dX4_alike_77 : decode cX4_alike 77 = .ok (.iload_n 2, 1) := by decide +kernel
theorem dX4_alike_78 : decode cX4_alike 78 = .ok (.iload 6, 2) := by decide +kernel
theorem dX4_alike_80 : decode cX4_alike 80 = .ok (.invokestatic 245, 3) := by decide +kernel
theorem dX4_alike_83 : decode cX4_alike 83 = .ok (.ifCond .eq 21, 3) := by decide +kernel
theorem dX4_alike_86 : decode cX4_alike 86 = .ok (.iload_n 2, 1) := by decide +kernel
theorem dX4_alike_87 : decode cX4_alike 87 = .ok (.iload 8, 2) := by decide +kernel
theorem dX4_alike_89 : decode cX4_alike 89 = .ok (.invokestatic 245, 3) := by decide +kernel
theorem dX4_alike_92 : decode cX4_alike 92 = .ok (.ifCond .eq 12, 3) := by decide +kernel
theorem dX4_alike_95 : decode cX4_alike 95 = .ok (.iload 9, 2) := by decide +kernel
theorem dX4_alike_97 : decode cX4_alike 97 = .ok (.ifCond .eq 7, 3) := by decide +kernel
theorem dX4_alike_100 : decode cX4_alike 100 = .ok (.iconst 1, 1) := by decide +kernel
theorem dX4_alike_101 : decode cX4_alike 101 = .ok (.goto 4, 3) := by decide +kernel
theorem dX4_alike_104 : decode cX4_alike 104 = .ok (.iconst 0, 1) := by decide +kernel
theorem dX4_alike_105 : decode cX4_alike 105 = .ok (.iadd, 1) := by decide +kernel
theorem dX4_alike_106 : decode cX4_alike 106 = .ok (.istore 7, 2) := by decide +kernel
theorem dX4_alike_108 : decode cX4_alike 108 = .ok (.iinc 8 1, 3) := by decide +kernel
theorem dX4_alike_111 : decode cX4_alike 111 = .ok (.goto (-93), 3) := by decide +kernel
theorem dX4_alike_114 : decode cX4_alike 114 = .ok (.iload 7, 2) := by decide +kernel
theorem dX4_alike_116 : decode cX4_alike 116 = .ok (.iload 5, 2) := by decide +kernel
theorem dX4_alike_118 : decode cX4_alike 118 = .ok (.if_icmp .le 8, 3) := by decide +kernel
theorem dX4_alike_121 : decode cX4_alike 121 = .ok (.iload 7, 2) := by decide +kernel
theorem dX4_alike_123 : decode cX4_alike 123 = .ok (.goto 5, 3) := by decide +kernel
theorem dX4_alike_126 : decode cX4_alike 126 = .ok (.iload 5, 2) := by decide +kernel
theorem dX4_alike_128 : decode cX4_alike 128 = .ok (.istore 5, 2) := by decide +kernel
theorem dX4_alike_130 : decode cX4_alike 130 = .ok (.iinc 6 1, 3) := by decide +kernel
theorem dX4_alike_133 : decode cX4_alike 133 = .ok (.goto (-127), 3) := by decide +kernel
theorem dX4_alike_136 : decode cX4_alike 136 = .ok (.iload 5, 2) := by decide +kernel
theorem dX4_alike_138 : decode cX4_alike 138 = .ok (.ireturn, 1) := by decide +kernel
theorem dX4_listen_0 : decode cX4_listen 0 = .ok (.aload_n 0, 1) := by decide +kernel
theorem dX4_listen_1 : decode cX4_listen 1 = .ok (.iload_n 1, 1) := by decide +kernel
theorem dX4_listen_2 : decode cX4_listen 2 = .ok (.invokevirtual 203, 3) := by decide +kernel
theorem dX4_listen_5 : decode cX4_listen 5 = .ok (.ifCond .ne 8, 3) := by decide +kernel
theorem dX4_listen_8 : decode cX4_listen 8 = .ok (.aload_n 0, 1) := by decide +kernel
theorem dX4_listen_9 : decode cX4_listen 9 = .ok (.invokevirtual 97, 3) := by decide +kernel
theorem dX4_listen_12 : decode cX4_listen 12 = .ok (.ireturn, 1) := by decide +kernel
theorem dX4_listen_13 : decode cX4_listen 13 = .ok (.aload_n 0, 1) := by decide +kernel
theorem dX4_listen_14 : decode cX4_listen 14 = .ok (.iload_n 1, 1) := by decide +kernel
theorem dX4_listen_15 : decode cX4_listen 15 = .ok (.invokevirtual 242, 3) := by decide +kernel
theorem dX4_listen_18 : decode cX4_listen 18 = .ok (.istore_n 2, 1) := by decide +kernel
theorem dX4_listen_19 : decode cX4_listen 19 = .ok (.iconst (-1), 1) := by decide +kernel
theorem dX4_listen_20 : decode cX4_listen 20 = .ok (.istore_n 3, 1) := by decide +kernel
theorem dX4_listen_21 : decode cX4_listen 21 = .ok (.bipush 7, 2) := by decide +kernel
theorem dX4_listen_23 : decode cX4_listen 23 = .ok (.istore 4, 2) := by decide +kernel
theorem dX4_listen_25 : decode cX4_listen 25 = .ok (.iconst 0, 1) := by decide +kernel
theorem dX4_listen_26 : decode cX4_listen 26 = .ok (.istore 5, 2) := by decide +kernel
theorem dX4_listen_28 : decode cX4_listen 28 = .ok (.iload 5, 2) := by decide +kernel
