theorem dX0_init_0 : decode cX0_init 0 = .ok (.aload_n 0, 1) := by decide +kernel
theorem dX0_init_1 : decode cX0_init 1 = .ok (.invokespecial 3, 3) := by decide +kernel
theorem dX0_init_4 : decode cX0_init 4 = .ok (.aload_n 0, 1) := by decide +kernel
theorem dX0_init_5 : decode cX0_init 5 = .ok (.new 9, 3) := by decide +kernel
theorem dX0_init_8 : decode cX0_init 8 = .ok (.dup, 1) := by decide +kernel
theorem dX0_init_9 : decode cX0_init 9 = .ok (.bipush 18, 2) := by decide +kernel
theorem dX0_init_11 : decode cX0_init 11 = .ok (.iconst 3, 1) := by decide +kernel
theorem dX0_init_12 : decode cX0_init 12 = .ok (.invokespecial 13, 3) := by decide +kernel
theorem dX0_init_15 : decode cX0_init 15 = .ok (.putfield 16, 3) := by decide +kernel
theorem dX0_init_18 : decode cX0_init 18 = .ok (.aload_n 0, 1) := by decide +kernel
theorem dX0_init_19 : decode cX0_init 19 = .ok (.new 9, 3) := by decide +kernel
theorem dX0_init_22 : decode cX0_init 22 = .ok (.dup, 1) := by decide +kernel
theorem dX0_init_23 : decode cX0_init 23 = .ok (.iconst 3, 1) := by decide +kernel
theorem dX0_init_24 : decode cX0_init 24 = .ok (.iconst 2, 1) := by decide +kernel
theorem dX0_init_25 : decode cX0_init 25 = .ok (.invokespecial 13, 3) := by decide +kernel
theorem dX0_init_28 : decode cX0_init 28 = .ok (.putfield 20, 3) := by decide +kernel
theorem dX0_init_31 : decode cX0_init 31 = .ok (.aload_n 0, 1) := by decide +kernel
theorem dX0_init_32 : decode cX0_init 32 = .ok (.new 9, 3) := by decide +kernel
theorem dX0_init_35 : decode cX0_init 35 = .ok (.dup, 1) := by decide +kernel
theorem dX0_init_36 : decode cX0_init 36 = .ok (.iconst 3, 1) := by decide +kernel
theorem dX0_init_37 : decode cX0_init 37 = .ok (.bipush 21, 2) := by decide +kernel
theorem dX0_init_39 : decode cX0_init 39 = .ok (.invokespecial 13, 3) := by decide +kernel
theorem dX0_init_42 : decode cX0_init 42 = .ok (.putfield 23, 3) := by decide +kernel
theorem dX0_init_45 : decode cX0_init 45 = .ok (.aload_n 0, 1) := by decide +kernel
theorem dX0_init_46 : decode cX0_init 46 = .ok (.iconst 0, 1) := by decide +kernel
theorem dX0_init_47 : decode cX0_init 47 = .ok (.putfield 26, 3) := by decide +kernel
theorem dX0_init_50 : decode cX0_init 50 = .ok (.return_, 1) := by decide +kernel
theorem dX0_add_0 : decode cX0_add 0 = .ok (.iload_n 1, 1) := by decide +kernel
theorem dX0_add_1 : decode cX0_add 1 = .ok (.bipush 6, 2) := by decide +kernel
theorem dX0_add_3 : decode cX0_add 3 = .ok (.imul, 1) := by decide +kernel
theorem dX0_add_4 : decode cX0_add 4 = .ok (.aload_n 0, 1) := by decide +kernel
theorem dX0_add_5 : decode cX0_add 5 = .ok (.getfield 20, 3) := by decide +kernel
theorem dX0_add_8 : decode cX0_add 8 = .ok (.iload_n 1, 1) := by decide +kernel
theorem dX0_add_9 : decode cX0_add 9 = .ok (.iconst 0, 1) := by decide +kernel
theorem dX0_add_10 : decode cX0_add 10 = .ok (.invokevirtual 30, 3) := by decide +kernel
theorem dX0_add_13 : decode cX0_add 13 = .ok (.iadd, 1) := by decide +kernel
theorem dX0_add_14 : decode cX0_add 14 = .ok (.istore 5, 2) := by decide +kernel
theorem dX0_add_16 : decode cX0_add 16 = .ok (.aload_n 0, 1) := by decide +kernel
theorem dX0_add_17 : decode cX0_add 17 = .ok (.getfield 16, 3) := by decide +kernel
theorem dX0_add_20 : decode cX0_add 20 = .ok (.iload 5, 2) := by decide +kernel
theorem dX0_add_22 : decode cX0_add 22 = .ok (.iconst 0, 1) := by decide +kernel
theorem dX0_add_23 : decode cX0_add 23 = .ok (.iload_n 2, 1) := by decide +kernel
theorem dX0_add_24 : decode cX0_add 24 = .ok (.invokevirtual 34, 3) := by decide +kernel
theorem dX0_add_27 : decode cX0_add 27 = .ok (.aload_n 0, 1) := by decide +kernel
theorem dX0_add_28 : decode cX0_add 28 = .ok (.getfield 16, 3) := by decide +kernel
theorem dX0_add_31 : decode cX0_add 31 = .ok (.iload 5, 2) := by decide +kernel
theorem dX0_add_33 : decode cX0_add 33 = .ok (.iconst 1, 1) := by decide +kernel
theorem dX0_add_34 : decode cX0_add 34 = .ok (.iload_n 3, 1) := by decide +kernel
theorem dX0_add_35 : decode cX0_add 35 = .ok (.invokevirtual 34, 3) := by decide +kernel
theorem dX0_add_38 : decode cX0_add 38 = .ok (.aload_n 0, 1) := by decide +kernel
theorem dX0_add_39 : decode cX0_add 39 = .ok (.getfield 16, 3) := by decide +kernel
theorem dX0_add_42 : decode cX0_add 42 = .ok (.iload 5, 2) := by decide +kernel
theorem dX0_add_44 : decode cX0_add 44 = .ok (.iconst 2, 1) := by decide +kernel
theorem dX0_add_45 : decode cX0_add 45 = .ok (.iload 4, 2) := by decide +kernel
theorem dX0_add_47 : decode cX0_add 47 = .ok (.invokevirtual 34, 3) := by decide +kernel
theorem dX0_add_50 : decode cX0_add 50 = .ok (.aload_n 0, 1) := by decide +kernel
theorem dX0_add_51 : decode cX0_add 51 = .ok (.getfield 20, 3) := by decide +kernel
theorem dX0_add_54 : decode cX0_add 54 = .ok (.iload_n 1, 1) := by decide +kernel
theorem dX0_add_55 : decode cX0_add 55 = .ok (.iconst 0, 1) := by decide +kernel
theorem dX0_add_56 : decode cX0_add 56 = .ok (.iconst 1, 1) := by decide +kernel
theorem dX0_add_57 : decode cX0_add 57 = .ok (.invokevirtual 38, 3) := by decide +kernel
theorem dX0_add_60 : decode cX0_add 60 = .ok (.aload_n 0, 1) := by decide +kernel
theorem dX0_add_61 : decode cX0_add 61 = .ok (.getfield 20, 3) := by decide +kernel
theorem dX0_add_64 : decode cX0_add 64 = .ok (.iload_n 1, 1) := by decide +kernel
theorem dX0_add_65 : decode cX0_add 65 = .ok (.iconst 0, 1) := by decide +kernel
theorem dX0_add_66 : decode cX0_add 66 = .ok (.invokevirtual 30, 3) := by decide +kernel
theorem dX0_add_69 : decode cX0_add 69 = .ok (.ireturn, 1) := by decide +kernel
theorem dX0_countOf_0 : decode cX0_countOf 0 = .ok (.aload_n 0, 1) := by decide +kernel
theorem dX0_countOf_1 : decode cX0_countOf 1 = .ok (.getfield 20, 3) := by decide +kernel
theorem dX0_countOf_4 : decode cX0_countOf 4 = .ok (.iload_n 1, 1) := by decide +kernel
theorem dX0_countOf_5 : decode cX0_countOf 5 = .ok (.iconst 0, 1) := by decide +kernel
theorem dX0_countOf_6 : decode cX0_countOf 6 = .ok (.invokevirtual 30, 3) := by decide +kernel
theorem dX0_countOf_9 : decode cX0_countOf 9 = .ok (.ireturn, 1) := by decide +kernel
theorem dX0_count_0 : decode cX0_count 0 = .ok (.aload_n 0, 1) := by decide +kernel
theorem dX0_count_1 : decode cX0_count 1 = .ok (.getfield 20, 3) := by decide +kernel
theorem dX0_count_4 : decode cX0_count 4 = .ok (.iconst 0, 1) := by decide +kernel
theorem dX0_count_5 : decode cX0_count 5 = .ok (.iconst 0, 1) := by decide +kernel
theorem dX0_count_6 : decode cX0_count 6 = .ok (.invokevirtual 30, 3) := by decide +kernel
theorem dX0_count_9 : decode cX0_count 9 = .ok (.aload_n 0, 1) := by decide +kernel
theorem dX0_count_10 : decode cX0_count 10 = .ok (.getfield 20, 3) := by decide +kernel
theorem dX0_count_13 : decode cX0_count 13 = .ok (.iconst 1, 1) := by decide +kernel
theorem dX0_count_14 : decode cX0_count 14 = .ok (.iconst 0, 1) := by decide +kernel
theorem dX0_count_15 : decode cX0_count 15 = .ok (.invokevirtual 30, 3) := by decide +kernel
theorem dX0_count_18 : decode cX0_count 18 = .ok (.iadd, 1) := by decide +kernel
theorem dX0_count_19 : decode cX0_count 19 = .ok (.aload_n 0, 1) := by decide +kernel
theorem dX0_count_20 : decode cX0_count 20 = .ok (.getfield 20, 3) := by decide +kernel
theorem dX0_count_23 : decode cX0_count 23 = .ok (.iconst 2, 1) := by decide +kernel
theorem dX0_count_24 : decode cX0_count 24 = .ok (.iconst 0, 1) := by decide +kernel
theorem dX0_count_25 : decode cX0_count 25 = .ok (.invokevirtual 30, 3) := by decide +kernel
theorem dX0_count_28 : decode cX0_count 28 = .ok (.iadd, 1) := by decide +kernel
theorem dX0_count_29 : decode cX0_count 29 = .ok (.ireturn, 1) := by decide +kernel
theorem dX0_toldFromTo_0 : decode cX0_toldFromTo 0 = .ok (.iconst 0, 1) := by decide +kernel
theorem dX0_toldFromTo_1 : decode cX0_toldFromTo 1 = .ok (.istore 5, 2) := by decide +kernel
theorem dX0_toldFromTo_3 : decode cX0_toldFromTo 3 = .ok (.iconst 0, 1) := by decide +kernel
theorem dX0_toldFromTo_4 : decode cX0_toldFromTo 4 = .ok (.istore 6, 2) := by decide +kernel
theorem dX0_toldFromTo_6 : decode cX0_toldFromTo 6 = .ok (.iload 6, 2) := by decide +kernel
theorem dX0_toldFromTo_8 : decode cX0_toldFromTo 8 = .ok (.aload_n 0, 1) := by decide +kernel
theorem dX0_toldFromTo_9 : decode cX0_toldFromTo 9 = .ok (.getfield 20, 3) := by decide +kernel
theorem dX0_toldFromTo_12 : decode cX0_toldFromTo 12 = .ok (.iload_n 1, 1) := by decide +kernel
theorem dX0_toldFromTo_13 : decode cX0_toldFromTo 13 = .ok (.iconst 0, 1) := by decide +kernel
theorem dX0_toldFromTo_14 : decode cX0_toldFromTo 14 = .ok (.invokevirtual 30, 3) := by decide +kernel
theorem dX0_toldFromTo_17 : decode cX0_toldFromTo 17 = .ok (.if_icmp .ge 88, 3) := by decide +kernel
theorem dX0_toldFromTo_20 : decode cX0_toldFromTo 20 = .ok (.iload_n 1, 1) := by decide +kernel
theorem dX0_toldFromTo_21 : decode cX0_toldFromTo 21 = .ok (.bipush 6, 2) := by decide +kernel
theorem dX0_toldFromTo_23 : decode cX0_toldFromTo 23 = .ok (.imul, 1) := by decide +kernel
theorem dX0_toldFromTo_24 : decode cX0_toldFromTo 24 = .ok (.iload 6, 2) := by decide +kernel
theorem dX0_toldFromTo_26 : decode cX0_toldFromTo 26 = .ok (.iadd, 1) := by decide +kernel
theorem dX0_toldFromTo_27 : decode cX0_toldFromTo 27 = .ok (.istore 7, 2) := by decide +kernel
theorem dX0_toldFromTo_29 : decode cX0_toldFromTo 29 = .ok (.aload_n 0, 1) := by decide +kernel
theorem dX0_toldFromTo_30 : decode cX0_toldFromTo 30 = .ok (.getfield 16, 3) := by decide +kernel
theorem dX0_toldFromTo_33 : decode cX0_toldFromTo 33 = .ok (.iload 7, 2) := by decide +kernel
theorem dX0_toldFromTo_35 : decode cX0_toldFromTo 35 = .ok (.iconst 1, 1) := by decide +kernel
theorem dX0_toldFromTo_36 : decode cX0_toldFromTo 36 = .ok (.invokevirtual 30, 3) := by decide +kernel
theorem dX0_toldFromTo_39 : decode cX0_toldFromTo 39 = .ok (.istore 8, 2) := by decide +kernel
theorem dX0_toldFromTo_41 : decode cX0_toldFromTo 41 = .ok (.aload_n 0, 1) := by decide +kernel
theorem dX0_toldFromTo_42 : decode cX0_toldFromTo 42 = .ok (.getfield 16, 3) := by decide +kernel
theorem dX0_toldFromTo_45 : decode cX0_toldFromTo 45 = .ok (.iload 7, 2) := by decide +kernel
theorem dX0_toldFromTo_47 : decode cX0_toldFromTo 47 = .ok (.iconst 0, 1) := by decide +kernel
theorem dX0_toldFromTo_48 : decode cX0_toldFromTo 48 = .ok (.invokevirtual 30, 3) := by decide +kernel
theorem dX0_toldFromTo_51 : decode cX0_toldFromTo 51 = .ok (.iload_n 2, 1) := by decide +kernel
theorem dX0_toldFromTo_52 : decode cX0_toldFromTo 52 = .ok (.if_icmp .ne 20, 3) := by decide +kernel
theorem dX0_toldFromTo_55 : decode cX0_toldFromTo 55 = .ok (.iload 8, 2) := by decide +kernel
theorem dX0_toldFromTo_57 : decode cX0_toldFromTo 57 = .ok (.iload_n 3, 1) := by decide +kernel
theorem dX0_toldFromTo_58 : decode cX0_toldFromTo 58 = .ok (.if_icmp .lt 14, 3) := by decide +kernel
theorem dX0_toldFromTo_61 : decode cX0_toldFromTo 61 = .ok (.iload 8, 2) := by decide +kernel
theorem dX0_toldFromTo_63 : decode cX0_toldFromTo 63 = .ok (.iload 4, 2) := by decide +kernel
theorem dX0_toldFromTo_65 : decode cX0_toldFromTo 65 = .ok (.if_icmp .gt 7, 3) := by decide +kernel
theorem dX0_toldFromTo_68 : decode cX0_toldFromTo 68 = .ok (.iconst 1, 1) := by decide +kernel
theorem dX0_toldFromTo_69 : decode cX0_toldFromTo 69 = .ok (.goto 4, 3) := by decide +kernel
theorem dX0_toldFromTo_72 : decode cX0_toldFromTo 72 = .ok (.iconst 0, 1) := by decide +kernel
theorem dX0_toldFromTo_73 : decode cX0_toldFromTo 73 = .ok (.istore 9, 2) := by decide +kernel
theorem dX0_toldFromTo_75 : decode cX0_toldFromTo 75 = .ok (.iload 5, 2) := by decide +kernel
theorem dX0_toldFromTo_77 : decode cX0_toldFromTo 77 = .ok (.iload 9, 2) := by decide +kernel
theorem dX0_toldFromTo_79 : decode cX0_toldFromTo 79 = .ok (.ifCond .eq 16, 3) := by decide +kernel
theorem dX0_toldFromTo_82 : decode cX0_toldFromTo 82 = .ok (.aload_n 0, 1) := by decide +kernel
theorem dX0_toldFromTo_83 : decode cX0_toldFromTo 83 = .ok (.getfield 16, 3) := by decide +kernel
theorem dX0_toldFromTo_86 : decode cX0_toldFromTo 86 = .ok (.iload 7, 2) := by decide +kernel
theorem dX0_toldFromTo_88 : decode cX0_toldFromTo 88 = .ok (.iconst 2, 1) := by decide +kernel
theorem dX0_toldFromTo_89 : decode cX0_toldFromTo 89 = .ok (.invokevirtual 30, 3) := by decide +kernel
theorem dX0_toldFromTo_92 : decode cX0_toldFromTo 92 = .ok (.goto 4, 3) := by decide +kernel
theorem dX0_toldFromTo_95 : decode cX0_toldFromTo 95 = .ok (.iconst 0, 1) := by decide +kernel
theorem dX0_toldFromTo_96 : decode cX0_toldFromTo 96 = .ok (.iadd, 1) := by decide +kernel
theorem dX0_toldFromTo_97 : decode cX0_toldFromTo 97 = .ok (.istore 5, 2) := by decide +kernel
theorem dX0_toldFromTo_99 : decode cX0_toldFromTo 99 = .ok (.iinc 6 1, 3) := by decide +kernel
theorem dX0_toldFromTo_102 : decode cX0_toldFromTo 102 = .ok (.goto (-96), 3) := by decide +kernel
theorem dX0_toldFromTo_105 : decode cX0_toldFromTo 105 = .ok (.iload 5, 2) := by decide +kernel
theorem dX0_toldFromTo_107 : decode cX0_toldFromTo 107 = .ok (.ireturn, 1) := by decide +kernel
theorem dX0_come_0 : decode cX0_come 0 = .ok (.aload_n 0, 1) := by decide +kernel
theorem dX0_come_1 : decode cX0_come 1 = .ok (.aload_n 0, 1) := by decide +kernel
theorem dX0_come_2 : decode cX0_come 2 = .ok (.getfield 26, 3) := by decide +kernel
theorem dX0_come_5 : decode cX0_come 5 = .ok (.iload_n 1, 1) := by decide +kernel
theorem dX0_come_6 : decode cX0_come 6 = .ok (.iload_n 2, 1) := by decide +kernel
theorem dX0_come_7 : decode cX0_come 7 = .ok (.iload_n 2, 1) := by decide +kernel
theorem dX0_come_8 : decode cX0_come 8 = .ok (.invokevirtual 41, 3) := by decide +kernel
theorem dX0_come_11 : decode cX0_come 11 = .ok (.istore_n 3, 1) := by decide +kernel
theorem dX0_come_12 : decode cX0_come 12 = .ok (.aload_n 0, 1) := by decide +kernel
theorem dX0_come_13 : decode cX0_come 13 = .ok (.getfield 23, 3) := by decide +kernel
theorem dX0_come_16 : decode cX0_come 16 = .ok (.iload_n 1, 1) := by decide +kernel
theorem dX0_come_17 : decode cX0_come 17 = .ok (.iload_n 2, 1) := by decide +kernel
theorem dX0_come_18 : decode cX0_come 18 = .ok (.iload_n 3, 1) := by decide +kernel
theorem dX0_come_19 : decode cX0_come 19 = .ok (.invokevirtual 34, 3) := by decide +kernel
theorem dX0_come_22 : decode cX0_come 22 = .ok (.iload_n 3, 1) := by decide +kernel
theorem dX0_come_23 : decode cX0_come 23 = .ok (.ireturn, 1) := by decide +kernel
theorem dX0_seenOf_0 : decode cX0_seenOf 0 = .ok (.iconst 0, 1) := by decide +kernel
theorem dX0_seenOf_1 : decode cX0_seenOf 1 = .ok (.istore_n 3, 1) := by decide +kernel
theorem dX0_seenOf_2 : decode cX0_seenOf 2 = .ok (.iconst 0, 1) := by decide +kernel
theorem dX0_seenOf_3 : decode cX0_seenOf 3 = .ok (.istore 4, 2) := by decide +kernel
theorem dX0_seenOf_5 : decode cX0_seenOf 5 = .ok (.iload 4, 2) := by decide +kernel
theorem dX0_seenOf_7 : decode cX0_seenOf 7 = .ok (.iload_n 2, 1) := by decide +kernel
theorem dX0_seenOf_8 : decode cX0_seenOf 8 = .ok (.iconst 2, 1) := by decide +kernel
theorem dX0_seenOf_9 : decode cX0_seenOf 9 = .ok (.isub, 1) := by decide +kernel
theorem dX0_seenOf_10 : decode cX0_seenOf 10 = .ok (.if_icmp .gt 22, 3) := by decide +kernel
theorem dX0_seenOf_13 : decode cX0_seenOf 13 = .ok (.iload_n 3, 1) := by decide +kernel
theorem dX0_seenOf_14 : decode cX0_seenOf 14 = .ok (.aload_n 0, 1) := by decide +kernel
theorem dX0_seenOf_15 : decode cX0_seenOf 15 = .ok (.getfield 23, 3) := by decide +kernel
theorem dX0_seenOf_18 : decode cX0_seenOf 18 = .ok (.iload_n 1, 1) := by decide +kernel
theorem dX0_seenOf_19 : decode cX0_seenOf 19 = .ok (.iload 4, 2) := by decide +kernel
theorem dX0_seenOf_21 : decode cX0_seenOf 21 = .ok (.invokevirtual 30, 3) := by decide +kernel
theorem dX0_seenOf_24 : decode cX0_seenOf 24 = .ok (.iadd, 1) := by decide +kernel
theorem dX0_seenOf_25 : decode cX0_seenOf 25 = .ok (.istore_n 3, 1) := by decide +kernel
theorem dX0_seenOf_26 : decode cX0_seenOf 26 = .ok (.iinc 4 1, 3) := by decide +kernel
theorem dX0_seenOf_29 : decode cX0_seenOf 29 = .ok (.goto (-24), 3) := by decide +kernel
theorem dX0_seenOf_32 : decode cX0_seenOf 32 = .ok (.iload_n 3, 1) := by decide +kernel
theorem dX0_seenOf_33 : decode cX0_seenOf 33 = .ok (.ireturn, 1) := by decide +kernel
theorem dX0_guessOn_0 : decode cX0_guessOn 0 = .ok (.iconst (-1), 1) := by decide +kernel
theorem dX0_guessOn_1 : decode cX0_guessOn 1 = .ok (.istore_n 2, 1) := by decide +kernel
theorem dX0_guessOn_2 : decode cX0_guessOn 2 = .ok (.iconst 0, 1) := by decide +kernel
theorem dX0_guessOn_3 : decode cX0_guessOn 3 = .ok (.istore_n 3, 1) := by decide +kernel
theorem dX0_guessOn_4 : decode cX0_guessOn 4 = .ok (.iload_n 3, 1) := by decide +kernel
theorem dX0_guessOn_5 : decode cX0_guessOn 5 = .ok (.iconst 3, 1) := by decide +kernel
theorem dX0_guessOn_6 : decode cX0_guessOn 6 = .ok (.if_icmp .ge 58, 3) := by decide +kernel
theorem dX0_guessOn_9 : decode cX0_guessOn 9 = .ok (.iload_n 2, 1) := by decide +kernel
theorem dX0_guessOn_10 : decode cX0_guessOn 10 = .ok (.iconst (-1), 1) := by decide +kernel
theorem dX0_guessOn_11 : decode cX0_guessOn 11 = .ok (.if_icmp .eq 24, 3) := by decide +kernel
theorem dX0_guessOn_14 : decode cX0_guessOn 14 = .ok (.aload_n 0, 1) := by decide +kernel
theorem dX0_guessOn_15 : decode cX0_guessOn 15 = .ok (.getfield 20, 3) := by decide +kernel
theorem dX0_guessOn_18 : decode cX0_guessOn 18 = .ok (.iload_n 3, 1) := by decide +kernel
theorem dX0_guessOn_19 : decode cX0_guessOn 19 = .ok (.iconst 1, 1) := by decide +kernel
theorem dX0_guessOn_20 : decode cX0_guessOn 20 = .ok (.invokevirtual 30, 3) := by decide +kernel
theorem dX0_guessOn_23 : decode cX0_guessOn 23 = .ok (.aload_n 0, 1) := by decide +kernel
theorem dX0_guessOn_24 : decode cX0_guessOn 24 = .ok (.getfield 20, 3) := by decide +kernel
theorem dX0_guessOn_27 : decode cX0_guessOn 27 = .ok (.iload_n 2, 1) := by decide +kernel
theorem dX0_guessOn_28 : decode cX0_guessOn 28 = .ok (.iconst 1, 1) := by decide +kernel
theorem dX0_guessOn_29 : decode cX0_guessOn 29 = .ok (.invokevirtual 30, 3) := by decide +kernel
theorem dX0_guessOn_32 : decode cX0_guessOn 32 = .ok (.if_icmp .le 7, 3) := by decide +kernel
theorem dX0_guessOn_35 : decode cX0_guessOn 35 = .ok (.iconst 1, 1) := by decide +kernel
theorem dX0_guessOn_36 : decode cX0_guessOn 36 = .ok (.goto 4, 3) := by decide +kernel
theorem dX0_guessOn_39 : decode cX0_guessOn 39 = .ok (.iconst 0, 1) := by decide +kernel
theorem dX0_guessOn_40 : decode cX0_guessOn 40 = .ok (.istore 4, 2) := by decide +kernel
theorem dX0_guessOn_42 : decode cX0_guessOn 42 = .ok (.iload 4, 2) := by decide +kernel
theorem dX0_guessOn_44 : decode cX0_guessOn 44 = .ok (.ifCond .eq 14, 3) := by decide +kernel
theorem dX0_guessOn_47 : decode cX0_guessOn 47 = .ok (.aload_n 0, 1) := by decide +kernel
theorem dX0_guessOn_48 : decode cX0_guessOn 48 = .ok (.iload_n 3, 1) := by decide +kernel
theorem dX0_guessOn_49 : decode cX0_guessOn 49 = .ok (.iload_n 1, 1) := by decide +kernel
theorem dX0_guessOn_50 : decode cX0_guessOn 50 = .ok (.invokevirtual 45, 3) := by decide +kernel
theorem dX0_guessOn_53 : decode cX0_guessOn 53 = .ok (.ifCond .eq 5, 3) := by decide +kernel
theorem dX0_guessOn_56 : decode cX0_guessOn 56 = .ok (.iload_n 3, 1) := by decide +kernel
theorem dX0_guessOn_57 : decode cX0_guessOn 57 = .ok (.istore_n 2, 1) := by decide +kernel
theorem dX0_guessOn_58 : decode cX0_guessOn 58 = .ok (.iinc 3 1, 3) := by decide +kernel
theorem dX0_guessOn_61 : decode cX0_guessOn 61 = .ok (.goto (-57), 3) := by decide +kernel
theorem dX0_guessOn_64 : decode cX0_guessOn 64 = .ok (.iload_n 2, 1) := by decide +kernel
theorem dX0_guessOn_65 : decode cX0_guessOn 65 = .ok (.ireturn, 1) := by decide +kernel
theorem dX0_isPossible_0 : decode cX0_isPossible 0 = .ok (.iconst 0, 1) := by decide +kernel
theorem dX0_isPossible_1 : decode cX0_isPossible 1 = .ok (.istore_n 3, 1) := by decide +kernel
theorem dX0_isPossible_2 : decode cX0_isPossible 2 = .ok (.iload_n 3, 1) := by decide +kernel
theorem dX0_isPossible_3 : decode cX0_isPossible 3 = .ok (.iload_n 2, 1) := by decide +kernel
theorem dX0_isPossible_4 : decode cX0_isPossible 4 = .ok (.iconst 2, 1) := by decide +kernel
theorem dX0_isPossible_5 : decode cX0_isPossible 5 = .ok (.isub, 1) := by decide +kernel
theorem dX0_isPossible_6 : decode cX0_isPossible 6 = .ok (.if_icmp .gt 48, 3) := by decide +kernel
theorem dX0_isPossible_9 : decode cX0_isPossible 9 = .ok (.iconst 0, 1) := by decide +kernel
theorem dX0_isPossible_10 : decode cX0_isPossible 10 = .ok (.istore 4, 2) := by decide +kernel
theorem dX0_isPossible_12 : decode cX0_isPossible 12 = .ok (.iload 4, 2) := by decide +kernel
theorem dX0_isPossible_14 : decode cX0_isPossible 14 = .ok (.iconst 3, 1) := by decide +kernel
theorem dX0_isPossible_15 : decode cX0_isPossible 15 = .ok (.if_icmp .ge 33, 3) := by decide +kernel
theorem dX0_isPossible_18 : decode cX0_isPossible 18 = .ok (.aload_n 0, 1) := by decide +kernel
theorem dX0_isPossible_19 : decode cX0_isPossible 19 = .ok (.iload_n 1, 1) := by decide +kernel
theorem dX0_isPossible_20 : decode cX0_isPossible 20 = .ok (.iload 4, 2) := by decide +kernel
theorem dX0_isPossible_22 : decode cX0_isPossible 22 = .ok (.iload_n 3, 1) := by decide +kernel
theorem dX0_isPossible_23 : decode cX0_isPossible 23 = .ok (.iload_n 3, 1) := by decide +kernel
theorem dX0_isPossible_24 : decode cX0_isPossible 24 = .ok (.invokevirtual 41, 3) := by decide +kernel
theorem dX0_isPossible_27 : decode cX0_isPossible 27 = .ok (.aload_n 0, 1) := by decide +kernel
theorem dX0_isPossible_28 : decode cX0_isPossible 28 = .ok (.getfield 23, 3) := by decide +kernel
theorem dX0_isPossible_31 : decode cX0_isPossible 31 = .ok (.iload 4, 2) := by decide +kernel
theorem dX0_isPossible_33 : decode cX0_isPossible 33 = .ok (.iload_n 3, 1) := by decide +kernel
theorem dX0_isPossible_34 : decode cX0_isPossible 34 = .ok (.invokevirtual 30, 3) := by decide +kernel
theorem dX0_isPossible_37 : decode cX0_isPossible 37 = .ok (.if_icmp .eq 5, 3) := by decide +kernel
theorem dX0_isPossible_40 : decode cX0_isPossible 40 = .ok (.iconst 0, 1) := by decide +kernel
theorem dX0_isPossible_41 : decode cX0_isPossible 41 = .ok (.ireturn, 1) := by decide +kernel
theorem dX0_isPossible_42 : decode cX0_isPossible 42 = .ok (.iinc 4 1, 3) := by decide +kernel
theorem dX0_isPossible_45 : decode cX0_isPossible 45 = .ok (.goto (-33), 3) := by decide +kernel
theorem dX0_isPossible_48 : decode cX0_isPossible 48 = .ok (.iinc 3 1, 3) := by decide +kernel
theorem dX0_isPossible_51 : decode cX0_isPossible 51 = .ok (.goto (-49), 3) := by decide +kernel
theorem dX0_isPossible_54 : decode cX0_isPossible 54 = .ok (.iconst 1, 1) := by decide +kernel
theorem dX0_isPossible_55 : decode cX0_isPossible 55 = .ok (.ireturn, 1) := by decide +kernel
theorem dX1_init_0 : decode cX1_init 0 = .ok (.aload_n 0, 1) := by decide +kernel
theorem dX1_init_1 : decode cX1_init 1 = .ok (.invokespecial 3, 3) := by decide +kernel
theorem dX1_init_4 : decode cX1_init 4 = .ok (.aload_n 0, 1) := by decide +kernel
theorem dX1_init_5 : decode cX1_init 5 = .ok (.new 9, 3) := by decide +kernel
theorem dX1_init_8 : decode cX1_init 8 = .ok (.dup, 1) := by decide +kernel
theorem dX1_init_9 : decode cX1_init 9 = .ok (.bipush 10, 2) := by decide +kernel
theorem dX1_init_11 : decode cX1_init 11 = .ok (.iconst 5, 1) := by decide +kernel
theorem dX1_init_12 : decode cX1_init 12 = .ok (.invokespecial 13, 3) := by decide +kernel
theorem dX1_init_15 : decode cX1_init 15 = .ok (.putfield 16, 3) := by decide +kernel
theorem dX1_init_18 : decode cX1_init 18 = .ok (.aload_n 0, 1) := by decide +kernel
theorem dX1_init_19 : decode cX1_init 19 = .ok (.new 9, 3) := by decide +kernel
theorem dX1_init_22 : decode cX1_init 22 = .ok (.dup, 1) := by decide +kernel
theorem dX1_init_23 : decode cX1_init 23 = .ok (.bipush 14, 2) := by decide +kernel
theorem dX1_init_25 : decode cX1_init 25 = .ok (.bipush 8, 2) := by decide +kernel
theorem dX1_init_27 : decode cX1_init 27 = .ok (.invokespecial 13, 3) := by decide +kernel
theorem dX1_init_30 : decode cX1_init 30 = .ok (.putfield 20, 3) := by decide +kernel
theorem dX1_init_33 : decode cX1_init 33 = .ok (.aload_n 0, 1) := by decide +kernel
theorem dX1_init_34 : decode cX1_init 34 = .ok (.new 9, 3) := by decide +kernel
theorem dX1_init_37 : decode cX1_init 37 = .ok (.dup, 1) := by decide +kernel
theorem dX1_init_38 : decode cX1_init 38 = .ok (.bipush 10, 2) := by decide +kernel
theorem dX1_init_40 : decode cX1_init 40 = .ok (.bipush 10, 2) := by decide +kernel
theorem dX1_init_42 : decode cX1_init 42 = .ok (.invokespecial 13, 3) := by decide +kernel
theorem dX1_init_45 : decode cX1_init 45 = .ok (.putfield 23, 3) := by decide +kernel
theorem dX1_init_48 : decode cX1_init 48 = .ok (.aload_n 0, 1) := by decide +kernel
theorem dX1_init_49 : decode cX1_init 49 = .ok (.new 9, 3) := by decide +kernel
theorem dX1_init_52 : decode cX1_init 52 = .ok (.dup, 1) := by decide +kernel
theorem dX1_init_53 : decode cX1_init 53 = .ok (.bipush 10, 2) := by decide +kernel
theorem dX1_init_55 : decode cX1_init 55 = .ok (.bipush 10, 2) := by decide +kernel
theorem dX1_init_57 : decode cX1_init 57 = .ok (.invokespecial 13, 3) := by decide +kernel
theorem dX1_init_60 : decode cX1_init 60 = .ok (.putfield 26, 3) := by decide +kernel
theorem dX1_init_63 : decode cX1_init 63 = .ok (.aload_n 0, 1) := by decide +kernel
theorem dX1_init_64 : decode cX1_init 64 = .ok (.iconst 0, 1) := by decide +kernel
theorem dX1_init_65 : decode cX1_init 65 = .ok (.putfield 29, 3) := by decide +kernel
theorem dX1_init_68 : decode cX1_init 68 = .ok (.aload_n 0, 1) := by decide +kernel
theorem dX1_init_69 : decode cX1_init 69 = .ok (.iconst 0, 1) := by decide +kernel
theorem dX1_init_70 : decode cX1_init 70 = .ok (.putfield 33, 3) := by decide +kernel
theorem dX1_init_73 : decode cX1_init 73 = .ok (.return_, 1) := by decide +kernel
theorem dX1_countStations_0 : decode cX1_countStations 0 = .ok (.aload_n 0, 1) := by decide +kernel
theorem dX1_countStations_1 : decode cX1_countStations 1 = .ok (.getfield 29, 3) := by decide +kernel
theorem dX1_countStations_4 : decode cX1_countStations 4 = .ok (.ireturn, 1) := by decide +kernel
theorem dX1_countLines_0 : decode cX1_countLines 0 = .ok (.aload_n 0, 1) := by decide +kernel
theorem dX1_countLines_1 : decode cX1_countLines 1 = .ok (.getfield 33, 3) := by decide +kernel
theorem dX1_countLines_4 : decode cX1_countLines 4 = .ok (.ireturn, 1) := by decide +kernel
theorem dX1_hasStation_0 : decode cX1_hasStation 0 = .ok (.iload_n 1, 1) := by decide +kernel
theorem dX1_hasStation_1 : decode cX1_hasStation 1 = .ok (.ifCond .lt 15, 3) := by decide +kernel
theorem dX1_hasStation_4 : decode cX1_hasStation 4 = .ok (.iload_n 1, 1) := by decide +kernel
theorem dX1_hasStation_5 : decode cX1_hasStation 5 = .ok (.aload_n 0, 1) := by decide +kernel
theorem dX1_hasStation_6 : decode cX1_hasStation 6 = .ok (.getfield 29, 3) := by decide +kernel
theorem dX1_hasStation_9 : decode cX1_hasStation 9 = .ok (.if_icmp .ge 7, 3) := by decide +kernel
theorem dX1_hasStation_12 : decode cX1_hasStation 12 = .ok (.iconst 1, 1) := by decide +kernel
theorem dX1_hasStation_13 : decode cX1_hasStation 13 = .ok (.goto 4, 3) := by decide +kernel
theorem dX1_hasStation_16 : decode cX1_hasStation 16 = .ok (.iconst 0, 1) := by decide +kernel
theorem dX1_hasStation_17 : decode cX1_hasStation 17 = .ok (.ireturn, 1) := by decide +kernel
theorem dX1_hasLine_0 : decode cX1_hasLine 0 = .ok (.iload_n 1, 1) := by decide +kernel
theorem dX1_hasLine_1 : decode cX1_hasLine 1 = .ok (.ifCond .lt 15, 3) := by decide +kernel
theorem dX1_hasLine_4 : decode cX1_hasLine 4 = .ok (.iload_n 1, 1) := by decide +kernel
theorem dX1_hasLine_5 : decode cX1_hasLine 5 = .ok (.aload_n 0, 1) := by decide +kernel
theorem dX1_hasLine_6 : decode cX1_hasLine 6 = .ok (.getfield 33, 3) := by decide +kernel
theorem dX1_hasLine_9 : decode cX1_hasLine 9 = .ok (.if_icmp .ge 7, 3) := by decide +kernel
theorem dX1_hasLine_12 : decode cX1_hasLine 12 = .ok (.iconst 1, 1) := by decide +kernel
theorem dX1_hasLine_13 : decode cX1_hasLine 13 = .ok (.goto 4, 3) := by decide +kernel
theorem dX1_hasLine_16 : decode cX1_hasLine 16 = .ok (.iconst 0, 1) := by decide +kernel
theorem dX1_hasLine_17 : decode cX1_hasLine 17 = .ok (.ireturn, 1) := by decide +kernel
theorem dX1_getStation_0 : decode cX1_getStation 0 = .ok (.aload_n 0, 1) := by decide +kernel
theorem dX1_getStation_1 : decode cX1_getStation 1 = .ok (.getfield 16, 3) := by decide +kernel
theorem dX1_getStation_4 : decode cX1_getStation 4 = .ok (.iload_n 1, 1) := by decide +kernel
theorem dX1_getStation_5 : decode cX1_getStation 5 = .ok (.iload_n 2, 1) := by decide +kernel
theorem dX1_getStation_6 : decode cX1_getStation 6 = .ok (.invokevirtual 36, 3) := by decide +kernel
theorem dX1_getStation_9 : decode cX1_getStation 9 = .ok (.ireturn, 1) := by decide +kernel
theorem dX1_setStation_0 : decode cX1_setStation 0 = .ok (.aload_n 0, 1) := by decide +kernel
theorem dX1_setStation_1 : decode cX1_setStation 1 = .ok (.getfield 16, 3) := by decide +kernel
theorem dX1_setStation_4 : decode cX1_setStation 4 = .ok (.iload_n 1, 1) := by decide +kernel
theorem dX1_setStation_5 : decode cX1_setStation 5 = .ok (.iload_n 2, 1) := by decide +kernel
theorem dX1_setStation_6 : decode cX1_setStation 6 = .ok (.iload_n 3, 1) := by decide +kernel
theorem dX1_setStation_7 : decode cX1_setStation 7 = .ok (.invokevirtual 40, 3) := by decide +kernel
theorem dX1_setStation_10 : decode cX1_setStation 10 = .ok (.return_, 1) := by decide +kernel
theorem dX1_getLine_0 : decode cX1_getLine 0 = .ok (.aload_n 0, 1) := by decide +kernel
theorem dX1_getLine_1 : decode cX1_getLine 1 = .ok (.getfield 20, 3) := by decide +kernel
theorem dX1_getLine_4 : decode cX1_getLine 4 = .ok (.iload_n 1, 1) := by decide +kernel
theorem dX1_getLine_5 : decode cX1_getLine 5 = .ok (.iload_n 2, 1) := by decide +kernel
theorem dX1_getLine_6 : decode cX1_getLine 6 = .ok (.invokevirtual 36, 3) := by decide +kernel
theorem dX1_getLine_9 : decode cX1_getLine 9 = .ok (.ireturn, 1) := by decide +kernel
theorem dX1_addStation_0 : decode cX1_addStation 0 = .ok (.aload_n 0, 1) := by decide +kernel
theorem dX1_addStation_1 : decode cX1_addStation 1 = .ok (.getfield 29, 3) := by decide +kernel
theorem dX1_addStation_4 : decode cX1_addStation 4 = .ok (.istore 5, 2) := by decide +kernel
theorem dX1_addStation_6 : decode cX1_addStation 6 = .ok (.aload_n 0, 1) := by decide +kernel
theorem dX1_addStation_7 : decode cX1_addStation 7 = .ok (.getfield 16, 3) := by decide +kernel
theorem dX1_addStation_10 : decode cX1_addStation 10 = .ok (.iload 5, 2) := by decide +kernel
theorem dX1_addStation_12 : decode cX1_addStation 12 = .ok (.iconst 0, 1) := by decide +kernel
theorem dX1_addStation_13 : decode cX1_addStation 13 = .ok (.iload_n 1, 1) := by decide +kernel
theorem dX1_addStation_14 : decode cX1_addStation 14 = .ok (.invokevirtual 40, 3) := by decide +kernel
theorem dX1_addStation_17 : decode cX1_addStation 17 = .ok (.aload_n 0, 1) := by decide +kernel
theorem dX1_addStation_18 : decode cX1_addStation 18 = .ok (.getfield 16, 3) := by decide +kernel
theorem dX1_addStation_21 : decode cX1_addStation 21 = .ok (.iload 5, 2) := by decide +kernel
theorem dX1_addStation_23 : decode cX1_addStation 23 = .ok (.iconst 1, 1) := by decide +kernel
theorem dX1_addStation_24 : decode cX1_addStation 24 = .ok (.iload_n 2, 1) := by decide +kernel
theorem dX1_addStation_25 : decode cX1_addStation 25 = .ok (.invokevirtual 40, 3) := by decide +kernel
theorem dX1_addStation_28 : decode cX1_addStation 28 = .ok (.aload_n 0, 1) := by decide +kernel
theorem dX1_addStation_29 : decode cX1_addStation 29 = .ok (.getfield 16, 3) := by decide +kernel
theorem dX1_addStation_32 : decode cX1_addStation 32 = .ok (.iload 5, 2) := by decide +kernel
theorem dX1_addStation_34 : decode cX1_addStation 34 = .ok (.iconst 2, 1) := by decide +kernel
theorem dX1_addStation_35 : decode cX1_addStation 35 = .ok (.iload_n 3, 1) := by decide +kernel
theorem dX1_addStation_36 : decode cX1_addStation 36 = .ok (.invokevirtual 40, 3) := by decide +kernel
theorem dX1_addStation_39 : decode cX1_addStation 39 = .ok (.aload_n 0, 1) := by decide +kernel
theorem dX1_addStation_40 : decode cX1_addStation 40 = .ok (.getfield 16, 3) := by decide +kernel
theorem dX1_addStation_43 : decode cX1_addStation 43 = .ok (.iload 5, 2) := by decide +kernel
theorem dX1_addStation_45 : decode cX1_addStation 45 = .ok (.iconst 3, 1) := by decide +kernel
theorem dX1_addStation_46 : decode cX1_addStation 46 = .ok (.iload 4, 2) := by decide +kernel
theorem dX1_addStation_48 : decode cX1_addStation 48 = .ok (.ifCond .eq 7, 3) := by decide +kernel
theorem dX1_addStation_51 : decode cX1_addStation 51 = .ok (.iconst 1, 1) := by decide +kernel
theorem dX1_addStation_52 : decode cX1_addStation 52 = .ok (.goto 4, 3) := by decide +kernel
theorem dX1_addStation_55 : decode cX1_addStation 55 = .ok (.iconst 0, 1) := by decide +kernel
theorem dX1_addStation_56 : decode cX1_addStation 56 = .ok (.invokevirtual 40, 3) := by decide +kernel
theorem dX1_addStation_59 : decode cX1_addStation 59 = .ok (.aload_n 0, 1) := by decide +kernel
theorem dX1_addStation_60 : decode cX1_addStation 60 = .ok (.dup, 1) := by decide +kernel
theorem dX1_addStation_61 : decode cX1_addStation 61 = .ok (.getfield 29, 3) := by decide +kernel
theorem dX1_addStation_64 : decode cX1_addStation 64 = .ok (.iconst 1, 1) := by decide +kernel
theorem dX1_addStation_65 : decode cX1_addStation 65 = .ok (.iadd, 1) := by decide +kernel
theorem dX1_addStation_66 : decode cX1_addStation 66 = .ok (.putfield 29, 3) := by decide +kernel
theorem dX1_addStation_69 : decode cX1_addStation 69 = .ok (.aload_n 0, 1) := by decide +kernel
theorem dX1_addStation_70 : decode cX1_addStation 70 = .ok (.invokevirtual 44, 3) := by decide +kernel
theorem dX1_addStation_73 : decode cX1_addStation 73 = .ok (.iload 5, 2) := by decide +kernel
theorem dX1_addStation_75 : decode cX1_addStation 75 = .ok (.ireturn, 1) := by decide +kernel
theorem dX1_addLine_0 : decode cX1_addLine 0 = .ok (.aload_n 0, 1) := by decide +kernel
theorem dX1_addLine_1 : decode cX1_addLine 1 = .ok (.getfield 33, 3) := by decide +kernel
theorem dX1_addLine_4 : decode cX1_addLine 4 = .ok (.istore 6, 2) := by decide +kernel
theorem dX1_addLine_6 : decode cX1_addLine 6 = .ok (.aload_n 0, 1) := by decide +kernel
theorem dX1_addLine_7 : decode cX1_addLine 7 = .ok (.getfield 20, 3) := by decide +kernel
theorem dX1_addLine_10 : decode cX1_addLine 10 = .ok (.iload 6, 2) := by decide +kernel
theorem dX1_addLine_12 : decode cX1_addLine 12 = .ok (.iconst 0, 1) := by decide +kernel
theorem dX1_addLine_13 : decode cX1_addLine 13 = .ok (.iload_n 1, 1) := by decide +kernel
theorem dX1_addLine_14 : decode cX1_addLine 14 = .ok (.invokevirtual 40, 3) := by decide +kernel
theorem dX1_addLine_17 : decode cX1_addLine 17 = .ok (.aload_n 0, 1) := by decide +kernel
theorem dX1_addLine_18 : decode cX1_addLine 18 = .ok (.getfield 20, 3) := by decide +kernel
theorem dX1_addLine_21 : decode cX1_addLine 21 = .ok (.iload 6, 2) := by decide +kernel
theorem dX1_addLine_23 : decode cX1_addLine 23 = .ok (.iconst 1, 1) := by decide +kernel
theorem dX1_addLine_24 : decode cX1_addLine 24 = .ok (.iload_n 2, 1) := by decide +kernel
theorem dX1_addLine_25 : decode cX1_addLine 25 = .ok (.invokevirtual 40, 3) := by decide +kernel
theorem dX1_addLine_28 : decode cX1_addLine 28 = .ok (.aload_n 0, 1) := by decide +kernel
theorem dX1_addLine_29 : decode cX1_addLine 29 = .ok (.getfield 20, 3) := by decide +kernel
theorem dX1_addLine_32 : decode cX1_addLine 32 = .ok (.iload 6, 2) := by decide +kernel
theorem dX1_addLine_34 : decode cX1_addLine 34 = .ok (.iconst 2, 1) := by decide +kernel
theorem dX1_addLine_35 : decode cX1_addLine 35 = .ok (.iload_n 3, 1) := by decide +kernel
theorem dX1_addLine_36 : decode cX1_addLine 36 = .ok (.invokevirtual 40, 3) := by decide +kernel
theorem dX1_addLine_39 : decode cX1_addLine 39 = .ok (.aload_n 0, 1) := by decide +kernel
theorem dX1_addLine_40 : decode cX1_addLine 40 = .ok (.getfield 20, 3) := by decide +kernel
theorem dX1_addLine_43 : decode cX1_addLine 43 = .ok (.iload 6, 2) := by decide +kernel
theorem dX1_addLine_45 : decode cX1_addLine 45 = .ok (.iconst 3, 1) := by decide +kernel
theorem dX1_addLine_46 : decode cX1_addLine 46 = .ok (.iconst 2, 1) := by decide +kernel
theorem dX1_addLine_47 : decode cX1_addLine 47 = .ok (.iload 5, 2) := by decide +kernel
theorem dX1_addLine_49 : decode cX1_addLine 49 = .ok (.iadd, 1) := by decide +kernel
theorem dX1_addLine_50 : decode cX1_addLine 50 = .ok (.invokevirtual 40, 3) := by decide +kernel
theorem dX1_addLine_53 : decode cX1_addLine 53 = .ok (.aload_n 0, 1) := by decide +kernel
theorem dX1_addLine_54 : decode cX1_addLine 54 = .ok (.getfield 20, 3) := by decide +kernel
theorem dX1_addLine_57 : decode cX1_addLine 57 = .ok (.iload 6, 2) := by decide +kernel
theorem dX1_addLine_59 : decode cX1_addLine 59 = .ok (.bipush 7, 2) := by decide +kernel
theorem dX1_addLine_61 : decode cX1_addLine 61 = .ok (.iload_n 3, 1) := by decide +kernel
theorem dX1_addLine_62 : decode cX1_addLine 62 = .ok (.iconst 2, 1) := by decide +kernel
theorem dX1_addLine_63 : decode cX1_addLine 63 = .ok (.iload 5, 2) := by decide +kernel
theorem dX1_addLine_65 : decode cX1_addLine 65 = .ok (.iadd, 1) := by decide +kernel
theorem dX1_addLine_66 : decode cX1_addLine 66 = .ok (.imul, 1) := by decide +kernel
theorem dX1_addLine_67 : decode cX1_addLine 67 = .ok (.invokevirtual 40, 3) := by decide +kernel
theorem dX1_addLine_70 : decode cX1_addLine 70 = .ok (.aload_n 0, 1) := by decide +kernel
theorem dX1_addLine_71 : decode cX1_addLine 71 = .ok (.getfield 20, 3) := by decide +kernel
theorem dX1_addLine_74 : decode cX1_addLine 74 = .ok (.iload 6, 2) := by decide +kernel
theorem dX1_addLine_76 : decode cX1_addLine 76 = .ok (.iconst 4, 1) := by decide +kernel
theorem dX1_addLine_77 : decode cX1_addLine 77 = .ok (.iconst 1, 1) := by decide +kernel
theorem dX1_addLine_78 : decode cX1_addLine 78 = .ok (.invokevirtual 40, 3) := by decide +kernel
theorem dX1_addLine_81 : decode cX1_addLine 81 = .ok (.aload_n 0, 1) := by decide +kernel
theorem dX1_addLine_82 : decode cX1_addLine 82 = .ok (.getfield 20, 3) := by decide +kernel
theorem dX1_addLine_85 : decode cX1_addLine 85 = .ok (.iload 6, 2) := by decide +kernel
theorem dX1_addLine_87 : decode cX1_addLine 87 = .ok (.iconst 5, 1) := by decide +kernel
theorem dX1_addLine_88 : decode cX1_addLine 88 = .ok (.iload 4, 2) := by decide +kernel
theorem dX1_addLine_90 : decode cX1_addLine 90 = .ok (.ifCond .eq 7, 3) := by decide +kernel
theorem dX1_addLine_93 : decode cX1_addLine 93 = .ok (.iconst 1, 1) := by decide +kernel
theorem dX1_addLine_94 : decode cX1_addLine 94 = .ok (.goto 4, 3) := by decide +kernel
theorem dX1_addLine_97 : decode cX1_addLine 97 = .ok (.iconst 0, 1) := by decide +kernel
theorem dX1_addLine_98 : decode cX1_addLine 98 = .ok (.invokevirtual 40, 3) := by decide +kernel
theorem dX1_addLine_101 : decode cX1_addLine 101 = .ok (.aload_n 0, 1) := by decide +kernel
theorem dX1_addLine_102 : decode cX1_addLine 102 = .ok (.dup, 1) := by decide +kernel
theorem dX1_addLine_103 : decode cX1_addLine 103 = .ok (.getfield 33, 3) := by decide +kernel
theorem dX1_addLine_106 : decode cX1_addLine 106 = .ok (.iconst 1, 1) := by decide +kernel
theorem dX1_addLine_107 : decode cX1_addLine 107 = .ok (.iadd, 1) := by decide +kernel
theorem dX1_addLine_108 : decode cX1_addLine 108 = .ok (.putfield 33, 3) := by decide +kernel
theorem dX1_addLine_111 : decode cX1_addLine 111 = .ok (.aload_n 0, 1) := by decide +kernel
theorem dX1_addLine_112 : decode cX1_addLine 112 = .ok (.invokevirtual 44, 3) := by decide +kernel
theorem dX1_addLine_115 : decode cX1_addLine 115 = .ok (.iload 6, 2) := by decide +kernel
theorem dX1_addLine_117 : decode cX1_addLine 117 = .ok (.ireturn, 1) := by decide +kernel
theorem dX1_addWhole_0 : decode cX1_addWhole 0 = .ok (.iconst 0, 1) := by decide +kernel
theorem dX1_addWhole_1 : decode cX1_addWhole 1 = .ok (.istore_n 3, 1) := by decide +kernel
theorem dX1_addWhole_2 : decode cX1_addWhole 2 = .ok (.iload_n 3, 1) := by decide +kernel
theorem dX1_addWhole_3 : decode cX1_addWhole 3 = .ok (.bipush 6, 2) := by decide +kernel
theorem dX1_addWhole_5 : decode cX1_addWhole 5 = .ok (.if_icmp .ge 28, 3) := by decide +kernel
theorem dX1_addWhole_8 : decode cX1_addWhole 8 = .ok (.aload_n 0, 1) := by decide +kernel
theorem dX1_addWhole_9 : decode cX1_addWhole 9 = .ok (.iconst 2, 1) := by decide +kernel
theorem dX1_addWhole_10 : decode cX1_addWhole 10 = .ok (.iconst 3, 1) := by decide +kernel
theorem dX1_addWhole_11 : decode cX1_addWhole 11 = .ok (.iconst 4, 1) := by decide +kernel
theorem dX1_addWhole_12 : decode cX1_addWhole 12 = .ok (.iload_n 3, 1) := by decide +kernel
theorem dX1_addWhole_13 : decode cX1_addWhole 13 = .ok (.iconst 2, 1) := by decide +kernel
theorem dX1_addWhole_14 : decode cX1_addWhole 14 = .ok (.irem, 1) := by decide +kernel
theorem dX1_addWhole_15 : decode cX1_addWhole 15 = .ok (.ifCond .ne 7, 3) := by decide +kernel
theorem dX1_addWhole_18 : decode cX1_addWhole 18 = .ok (.iconst 1, 1) := by decide +kernel
theorem dX1_addWhole_19 : decode cX1_addWhole 19 = .ok (.goto 4, 3) := by decide +kernel
theorem dX1_addWhole_22 : decode cX1_addWhole 22 = .ok (.iconst 0, 1) := by decide +kernel
theorem dX1_addWhole_23 : decode cX1_addWhole 23 = .ok (.invokevirtual 47, 3) := by decide +kernel
theorem dX1_addWhole_26 : decode cX1_addWhole 26 = .ok (.pop, 1) := by decide +kernel
theorem dX1_addWhole_27 : decode cX1_addWhole 27 = .ok (.iinc 3 1, 3) := by decide +kernel
theorem dX1_addWhole_30 : decode cX1_addWhole 30 = .ok (.goto (-28), 3) := by decide +kernel
theorem dX1_addWhole_33 : decode cX1_addWhole 33 = .ok (.iconst 0, 1) := by decide +kernel
theorem dX1_addWhole_34 : decode cX1_addWhole 34 = .ok (.istore_n 3, 1) := by decide +kernel
theorem dX1_addWhole_35 : decode cX1_addWhole 35 = .ok (.iload_n 3, 1) := by decide +kernel
theorem dX1_addWhole_36 : decode cX1_addWhole 36 = .ok (.iconst 5, 1) := by decide +kernel
theorem dX1_addWhole_37 : decode cX1_addWhole 37 = .ok (.if_icmp .ge 21, 3) := by decide +kernel
theorem dX1_addWhole_40 : decode cX1_addWhole 40 = .ok (.aload_n 0, 1) := by decide +kernel
theorem dX1_addWhole_41 : decode cX1_addWhole 41 = .ok (.iload_n 3, 1) := by decide +kernel
theorem dX1_addWhole_42 : decode cX1_addWhole 42 = .ok (.iload_n 3, 1) := by decide +kernel
theorem dX1_addWhole_43 : decode cX1_addWhole 43 = .ok (.iconst 1, 1) := by decide +kernel
theorem dX1_addWhole_44 : decode cX1_addWhole 44 = .ok (.iadd, 1) := by decide +kernel
theorem dX1_addWhole_45 : decode cX1_addWhole 45 = .ok (.iconst 2, 1) := by decide +kernel
theorem dX1_addWhole_46 : decode cX1_addWhole 46 = .ok (.iconst 1, 1) := by decide +kernel
theorem dX1_addWhole_47 : decode cX1_addWhole 47 = .ok (.iconst 0, 1) := by decide +kernel
theorem dX1_addWhole_48 : decode cX1_addWhole 48 = .ok (.invokevirtual 51, 3) := by decide +kernel
theorem dX1_addWhole_51 : decode cX1_addWhole 51 = .ok (.pop, 1) := by decide +kernel
theorem dX1_addWhole_52 : decode cX1_addWhole 52 = .ok (.iinc 3 1, 3) := by decide +kernel
theorem dX1_addWhole_55 : decode cX1_addWhole 55 = .ok (.goto (-20), 3) := by decide +kernel
theorem dX1_addWhole_58 : decode cX1_addWhole 58 = .ok (.iconst 0, 1) := by decide +kernel
theorem dX1_addWhole_59 : decode cX1_addWhole 59 = .ok (.istore_n 3, 1) := by decide +kernel
theorem dX1_addWhole_60 : decode cX1_addWhole 60 = .ok (.iload_n 3, 1) := by decide +kernel
theorem dX1_addWhole_61 : decode cX1_addWhole 61 = .ok (.iconst 3, 1) := by decide +kernel
theorem dX1_addWhole_62 : decode cX1_addWhole 62 = .ok (.if_icmp .ge 21, 3) := by decide +kernel
theorem dX1_addWhole_65 : decode cX1_addWhole 65 = .ok (.aload_n 0, 1) := by decide +kernel
theorem dX1_addWhole_66 : decode cX1_addWhole 66 = .ok (.iload_n 3, 1) := by decide +kernel
theorem dX1_addWhole_67 : decode cX1_addWhole 67 = .ok (.iload_n 3, 1) := by decide +kernel
theorem dX1_addWhole_68 : decode cX1_addWhole 68 = .ok (.iconst 3, 1) := by decide +kernel
theorem dX1_addWhole_69 : decode cX1_addWhole 69 = .ok (.iadd, 1) := by decide +kernel
theorem dX1_addWhole_70 : decode cX1_addWhole 70 = .ok (.iload_n 1, 1) := by decide +kernel
theorem dX1_addWhole_71 : decode cX1_addWhole 71 = .ok (.iconst 0, 1) := by decide +kernel
theorem dX1_addWhole_72 : decode cX1_addWhole 72 = .ok (.iload_n 2, 1) := by decide +kernel
theorem dX1_addWhole_73 : decode cX1_addWhole 73 = .ok (.invokevirtual 51, 3) := by decide +kernel
theorem dX1_addWhole_76 : decode cX1_addWhole 76 = .ok (.pop, 1) := by decide +kernel
theorem dX1_addWhole_77 : decode cX1_addWhole 77 = .ok (.iinc 3 1, 3) := by decide +kernel
theorem dX1_addWhole_80 : decode cX1_addWhole 80 = .ok (.goto (-20), 3) := by decide +kernel
theorem dX1_addWhole_83 : decode cX1_addWhole 83 = .ok (.return_, 1) := by decide +kernel
theorem dX1_turnBridge_0 : decode cX1_turnBridge 0 = .ok (.aload_n 0, 1) := by decide +kernel
theorem dX1_turnBridge_1 : decode cX1_turnBridge 1 = .ok (.getfield 20, 3) := by decide +kernel
theorem dX1_turnBridge_4 : decode cX1_turnBridge 4 = .ok (.iload_n 1, 1) := by decide +kernel
theorem dX1_turnBridge_5 : decode cX1_turnBridge 5 = .ok (.iconst 4, 1) := by decide +kernel
theorem dX1_turnBridge_6 : decode cX1_turnBridge 6 = .ok (.invokevirtual 36, 3) := by decide +kernel
theorem dX1_turnBridge_9 : decode cX1_turnBridge 9 = .ok (.ifCond .ne 7, 3) := by decide +kernel
theorem dX1_turnBridge_12 : decode cX1_turnBridge 12 = .ok (.iconst 1, 1) := by decide +kernel
theorem dX1_turnBridge_13 : decode cX1_turnBridge 13 = .ok (.goto 4, 3) := by decide +kernel
theorem dX1_turnBridge_16 : decode cX1_turnBridge 16 = .ok (.iconst 0, 1) := by decide +kernel
theorem dX1_turnBridge_17 : decode cX1_turnBridge 17 = .ok (.istore_n 2, 1) := by decide +kernel
theorem dX1_turnBridge_18 : decode cX1_turnBridge 18 = .ok (.aload_n 0, 1) := by decide +kernel
theorem dX1_turnBridge_19 : decode cX1_turnBridge 19 = .ok (.getfield 20, 3) := by decide +kernel
theorem dX1_turnBridge_22 : decode cX1_turnBridge 22 = .ok (.iload_n 1, 1) := by decide +kernel
theorem dX1_turnBridge_23 : decode cX1_turnBridge 23 = .ok (.iconst 4, 1) := by decide +kernel
theorem dX1_turnBridge_24 : decode cX1_turnBridge 24 = .ok (.iload_n 2, 1) := by decide +kernel
theorem dX1_turnBridge_25 : decode cX1_turnBridge 25 = .ok (.ifCond .eq 7, 3) := by decide +kernel
theorem dX1_turnBridge_28 : decode cX1_turnBridge 28 = .ok (.iconst 1, 1) := by decide +kernel
theorem dX1_turnBridge_29 : decode cX1_turnBridge 29 = .ok (.goto 4, 3) := by decide +kernel
theorem dX1_turnBridge_32 : decode cX1_turnBridge 32 = .ok (.iconst 0, 1) := by decide +kernel
theorem dX1_turnBridge_33 : decode cX1_turnBridge 33 = .ok (.invokevirtual 40, 3) := by decide +kernel
theorem dX1_turnBridge_36 : decode cX1_turnBridge 36 = .ok (.aload_n 0, 1) := by decide +kernel
theorem dX1_turnBridge_37 : decode cX1_turnBridge 37 = .ok (.invokevirtual 44, 3) := by decide +kernel
theorem dX1_turnBridge_40 : decode cX1_turnBridge 40 = .ok (.iload_n 2, 1) := by decide +kernel
theorem dX1_turnBridge_41 : decode cX1_turnBridge 41 = .ok (.ireturn, 1) := by decide +kernel
theorem dX1_addEngines_0 : decode cX1_addEngines 0 = .ok (.aload_n 0, 1) := by decide +kernel
theorem dX1_addEngines_1 : decode cX1_addEngines 1 = .ok (.getfield 16, 3) := by decide +kernel
theorem dX1_addEngines_4 : decode cX1_addEngines 4 = .ok (.iload_n 1, 1) := by decide +kernel
theorem dX1_addEngines_5 : decode cX1_addEngines 5 = .ok (.iconst 2, 1) := by decide +kernel
theorem dX1_addEngines_6 : decode cX1_addEngines 6 = .ok (.iload_n 2, 1) := by decide +kernel
theorem dX1_addEngines_7 : decode cX1_addEngines 7 = .ok (.invokevirtual 55, 3) := by decide +kernel
theorem dX1_addEngines_10 : decode cX1_addEngines 10 = .ok (.return_, 1) := by decide +kernel
theorem dX1_addThrough_0 : decode cX1_addThrough 0 = .ok (.aload_n 0, 1) := by decide +kernel
theorem dX1_addThrough_1 : decode cX1_addThrough 1 = .ok (.getfield 20, 3) := by decide +kernel
theorem dX1_addThrough_4 : decode cX1_addThrough 4 = .ok (.iload_n 1, 1) := by decide +kernel
theorem dX1_addThrough_5 : decode cX1_addThrough 5 = .ok (.bipush 6, 2) := by decide +kernel
theorem dX1_addThrough_7 : decode cX1_addThrough 7 = .ok (.iconst 1, 1) := by decide +kernel
theorem dX1_addThrough_8 : decode cX1_addThrough 8 = .ok (.invokevirtual 55, 3) := by decide +kernel
theorem dX1_addThrough_11 : decode cX1_addThrough 11 = .ok (.return_, 1) := by decide +kernel
theorem dX1_clearFoul_0 : decode cX1_clearFoul 0 = .ok (.iconst 0, 1) := by decide +kernel
theorem dX1_clearFoul_1 : decode cX1_clearFoul 1 = .ok (.istore_n 1, 1) := by decide +kernel
theorem dX1_clearFoul_2 : decode cX1_clearFoul 2 = .ok (.iload_n 1, 1) := by decide +kernel
theorem dX1_clearFoul_3 : decode cX1_clearFoul 3 = .ok (.aload_n 0, 1) := by decide +kernel
theorem dX1_clearFoul_4 : decode cX1_clearFoul 4 = .ok (.getfield 29, 3) := by decide +kernel
theorem dX1_clearFoul_7 : decode cX1_clearFoul 7 = .ok (.if_icmp .ge 31, 3) := by decide +kernel
theorem dX1_clearFoul_10 : decode cX1_clearFoul 10 = .ok (.aload_n 0, 1) := by decide +kernel
theorem dX1_clearFoul_11 : decode cX1_clearFoul 11 = .ok (.getfield 16, 3) := by decide +kernel
theorem dX1_clearFoul_14 : decode cX1_clearFoul 14 = .ok (.iload_n 1, 1) := by decide +kernel
theorem dX1_clearFoul_15 : decode cX1_clearFoul 15 = .ok (.iconst 4, 1) := by decide +kernel
theorem dX1_clearFoul_16 : decode cX1_clearFoul 16 = .ok (.invokevirtual 36, 3) := by decide +kernel
theorem dX1_clearFoul_19 : decode cX1_clearFoul 19 = .ok (.ifCond .le 13, 3) := by decide +kernel
theorem dX1_clearFoul_22 : decode cX1_clearFoul 22 = .ok (.aload_n 0, 1) := by decide +kernel
theorem dX1_clearFoul_23 : decode cX1_clearFoul 23 = .ok (.getfield 16, 3) := by decide +kernel
theorem dX1_clearFoul_26 : decode cX1_clearFoul 26 = .ok (.iload_n 1, 1) := by decide +kernel
theorem dX1_clearFoul_27 : decode cX1_clearFoul 27 = .ok (.iconst 4, 1) := by decide +kernel
theorem dX1_clearFoul_28 : decode cX1_clearFoul 28 = .ok (.iconst (-1), 1) := by decide +kernel
theorem dX1_clearFoul_29 : decode cX1_clearFoul 29 = .ok (.invokevirtual 55, 3) := by decide +kernel
theorem dX1_clearFoul_32 : decode cX1_clearFoul 32 = .ok (.iinc 1 1, 3) := by decide +kernel
theorem dX1_clearFoul_35 : decode cX1_clearFoul 35 = .ok (.goto (-33), 3) := by decide +kernel
theorem dX1_clearFoul_38 : decode cX1_clearFoul 38 = .ok (.return_, 1) := by decide +kernel
theorem dX1_isDouble_0 : decode cX1_isDouble 0 = .ok (.aload_n 0, 1) := by decide +kernel
theorem dX1_isDouble_1 : decode cX1_isDouble 1 = .ok (.getfield 20, 3) := by decide +kernel
theorem dX1_isDouble_4 : decode cX1_isDouble 4 = .ok (.iload_n 1, 1) := by decide +kernel
theorem dX1_isDouble_5 : decode cX1_isDouble 5 = .ok (.iconst 5, 1) := by decide +kernel
theorem dX1_isDouble_6 : decode cX1_isDouble 6 = .ok (.invokevirtual 36, 3) := by decide +kernel
theorem dX1_isDouble_9 : decode cX1_isDouble 9 = .ok (.iconst 1, 1) := by decide +kernel
theorem dX1_isDouble_10 : decode cX1_isDouble 10 = .ok (.if_icmp .ne 7, 3) := by decide +kernel
theorem dX1_isDouble_13 : decode cX1_isDouble 13 = .ok (.iconst 1, 1) := by decide +kernel
theorem dX1_isDouble_14 : decode cX1_isDouble 14 = .ok (.goto 4, 3) := by decide +kernel
theorem dX1_isDouble_17 : decode cX1_isDouble 17 = .ok (.iconst 0, 1) := by decide +kernel
theorem dX1_isDouble_18 : decode cX1_isDouble 18 = .ok (.ireturn, 1) := by decide +kernel
theorem dX1_endOf_0 : decode cX1_endOf 0 = .ok (.aload_n 0, 1) := by decide +kernel
theorem dX1_endOf_1 : decode cX1_endOf 1 = .ok (.getfield 20, 3) := by decide +kernel
theorem dX1_endOf_4 : decode cX1_endOf 4 = .ok (.iload_n 1, 1) := by decide +kernel
theorem dX1_endOf_5 : decode cX1_endOf 5 = .ok (.iload_n 2, 1) := by decide +kernel
theorem dX1_endOf_6 : decode cX1_endOf 6 = .ok (.ifCond .eq 7, 3) := by decide +kernel
theorem dX1_endOf_9 : decode cX1_endOf 9 = .ok (.iconst 1, 1) := by decide +kernel
theorem dX1_endOf_10 : decode cX1_endOf 10 = .ok (.goto 4, 3) := by decide +kernel
theorem dX1_endOf_13 : decode cX1_endOf 13 = .ok (.iconst 0, 1) := by decide +kernel
theorem dX1_endOf_14 : decode cX1_endOf 14 = .ok (.invokevirtual 36, 3) := by decide +kernel
theorem dX1_endOf_17 : decode cX1_endOf 17 = .ok (.ireturn, 1) := by decide +kernel
theorem dX1_timeOf_0 : decode cX1_timeOf 0 = .ok (.aload_n 0, 1) := by decide +kernel
theorem dX1_timeOf_1 : decode cX1_timeOf 1 = .ok (.getfield 23, 3) := by decide +kernel
theorem dX1_timeOf_4 : decode cX1_timeOf 4 = .ok (.iload_n 1, 1) := by decide +kernel
theorem dX1_timeOf_5 : decode cX1_timeOf 5 = .ok (.iload_n 2, 1) := by decide +kernel
theorem dX1_timeOf_6 : decode cX1_timeOf 6 = .ok (.invokevirtual 36, 3) := by decide +kernel
theorem dX1_timeOf_9 : decode cX1_timeOf 9 = .ok (.ireturn, 1) := by decide +kernel
theorem dX1_firstOf_0 : decode cX1_firstOf 0 = .ok (.aload_n 0, 1) := by decide +kernel
theorem dX1_firstOf_1 : decode cX1_firstOf 1 = .ok (.getfield 26, 3) := by decide +kernel
theorem dX1_firstOf_4 : decode cX1_firstOf 4 = .ok (.iload_n 1, 1) := by decide +kernel
theorem dX1_firstOf_5 : decode cX1_firstOf 5 = .ok (.iload_n 2, 1) := by decide +kernel
theorem dX1_firstOf_6 : decode cX1_firstOf 6 = .ok (.invokevirtual 36, 3) := by decide +kernel
theorem dX1_firstOf_9 : decode cX1_firstOf 9 = .ok (.ireturn, 1) := by decide +kernel
theorem dX1_linesOf_0 : decode cX1_linesOf 0 = .ok (.aload_n 0, 1) := by decide +kernel
theorem dX1_linesOf_1 : decode cX1_linesOf 1 = .ok (.getfield 23, 3) := by decide +kernel
theorem dX1_linesOf_4 : decode cX1_linesOf 4 = .ok (.iload_n 1, 1) := by decide +kernel
theorem dX1_linesOf_5 : decode cX1_linesOf 5 = .ok (.iload_n 2, 1) := by decide +kernel
theorem dX1_linesOf_6 : decode cX1_linesOf 6 = .ok (.invokevirtual 36, 3) := by decide +kernel
theorem dX1_linesOf_9 : decode cX1_linesOf 9 = .ok (.iconst (-1), 1) := by decide +kernel
theorem dX1_linesOf_10 : decode cX1_linesOf 10 = .ok (.if_icmp .ne 5, 3) := by decide +kernel
theorem dX1_linesOf_13 : decode cX1_linesOf 13 = .ok (.iconst (-1), 1) := by decide +kernel
theorem dX1_linesOf_14 : decode cX1_linesOf 14 = .ok (.ireturn, 1) := by decide +kernel
theorem dX1_linesOf_15 : decode cX1_linesOf 15 = .ok (.iconst 0, 1) := by decide +kernel
theorem dX1_linesOf_16 : decode cX1_linesOf 16 = .ok (.istore_n 3, 1) := by decide +kernel
theorem dX1_linesOf_17 : decode cX1_linesOf 17 = .ok (.iload_n 1, 1) := by decide +kernel
theorem dX1_linesOf_18 : decode cX1_linesOf 18 = .ok (.istore 4, 2) := by decide +kernel
theorem dX1_linesOf_20 : decode cX1_linesOf 20 = .ok (.iconst 0, 1) := by decide +kernel
theorem dX1_linesOf_21 : decode cX1_linesOf 21 = .ok (.istore 5, 2) := by decide +kernel
theorem dX1_linesOf_23 : decode cX1_linesOf 23 = .ok (.iload 5, 2) := by decide +kernel
theorem dX1_linesOf_25 : decode cX1_linesOf 25 = .ok (.bipush 10, 2) := by decide +kernel
theorem dX1_linesOf_27 : decode cX1_linesOf 27 = .ok (.if_icmp .ge 58, 3) := by decide +kernel
theorem dX1_linesOf_30 : decode cX1_linesOf 30 = .ok (.iload 4, 2) := by decide +kernel
theorem dX1_linesOf_32 : decode cX1_linesOf 32 = .ok (.iload_n 2, 1) := by decide +kernel
theorem dX1_linesOf_33 : decode cX1_linesOf 33 = .ok (.if_icmp .eq 52, 3) := by decide +kernel
theorem dX1_linesOf_36 : decode cX1_linesOf 36 = .ok (.aload_n 0, 1) := by decide +kernel
theorem dX1_linesOf_37 : decode cX1_linesOf 37 = .ok (.getfield 26, 3) := by decide +kernel
theorem dX1_linesOf_40 : decode cX1_linesOf 40 = .ok (.iload 4, 2) := by decide +kernel
theorem dX1_linesOf_42 : decode cX1_linesOf 42 = .ok (.iload_n 2, 1) := by decide +kernel
theorem dX1_linesOf_43 : decode cX1_linesOf 43 = .ok (.invokevirtual 36, 3) := by decide +kernel
theorem dX1_linesOf_46 : decode cX1_linesOf 46 = .ok (.istore 6, 2) := by decide +kernel
theorem dX1_linesOf_48 : decode cX1_linesOf 48 = .ok (.aload_n 0, 1) := by decide +kernel
theorem dX1_linesOf_49 : decode cX1_linesOf 49 = .ok (.iload 6, 2) := by decide +kernel
theorem dX1_linesOf_51 : decode cX1_linesOf 51 = .ok (.aload_n 0, 1) := by decide +kernel
theorem dX1_linesOf_52 : decode cX1_linesOf 52 = .ok (.getfield 20, 3) := by decide +kernel
theorem dX1_linesOf_55 : decode cX1_linesOf 55 = .ok (.iload 6, 2) := by decide +kernel
theorem dX1_linesOf_57 : decode cX1_linesOf 57 = .ok (.iconst 0, 1) := by decide +kernel
theorem dX1_linesOf_58 : decode cX1_linesOf 58 = .ok (.invokevirtual 36, 3) := by decide +kernel
theorem dX1_linesOf_61 : decode cX1_linesOf 61 = .ok (.iload 4, 2) := by decide +kernel
theorem dX1_linesOf_63 : decode cX1_linesOf 63 = .ok (.if_icmp .ne 7, 3) := by decide +kernel
theorem dX1_linesOf_66 : decode cX1_linesOf 66 = .ok (.iconst 1, 1) := by decide +kernel
theorem dX1_linesOf_67 : decode cX1_linesOf 67 = .ok (.goto 4, 3) := by decide +kernel
theorem dX1_linesOf_70 : decode cX1_linesOf 70 = .ok (.iconst 0, 1) := by decide +kernel
theorem dX1_linesOf_71 : decode cX1_linesOf 71 = .ok (.invokevirtual 58, 3) := by decide +kernel
theorem dX1_linesOf_74 : decode cX1_linesOf 74 = .ok (.istore 4, 2) := by decide +kernel
theorem dX1_linesOf_76 : decode cX1_linesOf 76 = .ok (.iinc 3 1, 3) := by decide +kernel
theorem dX1_linesOf_79 : decode cX1_linesOf 79 = .ok (.iinc 5 1, 3) := by decide +kernel
theorem dX1_linesOf_82 : decode cX1_linesOf 82 = .ok (.goto (-59), 3) := by decide +kernel
theorem dX1_linesOf_85 : decode cX1_linesOf 85 = .ok (.iload_n 3, 1) := by decide +kernel
theorem dX1_linesOf_86 : decode cX1_linesOf 86 = .ok (.ireturn, 1) := by decide +kernel
theorem dX1_findWays_0 : decode cX1_findWays 0 = .ok (.aload_n 0, 1) := by decide +kernel
theorem dX1_findWays_1 : decode cX1_findWays 1 = .ok (.getfield 23, 3) := by decide +kernel
theorem dX1_findWays_4 : decode cX1_findWays 4 = .ok (.iconst (-1), 1) := by decide +kernel
theorem dX1_findWays_5 : decode cX1_findWays 5 = .ok (.invokevirtual 62, 3) := by decide +kernel
theorem dX1_findWays_8 : decode cX1_findWays 8 = .ok (.aload_n 0, 1) := by decide +kernel
theorem dX1_findWays_9 : decode cX1_findWays 9 = .ok (.getfield 26, 3) := by decide +kernel
theorem dX1_findWays_12 : decode cX1_findWays 12 = .ok (.iconst (-1), 1) := by decide +kernel
theorem dX1_findWays_13 : decode cX1_findWays 13 = .ok (.invokevirtual 62, 3) := by decide +kernel
theorem dX1_findWays_16 : decode cX1_findWays 16 = .ok (.iconst 0, 1) := by decide +kernel
theorem dX1_findWays_17 : decode cX1_findWays 17 = .ok (.istore_n 1, 1) := by decide +kernel
theorem dX1_findWays_18 : decode cX1_findWays 18 = .ok (.iload_n 1, 1) := by decide +kernel
theorem dX1_findWays_19 : decode cX1_findWays 19 = .ok (.aload_n 0, 1) := by decide +kernel
theorem dX1_findWays_20 : decode cX1_findWays 20 = .ok (.getfield 29, 3) := by decide +kernel
theorem dX1_findWays_23 : decode cX1_findWays 23 = .ok (.if_icmp .ge 72, 3) := by decide +kernel
theorem dX1_findWays_26 : decode cX1_findWays 26 = .ok (.aload_n 0, 1) := by decide +kernel
theorem dX1_findWays_27 : decode cX1_findWays 27 = .ok (.getfield 23, 3) := by decide +kernel
theorem dX1_findWays_30 : decode cX1_findWays 30 = .ok (.iload_n 1, 1) := by decide +kernel
theorem dX1_findWays_31 : decode cX1_findWays 31 = .ok (.iload_n 1, 1) := by decide +kernel
theorem dX1_findWays_32 : decode cX1_findWays 32 = .ok (.iconst 0, 1) := by decide +kernel
theorem dX1_findWays_33 : decode cX1_findWays 33 = .ok (.invokevirtual 40, 3) := by decide +kernel
theorem dX1_findWays_36 : decode cX1_findWays 36 = .ok (.iconst 1, 1) := by decide +kernel
theorem dX1_findWays_37 : decode cX1_findWays 37 = .ok (.istore_n 2, 1) := by decide +kernel
theorem dX1_findWays_38 : decode cX1_findWays 38 = .ok (.iload_n 2, 1) := by decide +kernel
theorem dX1_findWays_39 : decode cX1_findWays 39 = .ok (.aload_n 0, 1) := by decide +kernel
theorem dX1_findWays_40 : decode cX1_findWays 40 = .ok (.getfield 29, 3) := by decide +kernel
theorem dX1_findWays_43 : decode cX1_findWays 43 = .ok (.if_icmp .ge 41, 3) := by decide +kernel
theorem dX1_findWays_46 : decode cX1_findWays 46 = .ok (.iconst 0, 1) := by decide +kernel
theorem dX1_findWays_47 : decode cX1_findWays 47 = .ok (.istore_n 3, 1) := by decide +kernel
theorem dX1_findWays_48 : decode cX1_findWays 48 = .ok (.iload_n 3, 1) := by decide +kernel
theorem dX1_findWays_49 : decode cX1_findWays 49 = .ok (.aload_n 0, 1) := by decide +kernel
theorem dX1_findWays_50 : decode cX1_findWays 50 = .ok (.getfield 33, 3) := by decide +kernel
theorem dX1_findWays_53 : decode cX1_findWays 53 = .ok (.if_icmp .ge 25, 3) := by decide +kernel
theorem dX1_findWays_56 : decode cX1_findWays 56 = .ok (.aload_n 0, 1) := by decide +kernel
theorem dX1_findWays_57 : decode cX1_findWays 57 = .ok (.iload_n 3, 1) := by decide +kernel
theorem dX1_findWays_58 : decode cX1_findWays 58 = .ok (.iconst 0, 1) := by decide +kernel
theorem dX1_findWays_59 : decode cX1_findWays 59 = .ok (.iconst 1, 1) := by decide +kernel
theorem dX1_findWays_60 : decode cX1_findWays 60 = .ok (.iload_n 1, 1) := by decide +kernel
theorem dX1_findWays_61 : decode cX1_findWays 61 = .ok (.invokevirtual 66, 3) := by decide +kernel
theorem dX1_findWays_64 : decode cX1_findWays 64 = .ok (.aload_n 0, 1) := by decide +kernel
theorem dX1_findWays_65 : decode cX1_findWays 65 = .ok (.iload_n 3, 1) := by decide +kernel
theorem dX1_findWays_66 : decode cX1_findWays 66 = .ok (.iconst 1, 1) := by decide +kernel
theorem dX1_findWays_67 : decode cX1_findWays 67 = .ok (.iconst 0, 1) := by decide +kernel
theorem dX1_findWays_68 : decode cX1_findWays 68 = .ok (.iload_n 1, 1) := by decide +kernel
theorem dX1_findWays_69 : decode cX1_findWays 69 = .ok (.invokevirtual 66, 3) := by decide +kernel
theorem dX1_findWays_72 : decode cX1_findWays 72 = .ok (.iinc 3 1, 3) := by decide +kernel
theorem dX1_findWays_75 : decode cX1_findWays 75 = .ok (.goto (-27), 3) := by decide +kernel
theorem dX1_findWays_78 : decode cX1_findWays 78 = .ok (.iinc 2 1, 3) := by decide +kernel
theorem dX1_findWays_81 : decode cX1_findWays 81 = .ok (.goto (-43), 3) := by decide +kernel
theorem dX1_findWays_84 : decode cX1_findWays 84 = .ok (.aload_n 0, 1) := by decide +kernel
theorem dX1_findWays_85 : decode cX1_findWays 85 = .ok (.iload_n 1, 1) := by decide +kernel
theorem dX1_findWays_86 : decode cX1_findWays 86 = .ok (.invokevirtual 70, 3) := by decide +kernel
theorem dX1_findWays_89 : decode cX1_findWays 89 = .ok (.iinc 1 1, 3) := by decide +kernel
theorem dX1_findWays_92 : decode cX1_findWays 92 = .ok (.goto (-74), 3) := by decide +kernel
theorem dX1_findWays_95 : decode cX1_findWays 95 = .ok (.return_, 1) := by decide +kernel
theorem dX1_shorten_0 : decode cX1_shorten 0 = .ok (.aload_n 0, 1) := by decide +kernel
theorem dX1_shorten_1 : decode cX1_shorten 1 = .ok (.getfield 23, 3) := by decide +kernel
theorem dX1_shorten_4 : decode cX1_shorten 4 = .ok (.aload_n 0, 1) := by decide +kernel
theorem dX1_shorten_5 : decode cX1_shorten 5 = .ok (.getfield 20, 3) := by decide +kernel
theorem dX1_shorten_8 : decode cX1_shorten 8 = .ok (.iload_n 1, 1) := by decide +kernel
theorem dX1_shorten_9 : decode cX1_shorten 9 = .ok (.iload_n 3, 1) := by decide +kernel
theorem dX1_shorten_10 : decode cX1_shorten 10 = .ok (.invokevirtual 36, 3) := by decide +kernel
theorem dX1_shorten_13 : decode cX1_shorten 13 = .ok (.iload 4, 2) := by decide +kernel
theorem dX1_shorten_15 : decode cX1_shorten 15 = .ok (.invokevirtual 36, 3) := by decide +kernel
theorem dX1_shorten_18 : decode cX1_shorten 18 = .ok (.istore 5, 2) := by decide +kernel
theorem dX1_shorten_20 : decode cX1_shorten 20 = .ok (.aload_n 0, 1) := by decide +kernel
theorem dX1_shorten_21 : decode cX1_shorten 21 = .ok (.getfield 20, 3) := by decide +kernel
theorem dX1_shorten_24 : decode cX1_shorten 24 = .ok (.iload_n 1, 1) := by decide +kernel
theorem dX1_shorten_25 : decode cX1_shorten 25 = .ok (.iconst 4, 1) := by decide +kernel
theorem dX1_shorten_26 : decode cX1_shorten 26 = .ok (.invokevirtual 36, 3) := by decide +kernel
theorem dX1_shorten_29 : decode cX1_shorten 29 = .ok (.iconst 1, 1) := by decide +kernel
theorem dX1_shorten_30 : decode cX1_shorten 30 = .ok (.if_icmp .ne 77, 3) := by decide +kernel
theorem dX1_shorten_33 : decode cX1_shorten 33 = .ok (.iload 5, 2) := by decide +kernel
theorem dX1_shorten_35 : decode cX1_shorten 35 = .ok (.iconst (-1), 1) := by decide +kernel
theorem dX1_shorten_36 : decode cX1_shorten 36 = .ok (.if_icmp .eq 71, 3) := by decide +kernel
theorem dX1_shorten_39 : decode cX1_shorten 39 = .ok (.aload_n 0, 1) := by decide +kernel
theorem dX1_shorten_40 : decode cX1_shorten 40 = .ok (.getfield 20, 3) := by decide +kernel
theorem dX1_shorten_43 : decode cX1_shorten 43 = .ok (.iload_n 1, 1) := by decide +kernel
theorem dX1_shorten_44 : decode cX1_shorten 44 = .ok (.iload_n 2, 1) := by decide +kernel
theorem dX1_shorten_45 : decode cX1_shorten 45 = .ok (.invokevirtual 36, 3) := by decide +kernel
theorem dX1_shorten_48 : decode cX1_shorten 48 = .ok (.istore 6, 2) := by decide +kernel
theorem dX1_shorten_50 : decode cX1_shorten 50 = .ok (.aload_n 0, 1) := by decide +kernel
theorem dX1_shorten_51 : decode cX1_shorten 51 = .ok (.getfield 20, 3) := by decide +kernel
theorem dX1_shorten_54 : decode cX1_shorten 54 = .ok (.iload_n 1, 1) := by decide +kernel
theorem dX1_shorten_55 : decode cX1_shorten 55 = .ok (.bipush 7, 2) := by decide +kernel
theorem dX1_shorten_57 : decode cX1_shorten 57 = .ok (.invokevirtual 36, 3) := by decide +kernel
theorem dX1_shorten_60 : decode cX1_shorten 60 = .ok (.iload 5, 2) := by decide +kernel
theorem dX1_shorten_62 : decode cX1_shorten 62 = .ok (.iadd, 1) := by decide +kernel
theorem dX1_shorten_63 : decode cX1_shorten 63 = .ok (.istore 7, 2) := by decide +kernel
theorem dX1_shorten_65 : decode cX1_shorten 65 = .ok (.aload_n 0, 1) := by decide +kernel
theorem dX1_shorten_66 : decode cX1_shorten 66 = .ok (.getfield 23, 3) := by decide +kernel
theorem dX1_shorten_69 : decode cX1_shorten 69 = .ok (.iload 6, 2) := by decide +kernel
theorem dX1_shorten_71 : decode cX1_shorten 71 = .ok (.iload 4, 2) := by decide +kernel
theorem dX1_shorten_73 : decode cX1_shorten 73 = .ok (.invokevirtual 36, 3) := by decide +kernel
theorem dX1_shorten_76 : decode cX1_shorten 76 = .ok (.istore 8, 2) := by decide +kernel
theorem dX1_shorten_78 : decode cX1_shorten 78 = .ok (.aload_n 0, 1) := by decide +kernel
theorem dX1_shorten_79 : decode cX1_shorten 79 = .ok (.getfield 23, 3) := by decide +kernel
theorem dX1_shorten_82 : decode cX1_shorten 82 = .ok (.iload 6, 2) := by decide +kernel
theorem dX1_shorten_84 : decode cX1_shorten 84 = .ok (.iload 4, 2) := by decide +kernel
theorem dX1_shorten_86 : decode cX1_shorten 86 = .ok (.iload 8, 2) := by decide +kernel
theorem dX1_shorten_88 : decode cX1_shorten 88 = .ok (.iconst (-1), 1) := by decide +kernel
theorem dX1_shorten_89 : decode cX1_shorten 89 = .ok (.if_icmp .ne 8, 3) := by decide +kernel
theorem dX1_shorten_92 : decode cX1_shorten 92 = .ok (.iload 7, 2) := by decide +kernel
theorem dX1_shorten_94 : decode cX1_shorten 94 = .ok (.goto 10, 3) := by decide +kernel
theorem dX1_shorten_97 : decode cX1_shorten 97 = .ok (.iload 7, 2) := by decide +kernel
theorem dX1_shorten_99 : decode cX1_shorten 99 = .ok (.iload 8, 2) := by decide +kernel
theorem dX1_shorten_101 : decode cX1_shorten 101 = .ok (.invokestatic 73, 3) := by decide +kernel
theorem dX1_shorten_104 : decode cX1_shorten 104 = .ok (.invokevirtual 40, 3) := by decide +kernel
theorem dX1_shorten_107 : decode cX1_shorten 107 = .ok (.return_, 1) := by decide +kernel
theorem dX1_findFirsts_0 : decode cX1_findFirsts 0 = .ok (.aload_n 0, 1) := by decide +kernel
theorem dX1_findFirsts_1 : decode cX1_findFirsts 1 = .ok (.getfield 33, 3) := by decide +kernel
theorem dX1_findFirsts_4 : decode cX1_findFirsts 4 = .ok (.iconst 1, 1) := by decide +kernel
theorem dX1_findFirsts_5 : decode cX1_findFirsts 5 = .ok (.isub, 1) := by decide +kernel
theorem dX1_findFirsts_6 : decode cX1_findFirsts 6 = .ok (.istore_n 2, 1) := by decide +kernel
theorem dX1_findFirsts_7 : decode cX1_findFirsts 7 = .ok (.iload_n 2, 1) := by decide +kernel
theorem dX1_findFirsts_8 : decode cX1_findFirsts 8 = .ok (.ifCond .lt 25, 3) := by decide +kernel
theorem dX1_findFirsts_11 : decode cX1_findFirsts 11 = .ok (.aload_n 0, 1) := by decide +kernel
theorem dX1_findFirsts_12 : decode cX1_findFirsts 12 = .ok (.iload_n 2, 1) := by decide +kernel
theorem dX1_findFirsts_13 : decode cX1_findFirsts 13 = .ok (.iconst 0, 1) := by decide +kernel
theorem dX1_findFirsts_14 : decode cX1_findFirsts 14 = .ok (.iconst 1, 1) := by decide +kernel
theorem dX1_findFirsts_15 : decode cX1_findFirsts 15 = .ok (.iload_n 1, 1) := by decide +kernel
theorem dX1_findFirsts_16 : decode cX1_findFirsts 16 = .ok (.invokevirtual 78, 3) := by decide +kernel
theorem dX1_findFirsts_19 : decode cX1_findFirsts 19 = .ok (.aload_n 0, 1) := by decide +kernel
theorem dX1_findFirsts_20 : decode cX1_findFirsts 20 = .ok (.iload_n 2, 1) := by decide +kernel
theorem dX1_findFirsts_21 : decode cX1_findFirsts 21 = .ok (.iconst 1, 1) := by decide +kernel
theorem dX1_findFirsts_22 : decode cX1_findFirsts 22 = .ok (.iconst 0, 1) := by decide +kernel
theorem dX1_findFirsts_23 : decode cX1_findFirsts 23 = .ok (.iload_n 1, 1) := by decide +kernel
theorem dX1_findFirsts_24 : decode cX1_findFirsts 24 = .ok (.invokevirtual 78, 3) := by decide +kernel
theorem dX1_findFirsts_27 : decode cX1_findFirsts 27 = .ok (.iinc 2 (-1), 3) := by decide +kernel
theorem dX1_findFirsts_30 : decode cX1_findFirsts 30 = .ok (.goto (-23), 3) := by decide +kernel
theorem dX1_findFirsts_33 : decode cX1_findFirsts 33 = .ok (.return_, 1) := by decide +kernel
theorem dX1_noteFirst_0 : decode cX1_noteFirst 0 = .ok (.aload_n 0, 1) := by decide +kernel
theorem dX1_noteFirst_1 : decode cX1_noteFirst 1 = .ok (.getfield 20, 3) := by decide +kernel
theorem dX1_noteFirst_4 : decode cX1_noteFirst 4 = .ok (.iload_n 1, 1) := by decide +kernel
theorem dX1_noteFirst_5 : decode cX1_noteFirst 5 = .ok (.iload_n 2, 1) := by decide +kernel
theorem dX1_noteFirst_6 : decode cX1_noteFirst 6 = .ok (.invokevirtual 36, 3) := by decide +kernel
theorem dX1_noteFirst_9 : decode cX1_noteFirst 9 = .ok (.istore 5, 2) := by decide +kernel
theorem dX1_noteFirst_11 : decode cX1_noteFirst 11 = .ok (.aload_n 0, 1) := by decide +kernel
theorem dX1_noteFirst_12 : decode cX1_noteFirst 12 = .ok (.getfield 23, 3) := by decide +kernel
theorem dX1_noteFirst_15 : decode cX1_noteFirst 15 = .ok (.aload_n 0, 1) := by decide +kernel
theorem dX1_noteFirst_16 : decode cX1_noteFirst 16 = .ok (.getfield 20, 3) := by decide +kernel
theorem dX1_noteFirst_19 : decode cX1_noteFirst 19 = .ok (.iload_n 1, 1) := by decide +kernel
theorem dX1_noteFirst_20 : decode cX1_noteFirst 20 = .ok (.iload_n 3, 1) := by decide +kernel
theorem dX1_noteFirst_21 : decode cX1_noteFirst 21 = .ok (.invokevirtual 36, 3) := by decide +kernel
theorem dX1_noteFirst_24 : decode cX1_noteFirst 24 = .ok (.iload 4, 2) := by decide +kernel
theorem dX1_noteFirst_26 : decode cX1_noteFirst 26 = .ok (.invokevirtual 36, 3) := by decide +kernel
theorem dX1_noteFirst_29 : decode cX1_noteFirst 29 = .ok (.istore 6, 2) := by decide +kernel
theorem dX1_noteFirst_31 : decode cX1_noteFirst 31 = .ok (.aload_n 0, 1) := by decide +kernel
theorem dX1_noteFirst_32 : decode cX1_noteFirst 32 = .ok (.getfield 20, 3) := by decide +kernel
theorem dX1_noteFirst_35 : decode cX1_noteFirst 35 = .ok (.iload_n 1, 1) := by decide +kernel
theorem dX1_noteFirst_36 : decode cX1_noteFirst 36 = .ok (.iconst 4, 1) := by decide +kernel
theorem dX1_noteFirst_37 : decode cX1_noteFirst 37 = .ok (.invokevirtual 36, 3) := by decide +kernel
theorem dX1_noteFirst_40 : decode cX1_noteFirst 40 = .ok (.iconst 1, 1) := by decide +kernel
theorem dX1_noteFirst_41 : decode cX1_noteFirst 41 = .ok (.if_icmp .ne 40, 3) := by decide +kernel
theorem dX1_noteFirst_44 : decode cX1_noteFirst 44 = .ok (.iload 6, 2) := by decide +kernel
theorem dX1_noteFirst_46 : decode cX1_noteFirst 46 = .ok (.iconst (-1), 1) := by decide +kernel
theorem dX1_noteFirst_47 : decode cX1_noteFirst 47 = .ok (.if_icmp .eq 34, 3) := by decide +kernel
theorem dX1_noteFirst_50 : decode cX1_noteFirst 50 = .ok (.aload_n 0, 1) := by decide +kernel
theorem dX1_noteFirst_51 : decode cX1_noteFirst 51 = .ok (.getfield 23, 3) := by decide +kernel
theorem dX1_noteFirst_54 : decode cX1_noteFirst 54 = .ok (.iload 5, 2) := by decide +kernel
theorem dX1_noteFirst_56 : decode cX1_noteFirst 56 = .ok (.iload 4, 2) := by decide +kernel
theorem dX1_noteFirst_58 : decode cX1_noteFirst 58 = .ok (.invokevirtual 36, 3) := by decide +kernel
theorem dX1_noteFirst_61 : decode cX1_noteFirst 61 = .ok (.aload_n 0, 1) := by decide +kernel
theorem dX1_noteFirst_62 : decode cX1_noteFirst 62 = .ok (.getfield 20, 3) := by decide +kernel
theorem dX1_noteFirst_65 : decode cX1_noteFirst 65 = .ok (.iload_n 1, 1) := by decide +kernel
theorem dX1_noteFirst_66 : decode cX1_noteFirst 66 = .ok (.bipush 7, 2) := by decide +kernel
theorem dX1_noteFirst_68 : decode cX1_noteFirst 68 = .ok (.invokevirtual 36, 3) := by decide +kernel
theorem dX1_noteFirst_71 : decode cX1_noteFirst 71 = .ok (.iload 6, 2) := by decide +kernel
theorem dX1_noteFirst_73 : decode cX1_noteFirst 73 = .ok (.iadd, 1) := by decide +kernel
theorem dX1_noteFirst_74 : decode cX1_noteFirst 74 = .ok (.if_icmp .ne 7, 3) := by decide +kernel
theorem dX1_noteFirst_77 : decode cX1_noteFirst 77 = .ok (.iconst 1, 1) := by decide +kernel
theorem dX1_noteFirst_78 : decode cX1_noteFirst 78 = .ok (.goto 4, 3) := by decide +kernel
theorem dX1_noteFirst_81 : decode cX1_noteFirst 81 = .ok (.iconst 0, 1) := by decide +kernel
theorem dX1_noteFirst_82 : decode cX1_noteFirst 82 = .ok (.istore 7, 2) := by decide +kernel
theorem dX1_noteFirst_84 : decode cX1_noteFirst 84 = .ok (.iload 7, 2) := by decide +kernel
theorem dX1_noteFirst_86 : decode cX1_noteFirst 86 = .ok (.ifCond .eq 15, 3) := by decide +kernel
theorem dX1_noteFirst_89 : decode cX1_noteFirst 89 = .ok (.aload_n 0, 1) := by decide +kernel
theorem dX1_noteFirst_90 : decode cX1_noteFirst 90 = .ok (.getfield 26, 3) := by decide +kernel
theorem dX1_noteFirst_93 : decode cX1_noteFirst 93 = .ok (.iload 5, 2) := by decide +kernel
theorem dX1_noteFirst_95 : decode cX1_noteFirst 95 = .ok (.iload 4, 2) := by decide +kernel
theorem dX1_noteFirst_97 : decode cX1_noteFirst 97 = .ok (.iload_n 1, 1) := by decide +kernel
theorem dX1_noteFirst_98 : decode cX1_noteFirst 98 = .ok (.invokevirtual 40, 3) := by decide +kernel
theorem dX1_noteFirst_101 : decode cX1_noteFirst 101 = .ok (.return_, 1) := by decide +kernel
theorem dX3_init_0 : decode cX3_init 0 = .ok (.aload_n 0, 1) := by decide +kernel
theorem dX3_init_1 : decode cX3_init 1 = .ok (.invokespecial 3, 3) := by decide +kernel
theorem dX3_init_4 : decode cX3_init 4 = .ok (.aload_n 0, 1) := by decide +kernel
theorem dX3_init_5 : decode cX3_init 5 = .ok (.new 9, 3) := by decide +kernel
theorem dX3_init_8 : decode cX3_init 8 = .ok (.dup, 1) := by decide +kernel
theorem dX3_init_9 : decode cX3_init 9 = .ok (.iconst 3, 1) := by decide +kernel
theorem dX3_init_10 : decode cX3_init 10 = .ok (.bipush 13, 2) := by decide +kernel
theorem dX3_init_12 : decode cX3_init 12 = .ok (.invokespecial 11, 3) := by decide +kernel
theorem dX3_init_15 : decode cX3_init 15 = .ok (.putfield 14, 3) := by decide +kernel
theorem dX3_init_18 : decode cX3_init 18 = .ok (.iconst 0, 1) := by decide +kernel
theorem dX3_init_19 : decode cX3_init 19 = .ok (.istore_n 1, 1) := by decide +kernel
theorem dX3_init_20 : decode cX3_init 20 = .ok (.iload_n 1, 1) := by decide +kernel
theorem dX3_init_21 : decode cX3_init 21 = .ok (.iconst 3, 1) := by decide +kernel
theorem dX3_init_22 : decode cX3_init 22 = .ok (.if_icmp .ge 42, 3) := by decide +kernel
theorem dX3_init_25 : decode cX3_init 25 = .ok (.aload_n 0, 1) := by decide +kernel
theorem dX3_init_26 : decode cX3_init 26 = .ok (.getfield 14, 3) := by decide +kernel
theorem dX3_init_29 : decode cX3_init 29 = .ok (.iload_n 1, 1) := by decide +kernel
theorem dX3_init_30 : decode cX3_init 30 = .ok (.iconst 0, 1) := by decide +kernel
theorem dX3_init_31 : decode cX3_init 31 = .ok (.iconst (-1), 1) := by decide +kernel
theorem dX3_init_32 : decode cX3_init 32 = .ok (.invokevirtual 20, 3) := by decide +kernel
theorem dX3_init_35 : decode cX3_init 35 = .ok (.aload_n 0, 1) := by decide +kernel
theorem dX3_init_36 : decode cX3_init 36 = .ok (.getfield 14, 3) := by decide +kernel
theorem dX3_init_39 : decode cX3_init 39 = .ok (.iload_n 1, 1) := by decide +kernel
theorem dX3_init_40 : decode cX3_init 40 = .ok (.iconst 1, 1) := by decide +kernel
theorem dX3_init_41 : decode cX3_init 41 = .ok (.bipush 24, 2) := by decide +kernel
theorem dX3_init_43 : decode cX3_init 43 = .ok (.invokevirtual 20, 3) := by decide +kernel
theorem dX3_init_46 : decode cX3_init 46 = .ok (.aload_n 0, 1) := by decide +kernel
theorem dX3_init_47 : decode cX3_init 47 = .ok (.getfield 14, 3) := by decide +kernel
theorem dX3_init_50 : decode cX3_init 50 = .ok (.iload_n 1, 1) := by decide +kernel
theorem dX3_init_51 : decode cX3_init 51 = .ok (.bipush 7, 2) := by decide +kernel
theorem dX3_init_53 : decode cX3_init 53 = .ok (.bipush 20, 2) := by decide +kernel
theorem dX3_init_55 : decode cX3_init 55 = .ok (.invokevirtual 20, 3) := by decide +kernel
theorem dX3_init_58 : decode cX3_init 58 = .ok (.iinc 1 1, 3) := by decide +kernel
theorem dX3_init_61 : decode cX3_init 61 = .ok (.goto (-41), 3) := by decide +kernel
theorem dX3_init_64 : decode cX3_init 64 = .ok (.return_, 1) := by decide +kernel
theorem dX3_get_0 : decode cX3_get 0 = .ok (.aload_n 0, 1) := by decide +kernel
theorem dX3_get_1 : decode cX3_get 1 = .ok (.getfield 14, 3) := by decide +kernel
theorem dX3_get_4 : decode cX3_get 4 = .ok (.iload_n 1, 1) := by decide +kernel
theorem dX3_get_5 : decode cX3_get 5 = .ok (.iload_n 2, 1) := by decide +kernel
theorem dX3_get_6 : decode cX3_get 6 = .ok (.invokevirtual 24, 3) := by decide +kernel
theorem dX3_get_9 : decode cX3_get 9 = .ok (.ireturn, 1) := by decide +kernel
theorem dX3_set_0 : decode cX3_set 0 = .ok (.aload_n 0, 1) := by decide +kernel
theorem dX3_set_1 : decode cX3_set 1 = .ok (.getfield 14, 3) := by decide +kernel
theorem dX3_set_4 : decode cX3_set 4 = .ok (.iload_n 1, 1) := by decide +kernel
theorem dX3_set_5 : decode cX3_set 5 = .ok (.iload_n 2, 1) := by decide +kernel
theorem dX3_set_6 : decode cX3_set 6 = .ok (.iload_n 3, 1) := by decide +kernel
theorem dX3_set_7 : decode cX3_set 7 = .ok (.invokevirtual 20, 3) := by decide +kernel
theorem dX3_set_10 : decode cX3_set 10 = .ok (.return_, 1) := by decide +kernel
theorem dX3_add_0 : decode cX3_add 0 = .ok (.aload_n 0, 1) := by decide +kernel
theorem dX3_add_1 : decode cX3_add 1 = .ok (.getfield 14, 3) := by decide +kernel
theorem dX3_add_4 : decode cX3_add 4 = .ok (.iload_n 1, 1) := by decide +kernel
theorem dX3_add_5 : decode cX3_add 5 = .ok (.iload_n 2, 1) := by decide +kernel
theorem dX3_add_6 : decode cX3_add 6 = .ok (.iload_n 3, 1) := by decide +kernel
theorem dX3_add_7 : decode cX3_add 7 = .ok (.invokevirtual 28, 3) := by decide +kernel
theorem dX3_add_10 : decode cX3_add 10 = .ok (.return_, 1) := by decide +kernel
theorem dX3_store_0 : decode cX3_store 0 = .ok (.aload_n 0, 1) := by decide +kernel
theorem dX3_store_1 : decode cX3_store 1 = .ok (.getfield 14, 3) := by decide +kernel
theorem dX3_store_4 : decode cX3_store 4 = .ok (.iload_n 1, 1) := by decide +kernel
theorem dX3_store_5 : decode cX3_store 5 = .ok (.bipush 7, 2) := by decide +kernel
theorem dX3_store_7 : decode cX3_store 7 = .ok (.sipush 999, 3) := by decide +kernel
theorem dX3_store_10 : decode cX3_store 10 = .ok (.aload_n 0, 1) := by decide +kernel
theorem dX3_store_11 : decode cX3_store 11 = .ok (.getfield 14, 3) := by decide +kernel
theorem dX3_store_14 : decode cX3_store 14 = .ok (.iload_n 1, 1) := by decide +kernel
theorem dX3_store_15 : decode cX3_store 15 = .ok (.bipush 7, 2) := by decide +kernel
theorem dX3_store_17 : decode cX3_store 17 = .ok (.invokevirtual 24, 3) := by decide +kernel
theorem dX3_store_20 : decode cX3_store 20 = .ok (.iload_n 2, 1) := by decide +kernel
theorem dX3_store_21 : decode cX3_store 21 = .ok (.iadd, 1) := by decide +kernel
theorem dX3_store_22 : decode cX3_store 22 = .ok (.invokestatic 31, 3) := by decide +kernel
theorem dX3_store_25 : decode cX3_store 25 = .ok (.invokevirtual 20, 3) := by decide +kernel
theorem dX3_store_28 : decode cX3_store 28 = .ok (.return_, 1) := by decide +kernel
theorem dX3_feed_0 : decode cX3_feed 0 = .ok (.aload_n 0, 1) := by decide +kernel
theorem dX3_feed_1 : decode cX3_feed 1 = .ok (.iload_n 1, 1) := by decide +kernel
theorem dX3_feed_2 : decode cX3_feed 2 = .ok (.iconst 3, 1) := by decide +kernel
theorem dX3_feed_3 : decode cX3_feed 3 = .ok (.iload_n 2, 1) := by decide +kernel
theorem dX3_feed_4 : decode cX3_feed 4 = .ok (.imul, 1) := by decide +kernel
theorem dX3_feed_5 : decode cX3_feed 5 = .ok (.invokevirtual 36, 3) := by decide +kernel
theorem dX3_feed_8 : decode cX3_feed 8 = .ok (.aload_n 0, 1) := by decide +kernel
theorem dX3_feed_9 : decode cX3_feed 9 = .ok (.getfield 14, 3) := by decide +kernel
theorem dX3_feed_12 : decode cX3_feed 12 = .ok (.iload_n 1, 1) := by decide +kernel
theorem dX3_feed_13 : decode cX3_feed 13 = .ok (.bipush 7, 2) := by decide +kernel
theorem dX3_feed_15 : decode cX3_feed 15 = .ok (.invokevirtual 24, 3) := by decide +kernel
theorem dX3_feed_18 : decode cX3_feed 18 = .ok (.iload_n 3, 1) := by decide +kernel
theorem dX3_feed_19 : decode cX3_feed 19 = .ok (.isub, 1) := by decide +kernel
theorem dX3_feed_20 : decode cX3_feed 20 = .ok (.istore 4, 2) := by decide +kernel
theorem dX3_feed_22 : decode cX3_feed 22 = .ok (.aload_n 0, 1) := by decide +kernel
theorem dX3_feed_23 : decode cX3_feed 23 = .ok (.getfield 14, 3) := by decide +kernel
theorem dX3_feed_26 : decode cX3_feed 26 = .ok (.iload_n 1, 1) := by decide +kernel
theorem dX3_feed_27 : decode cX3_feed 27 = .ok (.bipush 7, 2) := by decide +kernel
theorem dX3_feed_29 : decode cX3_feed 29 = .ok (.iconst 0, 1) := by decide +kernel
theorem dX3_feed_30 : decode cX3_feed 30 = .ok (.iload 4, 2) := by decide +kernel
theorem dX3_feed_32 : decode cX3_feed 32 = .ok (.invokestatic 39, 3) := by decide +kernel
theorem dX3_feed_35 : decode cX3_feed 35 = .ok (.invokevirtual 20, 3) := by decide +kernel
theorem dX3_feed_38 : decode cX3_feed 38 = .ok (.aload_n 0, 1) := by decide +kernel
theorem dX3_feed_39 : decode cX3_feed 39 = .ok (.getfield 14, 3) := by decide +kernel
theorem dX3_feed_42 : decode cX3_feed 42 = .ok (.iload_n 1, 1) := by decide +kernel
theorem dX3_feed_43 : decode cX3_feed 43 = .ok (.bipush 8, 2) := by decide +kernel
theorem dX3_feed_45 : decode cX3_feed 45 = .ok (.iload 4, 2) := by decide +kernel
theorem dX3_feed_47 : decode cX3_feed 47 = .ok (.ifCond .ge 7, 3) := by decide +kernel
theorem dX3_feed_50 : decode cX3_feed 50 = .ok (.iconst 1, 1) := by decide +kernel
theorem dX3_feed_51 : decode cX3_feed 51 = .ok (.goto 4, 3) := by decide +kernel
theorem dX3_feed_54 : decode cX3_feed 54 = .ok (.iconst 0, 1) := by decide +kernel
theorem dX3_feed_55 : decode cX3_feed 55 = .ok (.invokevirtual 20, 3) := by decide +kernel
theorem dX3_feed_58 : decode cX3_feed 58 = .ok (.return_, 1) := by decide +kernel
theorem dX3_fight_0 : decode cX3_fight 0 = .ok (.aload_n 0, 1) := by decide +kernel
theorem dX3_fight_1 : decode cX3_fight 1 = .ok (.getfield 14, 3) := by decide +kernel
theorem dX3_fight_4 : decode cX3_fight 4 = .ok (.iload_n 1, 1) := by decide +kernel
theorem dX3_fight_5 : decode cX3_fight 5 = .ok (.bipush 8, 2) := by decide +kernel
theorem dX3_fight_7 : decode cX3_fight 7 = .ok (.invokevirtual 24, 3) := by decide +kernel
theorem dX3_fight_10 : decode cX3_fight 10 = .ok (.iconst 1, 1) := by decide +kernel
theorem dX3_fight_11 : decode cX3_fight 11 = .ok (.if_icmp .ne 9, 3) := by decide +kernel
theorem dX3_fight_14 : decode cX3_fight 14 = .ok (.iload_n 2, 1) := by decide +kernel
theorem dX3_fight_15 : decode cX3_fight 15 = .ok (.iconst 2, 1) := by decide +kernel
theorem dX3_fight_16 : decode cX3_fight 16 = .ok (.idiv, 1) := by decide +kernel
theorem dX3_fight_17 : decode cX3_fight 17 = .ok (.goto 4, 3) := by decide +kernel
theorem dX3_fight_20 : decode cX3_fight 20 = .ok (.iload_n 2, 1) := by decide +kernel
theorem dX3_fight_21 : decode cX3_fight 21 = .ok (.istore_n 3, 1) := by decide +kernel
theorem dX3_fight_22 : decode cX3_fight 22 = .ok (.aload_n 0, 1) := by decide +kernel
theorem dX3_fight_23 : decode cX3_fight 23 = .ok (.getfield 14, 3) := by decide +kernel
theorem dX3_fight_26 : decode cX3_fight 26 = .ok (.iload_n 1, 1) := by decide +kernel
theorem dX3_fight_27 : decode cX3_fight 27 = .ok (.iconst 4, 1) := by decide +kernel
theorem dX3_fight_28 : decode cX3_fight 28 = .ok (.invokevirtual 24, 3) := by decide +kernel
theorem dX3_fight_31 : decode cX3_fight 31 = .ok (.istore 4, 2) := by decide +kernel
theorem dX3_fight_33 : decode cX3_fight 33 = .ok (.aload_n 0, 1) := by decide +kernel
theorem dX3_fight_34 : decode cX3_fight 34 = .ok (.getfield 14, 3) := by decide +kernel
theorem dX3_fight_37 : decode cX3_fight 37 = .ok (.iload_n 1, 1) := by decide +kernel
theorem dX3_fight_38 : decode cX3_fight 38 = .ok (.bipush 6, 2) := by decide +kernel
theorem dX3_fight_40 : decode cX3_fight 40 = .ok (.invokevirtual 24, 3) := by decide +kernel
theorem dX3_fight_43 : decode cX3_fight 43 = .ok (.iload_n 3, 1) := by decide +kernel
theorem dX3_fight_44 : decode cX3_fight 44 = .ok (.iload 4, 2) := by decide +kernel
theorem dX3_fight_46 : decode cX3_fight 46 = .ok (.invokestatic 42, 3) := by decide +kernel
theorem dX3_fight_49 : decode cX3_fight 49 = .ok (.iadd, 1) := by decide +kernel
theorem dX3_fight_50 : decode cX3_fight 50 = .ok (.istore 5, 2) := by decide +kernel
theorem dX3_fight_52 : decode cX3_fight 52 = .ok (.bipush (-5), 2) := by decide +kernel
theorem dX3_fight_54 : decode cX3_fight 54 = .ok (.iconst 5, 1) := by decide +kernel
theorem dX3_fight_55 : decode cX3_fight 55 = .ok (.iload 5, 2) := by decide +kernel
theorem dX3_fight_57 : decode cX3_fight 57 = .ok (.invokestatic 31, 3) := by decide +kernel
theorem dX3_fight_60 : decode cX3_fight 60 = .ok (.invokestatic 39, 3) := by decide +kernel
theorem dX3_fight_63 : decode cX3_fight 63 = .ok (.istore 5, 2) := by decide +kernel
theorem dX3_fight_65 : decode cX3_fight 65 = .ok (.aload_n 0, 1) := by decide +kernel
theorem dX3_fight_66 : decode cX3_fight 66 = .ok (.getfield 14, 3) := by decide +kernel
theorem dX3_fight_69 : decode cX3_fight 69 = .ok (.iload_n 1, 1) := by decide +kernel
theorem dX3_fight_70 : decode cX3_fight 70 = .ok (.bipush 6, 2) := by decide +kernel
theorem dX3_fight_72 : decode cX3_fight 72 = .ok (.iload 5, 2) := by decide +kernel
theorem dX3_fight_74 : decode cX3_fight 74 = .ok (.invokevirtual 20, 3) := by decide +kernel
theorem dX3_fight_77 : decode cX3_fight 77 = .ok (.aload_n 0, 1) := by decide +kernel
theorem dX3_fight_78 : decode cX3_fight 78 = .ok (.getfield 14, 3) := by decide +kernel
theorem dX3_fight_81 : decode cX3_fight 81 = .ok (.iload_n 1, 1) := by decide +kernel
theorem dX3_fight_82 : decode cX3_fight 82 = .ok (.iconst 4, 1) := by decide +kernel
theorem dX3_fight_83 : decode cX3_fight 83 = .ok (.iload 4, 2) := by decide +kernel
theorem dX3_fight_85 : decode cX3_fight 85 = .ok (.iload_n 3, 1) := by decide +kernel
theorem dX3_fight_86 : decode cX3_fight 86 = .ok (.bipush 8, 2) := by decide +kernel
theorem dX3_fight_88 : decode cX3_fight 88 = .ok (.idiv, 1) := by decide +kernel
theorem dX3_fight_89 : decode cX3_fight 89 = .ok (.invokestatic 31, 3) := by decide +kernel
theorem dX3_fight_92 : decode cX3_fight 92 = .ok (.ineg, 1) := by decide +kernel
theorem dX3_fight_93 : decode cX3_fight 93 = .ok (.invokevirtual 28, 3) := by decide +kernel
theorem dX3_fight_96 : decode cX3_fight 96 = .ok (.aload_n 0, 1) := by decide +kernel
theorem dX3_fight_97 : decode cX3_fight 97 = .ok (.getfield 14, 3) := by decide +kernel
theorem dX3_fight_100 : decode cX3_fight 100 = .ok (.iload_n 1, 1) := by decide +kernel
theorem dX3_fight_101 : decode cX3_fight 101 = .ok (.bipush 9, 2) := by decide +kernel
theorem dX3_fight_103 : decode cX3_fight 103 = .ok (.iload_n 3, 1) := by decide +kernel
theorem dX3_fight_104 : decode cX3_fight 104 = .ok (.iload 4, 2) := by decide +kernel
theorem dX3_fight_106 : decode cX3_fight 106 = .ok (.bipush 8, 2) := by decide +kernel
theorem dX3_fight_108 : decode cX3_fight 108 = .ok (.idiv, 1) := by decide +kernel
theorem dX3_fight_109 : decode cX3_fight 109 = .ok (.invokestatic 31, 3) := by decide +kernel
theorem dX3_fight_112 : decode cX3_fight 112 = .ok (.invokevirtual 28, 3) := by decide +kernel
theorem dX3_fight_115 : decode cX3_fight 115 = .ok (.iload 5, 2) := by decide +kernel
theorem dX3_fight_117 : decode cX3_fight 117 = .ok (.bipush (-5), 2) := by decide +kernel
theorem dX3_fight_119 : decode cX3_fight 119 = .ok (.if_icmp .ne 14, 3) := by decide +kernel
theorem dX3_fight_122 : decode cX3_fight 122 = .ok (.aload_n 0, 1) := by decide +kernel
theorem dX3_fight_123 : decode cX3_fight 123 = .ok (.getfield 14, 3) := by decide +kernel
theorem dX3_fight_126 : decode cX3_fight 126 = .ok (.iload_n 1, 1) := by decide +kernel
theorem dX3_fight_127 : decode cX3_fight 127 = .ok (.bipush 11, 2) := by decide +kernel
theorem dX3_fight_129 : decode cX3_fight 129 = .ok (.iconst 1, 1) := by decide +kernel
theorem dX3_fight_130 : decode cX3_fight 130 = .ok (.invokevirtual 20, 3) := by decide +kernel
theorem dX3_fight_133 : decode cX3_fight 133 = .ok (.return_, 1) := by decide +kernel
theorem dX3_takeHome_0 : decode cX3_takeHome 0 = .ok (.bipush 6, 2) := by decide +kernel
theorem dX3_takeHome_2 : decode cX3_takeHome 2 = .ok (.aload_n 0, 1) := by decide +kernel
theorem dX3_takeHome_3 : decode cX3_takeHome 3 = .ok (.getfield 14, 3) := by decide +kernel
theorem dX3_takeHome_6 : decode cX3_takeHome 6 = .ok (.iload_n 1, 1) := by decide +kernel
theorem dX3_takeHome_7 : decode cX3_takeHome 7 = .ok (.bipush 9, 2) := by decide +kernel
theorem dX3_takeHome_9 : decode cX3_takeHome 9 = .ok (.invokevirtual 24, 3) := by decide +kernel
theorem dX3_takeHome_12 : decode cX3_takeHome 12 = .ok (.invokestatic 31, 3) := by decide +kernel
theorem dX3_takeHome_15 : decode cX3_takeHome 15 = .ok (.istore_n 2, 1) := by decide +kernel
theorem dX3_takeHome_16 : decode cX3_takeHome 16 = .ok (.aload_n 0, 1) := by decide +kernel
theorem dX3_takeHome_17 : decode cX3_takeHome 17 = .ok (.getfield 14, 3) := by decide +kernel
theorem dX3_takeHome_20 : decode cX3_takeHome 20 = .ok (.iload_n 1, 1) := by decide +kernel
theorem dX3_takeHome_21 : decode cX3_takeHome 21 = .ok (.bipush 9, 2) := by decide +kernel
theorem dX3_takeHome_23 : decode cX3_takeHome 23 = .ok (.iload_n 2, 1) := by decide +kernel
theorem dX3_takeHome_24 : decode cX3_takeHome 24 = .ok (.ineg, 1) := by decide +kernel
theorem dX3_takeHome_25 : decode cX3_takeHome 25 = .ok (.invokevirtual 28, 3) := by decide +kernel
theorem dX3_takeHome_28 : decode cX3_takeHome 28 = .ok (.aload_n 0, 1) := by decide +kernel
theorem dX3_takeHome_29 : decode cX3_takeHome 29 = .ok (.getfield 14, 3) := by decide +kernel
theorem dX3_takeHome_32 : decode cX3_takeHome 32 = .ok (.iload_n 1, 1) := by decide +kernel
theorem dX3_takeHome_33 : decode cX3_takeHome 33 = .ok (.bipush 10, 2) := by decide +kernel
theorem dX3_takeHome_35 : decode cX3_takeHome 35 = .ok (.iload_n 2, 1) := by decide +kernel
theorem dX3_takeHome_36 : decode cX3_takeHome 36 = .ok (.invokevirtual 28, 3) := by decide +kernel
theorem dX3_takeHome_39 : decode cX3_takeHome 39 = .ok (.return_, 1) := by decide +kernel
theorem dX3_takeRoad_0 : decode cX3_takeRoad 0 = .ok (.iload_n 2, 1) := by decide +kernel
theorem dX3_takeRoad_1 : decode cX3_takeRoad 1 = .ok (.aload_n 0, 1) := by decide +kernel
theorem dX3_takeRoad_2 : decode cX3_takeRoad 2 = .ok (.getfield 14, 3) := by decide +kernel
theorem dX3_takeRoad_5 : decode cX3_takeRoad 5 = .ok (.iload_n 1, 1) := by decide +kernel
theorem dX3_takeRoad_6 : decode cX3_takeRoad 6 = .ok (.bipush 12, 2) := by decide +kernel
theorem dX3_takeRoad_8 : decode cX3_takeRoad 8 = .ok (.invokevirtual 24, 3) := by decide +kernel
theorem dX3_takeRoad_11 : decode cX3_takeRoad 11 = .ok (.invokestatic 39, 3) := by decide +kernel
theorem dX3_takeRoad_14 : decode cX3_takeRoad 14 = .ok (.istore_n 3, 1) := by decide +kernel
theorem dX3_takeRoad_15 : decode cX3_takeRoad 15 = .ok (.aload_n 0, 1) := by decide +kernel
theorem dX3_takeRoad_16 : decode cX3_takeRoad 16 = .ok (.getfield 14, 3) := by decide +kernel
theorem dX3_takeRoad_19 : decode cX3_takeRoad 19 = .ok (.iload_n 1, 1) := by decide +kernel
theorem dX3_takeRoad_20 : decode cX3_takeRoad 20 = .ok (.bipush 12, 2) := by decide +kernel
theorem dX3_takeRoad_22 : decode cX3_takeRoad 22 = .ok (.iload_n 3, 1) := by decide +kernel
theorem dX3_takeRoad_23 : decode cX3_takeRoad 23 = .ok (.iconst 4, 1) := by decide +kernel
theorem dX3_takeRoad_24 : decode cX3_takeRoad 24 = .ok (.iadd, 1) := by decide +kernel
theorem dX3_takeRoad_25 : decode cX3_takeRoad 25 = .ok (.invokevirtual 20, 3) := by decide +kernel
theorem dX3_takeRoad_28 : decode cX3_takeRoad 28 = .ok (.iload_n 3, 1) := by decide +kernel
theorem dX3_takeRoad_29 : decode cX3_takeRoad 29 = .ok (.aload_n 0, 1) := by decide +kernel
theorem dX3_takeRoad_30 : decode cX3_takeRoad 30 = .ok (.getfield 14, 3) := by decide +kernel
theorem dX3_takeRoad_33 : decode cX3_takeRoad 33 = .ok (.iload_n 1, 1) := by decide +kernel
theorem dX3_takeRoad_34 : decode cX3_takeRoad 34 = .ok (.iconst 1, 1) := by decide +kernel
theorem dX3_takeRoad_35 : decode cX3_takeRoad 35 = .ok (.invokevirtual 24, 3) := by decide +kernel
theorem dX3_takeRoad_38 : decode cX3_takeRoad 38 = .ok (.iadd, 1) := by decide +kernel
theorem dX3_takeRoad_39 : decode cX3_takeRoad 39 = .ok (.ireturn, 1) := by decide +kernel
theorem dX4_init_0 : decode cX4_init 0 = .ok (.aload_n 0, 1) := by decide +kernel
theorem dX4_init_1 : decode cX4_init 1 = .ok (.invokespecial 3, 3) := by decide +kernel
theorem dX4_init_4 : decode cX4_init 4 = .ok (.aload_n 0, 1) := by decide +kernel
theorem dX4_init_5 : decode cX4_init 5 = .ok (.new 9, 3) := by decide +kernel
theorem dX4_init_8 : decode cX4_init 8 = .ok (.dup, 1) := by decide +kernel
theorem dX4_init_9 : decode cX4_init 9 = .ok (.bipush 6, 2) := by decide +kernel
theorem dX4_init_11 : decode cX4_init 11 = .ok (.iconst 3, 1) := by decide +kernel
theorem dX4_init_12 : decode cX4_init 12 = .ok (.invokespecial 13, 3) := by decide +kernel
theorem dX4_init_15 : decode cX4_init 15 = .ok (.putfield 16, 3) := by decide +kernel
theorem dX4_init_18 : decode cX4_init 18 = .ok (.aload_n 0, 1) := by decide +kernel
theorem dX4_init_19 : decode cX4_init 19 = .ok (.iconst 0, 1) := by decide +kernel
theorem dX4_init_20 : decode cX4_init 20 = .ok (.putfield 20, 3) := by decide +kernel
theorem dX4_init_23 : decode cX4_init 23 = .ok (.return_, 1) := by decide +kernel
theorem dX4_get_0 : decode cX4_get 0 = .ok (.aload_n 0, 1) := by decide +kernel
theorem dX4_get_1 : decode cX4_get 1 = .ok (.getfield 16, 3) := by decide +kernel
theorem dX4_get_4 : decode cX4_get 4 = .ok (.iload_n 1, 1) := by decide +kernel
theorem dX4_get_5 : decode cX4_get 5 = .ok (.iload_n 2, 1) := by decide +kernel
theorem dX4_get_6 : decode cX4_get 6 = .ok (.invokevirtual 24, 3) := by decide +kernel
theorem dX4_get_9 : decode cX4_get 9 = .ok (.ireturn, 1) := by decide +kernel
theorem dX4_freeRow_0 : decode cX4_freeRow 0 = .ok (.iconst 0, 1) := by decide +kernel
theorem dX4_freeRow_1 : decode cX4_freeRow 1 = .ok (.istore_n 1, 1) := by decide +kernel
theorem dX4_freeRow_2 : decode cX4_freeRow 2 = .ok (.iload_n 1, 1) := by decide +kernel
theorem dX4_freeRow_3 : decode cX4_freeRow 3 = .ok (.bipush 6, 2) := by decide +kernel
theorem dX4_freeRow_5 : decode cX4_freeRow 5 = .ok (.if_icmp .ge 23, 3) := by decide +kernel
theorem dX4_freeRow_8 : decode cX4_freeRow 8 = .ok (.aload_n 0, 1) := by decide +kernel
theorem dX4_freeRow_9 : decode cX4_freeRow 9 = .ok (.getfield 16, 3) := by decide +kernel
theorem dX4_freeRow_12 : decode cX4_freeRow 12 = .ok (.iload_n 1, 1) := by decide +kernel
theorem dX4_freeRow_13 : decode cX4_freeRow 13 = .ok (.iconst 0, 1) := by decide +kernel
theorem dX4_freeRow_14 : decode cX4_freeRow 14 = .ok (.invokevirtual 24, 3) := by decide +kernel
theorem dX4_freeRow_17 : decode cX4_freeRow 17 = .ok (.ifCond .ne 5, 3) := by decide +kernel
theorem dX4_freeRow_20 : decode cX4_freeRow 20 = .ok (.iload_n 1, 1) := by decide +kernel
theorem dX4_freeRow_21 : decode cX4_freeRow 21 = .ok (.ireturn, 1) := by decide +kernel
theorem dX4_freeRow_22 : decode cX4_freeRow 22 = .ok (.iinc 1 1, 3) := by decide +kernel
theorem dX4_freeRow_25 : decode cX4_freeRow 25 = .ok (.goto (-23), 3) := by decide +kernel
theorem dX4_freeRow_28 : decode cX4_freeRow 28 = .ok (.iconst (-1), 1) := by decide +kernel
theorem dX4_freeRow_29 : decode cX4_freeRow 29 = .ok (.ireturn, 1) := by decide +kernel
theorem dX4_count_0 : decode cX4_count 0 = .ok (.iconst 0, 1) := by decide +kernel
theorem dX4_count_1 : decode cX4_count 1 = .ok (.istore_n 1, 1) := by decide +kernel
theorem dX4_count_2 : decode cX4_count 2 = .ok (.iconst 0, 1) := by decide +kernel
theorem dX4_count_3 : decode cX4_count 3 = .ok (.istore_n 2, 1) := by decide +kernel
theorem dX4_count_4 : decode cX4_count 4 = .ok (.iload_n 2, 1) := by decide +kernel
theorem dX4_count_5 : decode cX4_count 5 = .ok (.bipush 6, 2) := by decide +kernel
theorem dX4_count_7 : decode cX4_count 7 = .ok (.if_icmp .ge 29, 3) := by decide +kernel
theorem dX4_count_10 : decode cX4_count 10 = .ok (.iload_n 1, 1) := by decide +kernel
theorem dX4_count_11 : decode cX4_count 11 = .ok (.aload_n 0, 1) := by decide +kernel
theorem dX4_count_12 : decode cX4_count 12 = .ok (.getfield 16, 3) := by decide +kernel
theorem dX4_count_15 : decode cX4_count 15 = .ok (.iload_n 2, 1) := by decide +kernel
theorem dX4_count_16 : decode cX4_count 16 = .ok (.iconst 0, 1) := by decide +kernel
theorem dX4_count_17 : decode cX4_count 17 = .ok (.invokevirtual 24, 3) := by decide +kernel
theorem dX4_count_20 : decode cX4_count 20 = .ok (.ifCond .le 7, 3) := by decide +kernel
theorem dX4_count_23 : decode cX4_count 23 = .ok (.iconst 1, 1) := by decide +kernel
theorem dX4_count_24 : decode cX4_count 24 = .ok (.goto 4, 3) := by decide +kernel
theorem dX4_count_27 : decode cX4_count 27 = .ok (.iconst 0, 1) := by decide +kernel
theorem dX4_count_28 : decode cX4_count 28 = .ok (.iadd, 1) := by decide +kernel
theorem dX4_count_29 : decode cX4_count 29 = .ok (.istore_n 1, 1) := by decide +kernel
theorem dX4_count_30 : decode cX4_count 30 = .ok (.iinc 2 1, 3) := by decide +kernel
theorem dX4_count_33 : decode cX4_count 33 = .ok (.goto (-29), 3) := by decide +kernel
theorem dX4_count_36 : decode cX4_count 36 = .ok (.iload_n 1, 1) := by decide +kernel
theorem dX4_count_37 : decode cX4_count 37 = .ok (.ireturn, 1) := by decide +kernel
theorem dX4_send_0 : decode cX4_send 0 = .ok (.aload_n 0, 1) := by decide +kernel
theorem dX4_send_1 : decode cX4_send 1 = .ok (.dup, 1) := by decide +kernel
theorem dX4_send_2 : decode cX4_send 2 = .ok (.getfield 20, 3) := by decide +kernel
theorem dX4_send_5 : decode cX4_send 5 = .ok (.iconst 1, 1) := by decide +kernel
theorem dX4_send_6 : decode cX4_send 6 = .ok (.iadd, 1) := by decide +kernel
theorem dX4_send_7 : decode cX4_send 7 = .ok (.putfield 20, 3) := by decide +kernel
theorem dX4_send_10 : decode cX4_send 10 = .ok (.aload_n 0, 1) := by decide +kernel
theorem dX4_send_11 : decode cX4_send 11 = .ok (.getfield 16, 3) := by decide +kernel
theorem dX4_send_14 : decode cX4_send 14 = .ok (.iload_n 1, 1) := by decide +kernel
theorem dX4_send_15 : decode cX4_send 15 = .ok (.iconst 0, 1) := by decide +kernel
theorem dX4_send_16 : decode cX4_send 16 = .ok (.aload_n 0, 1) := by decide +kernel
theorem dX4_send_17 : decode cX4_send 17 = .ok (.getfield 20, 3) := by decide +kernel
theorem dX4_send_20 : decode cX4_send 20 = .ok (.invokevirtual 28, 3) := by decide +kernel
theorem dX4_send_23 : decode cX4_send 23 = .ok (.aload_n 0, 1) := by decide +kernel
theorem dX4_send_24 : decode cX4_send 24 = .ok (.getfield 16, 3) := by decide +kernel
theorem dX4_send_27 : decode cX4_send 27 = .ok (.iload_n 1, 1) := by decide +kernel
theorem dX4_send_28 : decode cX4_send 28 = .ok (.iconst 1, 1) := by decide +kernel
theorem dX4_send_29 : decode cX4_send 29 = .ok (.iload_n 2, 1) := by decide +kernel
theorem dX4_send_30 : decode cX4_send 30 = .ok (.invokevirtual 28, 3) := by decide +kernel
theorem dX4_send_33 : decode cX4_send 33 = .ok (.aload_n 0, 1) := by decide +kernel
theorem dX4_send_34 : decode cX4_send 34 = .ok (.getfield 16, 3) := by decide +kernel
theorem dX4_send_37 : decode cX4_send 37 = .ok (.iload_n 1, 1) := by decide +kernel
theorem dX4_send_38 : decode cX4_send 38 = .ok (.iconst 2, 1) := by decide +kernel
theorem dX4_send_39 : decode cX4_send 39 = .ok (.iconst 0, 1) := by decide +kernel
theorem dX4_send_40 : decode cX4_send 40 = .ok (.invokevirtual 28, 3) := by decide +kernel
theorem dX4_send_43 : decode cX4_send 43 = .ok (.return_, 1) := by decide +kernel
theorem dX4_leave_0 : decode cX4_leave 0 = .ok (.aload_n 0, 1) := by decide +kernel
theorem dX4_leave_1 : decode cX4_leave 1 = .ok (.getfield 16, 3) := by decide +kernel
theorem dX4_leave_4 : decode cX4_leave 4 = .ok (.iload_n 1, 1) := by decide +kernel
theorem dX4_leave_5 : decode cX4_leave 5 = .ok (.iconst 2, 1) := by decide +kernel
theorem dX4_leave_6 : decode cX4_leave 6 = .ok (.iconst 1, 1) := by decide +kernel
theorem dX4_leave_7 : decode cX4_leave 7 = .ok (.invokevirtual 28, 3) := by decide +kernel
theorem dX4_leave_10 : decode cX4_leave 10 = .ok (.return_, 1) := by decide +kernel
theorem dX4_free_0 : decode cX4_free 0 = .ok (.aload_n 0, 1) := by decide +kernel
theorem dX4_free_1 : decode cX4_free 1 = .ok (.getfield 16, 3) := by decide +kernel
theorem dX4_free_4 : decode cX4_free 4 = .ok (.iload_n 1, 1) := by decide +kernel
theorem dX4_free_5 : decode cX4_free 5 = .ok (.iconst 0, 1) := by decide +kernel
theorem dX4_free_6 : decode cX4_free 6 = .ok (.iconst 0, 1) := by decide +kernel
theorem dX4_free_7 : decode cX4_free 7 = .ok (.invokevirtual 28, 3) := by decide +kernel
theorem dX4_free_10 : decode cX4_free 10 = .ok (.return_, 1) := by decide +kernel
theorem dX4_nextBehind_0 : decode cX4_nextBehind 0 = .ok (.iconst (-1), 1) := by decide +kernel
theorem dX4_nextBehind_1 : decode cX4_nextBehind 1 = .ok (.istore_n 2, 1) := by decide +kernel
theorem dX4_nextBehind_2 : decode cX4_nextBehind 2 = .ok (.iconst 0, 1) := by decide +kernel
theorem dX4_nextBehind_3 : decode cX4_nextBehind 3 = .ok (.istore_n 3, 1) := by decide +kernel
theorem dX4_nextBehind_4 : decode cX4_nextBehind 4 = .ok (.iload_n 3, 1) := by decide +kernel
theorem dX4_nextBehind_5 : decode cX4_nextBehind 5 = .ok (.bipush 6, 2) := by decide +kernel
theorem dX4_nextBehind_7 : decode cX4_nextBehind 7 = .ok (.if_icmp .ge 74, 3) := by decide +kernel
theorem dX4_nextBehind_10 : decode cX4_nextBehind 10 = .ok (.aload_n 0, 1) := by decide +kernel
theorem dX4_nextBehind_11 : decode cX4_nextBehind 11 = .ok (.getfield 16, 3) := by decide +kernel
theorem dX4_nextBehind_14 : decode cX4_nextBehind 14 = .ok (.iload_n 3, 1) := by decide +kernel
theorem dX4_nextBehind_15 : decode cX4_nextBehind 15 = .ok (.iconst 0, 1) := by decide +kernel
theorem dX4_nextBehind_16 : decode cX4_nextBehind 16 = .ok (.invokevirtual 24, 3) := by decide +kernel
theorem dX4_nextBehind_19 : decode cX4_nextBehind 19 = .ok (.iload_n 1, 1) := by decide +kernel
theorem dX4_nextBehind_20 : decode cX4_nextBehind 20 = .ok (.if_icmp .le 19, 3) := by decide +kernel
theorem dX4_nextBehind_23 : decode cX4_nextBehind 23 = .ok (.aload_n 0, 1) := by decide +kernel
theorem dX4_nextBehind_24 : decode cX4_nextBehind 24 = .ok (.getfield 16, 3) := by decide +kernel
theorem dX4_nextBehind_27 : decode cX4_nextBehind 27 = .ok (.iload_n 3, 1) := by decide +kernel
theorem dX4_nextBehind_28 : decode cX4_nextBehind 28 = .ok (.iconst 2, 1) := by decide +kernel
theorem dX4_nextBehind_29 : decode cX4_nextBehind 29 = .ok (.invokevirtual 24, 3) := by decide +kernel
theorem dX4_nextBehind_32 : decode cX4_nextBehind 32 = .ok (.ifCond .ne 7, 3) := by decide +kernel
theorem dX4_nextBehind_35 : decode cX4_nextBehind 35 = .ok (.iconst 1, 1) := by decide +kernel
theorem dX4_nextBehind_36 : decode cX4_nextBehind 36 = .ok (.goto 4, 3) := by decide +kernel
theorem dX4_nextBehind_39 : decode cX4_nextBehind 39 = .ok (.iconst 0, 1) := by decide +kernel
theorem dX4_nextBehind_40 : decode cX4_nextBehind 40 = .ok (.istore 4, 2) := by decide +kernel
theorem dX4_nextBehind_42 : decode cX4_nextBehind 42 = .ok (.iload 4, 2) := by decide +kernel
theorem dX4_nextBehind_44 : decode cX4_nextBehind 44 = .ok (.ifCond .eq 31, 3) := by decide +kernel
theorem dX4_nextBehind_47 : decode cX4_nextBehind 47 = .ok (.iload_n 2, 1) := by decide +kernel
theorem dX4_nextBehind_48 : decode cX4_nextBehind 48 = .ok (.iconst (-1), 1) := by decide +kernel
theorem dX4_nextBehind_49 : decode cX4_nextBehind 49 = .ok (.if_icmp .eq 24, 3) := by decide +kernel
theorem dX4_nextBehind_52 : decode cX4_nextBehind 52 = .ok (.aload_n 0, 1) := by decide +kernel
theorem dX4_nextBehind_53 : decode cX4_nextBehind 53 = .ok (.getfield 16, 3) := by decide +kernel
theorem dX4_nextBehind_56 : decode cX4_nextBehind 56 = .ok (.iload_n 3, 1) := by decide +kernel
theorem dX4_nextBehind_57 : decode cX4_nextBehind 57 = .ok (.iconst 0, 1) := by decide +kernel
theorem dX4_nextBehind_58 : decode cX4_nextBehind 58 = .ok (.invokevirtual 24, 3) := by decide +kernel
theorem dX4_nextBehind_61 : decode cX4_nextBehind 61 = .ok (.aload_n 0, 1) := by decide +kernel
theorem dX4_nextBehind_62 : decode cX4_nextBehind 62 = .ok (.getfield 16, 3) := by decide +kernel
theorem dX4_nextBehind_65 : decode cX4_nextBehind 65 = .ok (.iload_n 2, 1) := by decide +kernel
theorem dX4_nextBehind_66 : decode cX4_nextBehind 66 = .ok (.iconst 0, 1) := by decide +kernel
theorem dX4_nextBehind_67 : decode cX4_nextBehind 67 = .ok (.invokevirtual 24, 3) := by decide +kernel
theorem dX4_nextBehind_70 : decode cX4_nextBehind 70 = .ok (.if_icmp .ge 5, 3) := by decide +kernel
theorem dX4_nextBehind_73 : decode cX4_nextBehind 73 = .ok (.iload_n 3, 1) := by decide +kernel
theorem dX4_nextBehind_74 : decode cX4_nextBehind 74 = .ok (.istore_n 2, 1) := by decide +kernel
theorem dX4_nextBehind_75 : decode cX4_nextBehind 75 = .ok (.iinc 3 1, 3) := by decide +kernel
theorem dX4_nextBehind_78 : decode cX4_nextBehind 78 = .ok (.goto (-74), 3) := by decide +kernel
theorem dX4_nextBehind_81 : decode cX4_nextBehind 81 = .ok (.iload_n 2, 1) := by decide +kernel
theorem dX4_nextBehind_82 : decode cX4_nextBehind 82 = .ok (.ireturn, 1) := by decide +kernel
theorem dX5_init_0 : decode cX5_init 0 = .ok (.aload_n 0, 1) := by decide +kernel
theorem dX5_init_1 : decode cX5_init 1 = .ok (.invokespecial 1, 3) := by decide +kernel
theorem dX5_init_4 : decode cX5_init 4 = .ok (.iload_n 1, 1) := by decide +kernel
theorem dX5_init_5 : decode cX5_init 5 = .ok (.iload_n 2, 1) := by decide +kernel
theorem dX5_init_6 : decode cX5_init 6 = .ok (.imul, 1) := by decide +kernel
theorem dX5_init_7 : decode cX5_init 7 = .ok (.istore_n 3, 1) := by decide +kernel
theorem dX5_init_8 : decode cX5_init 8 = .ok (.aload_n 0, 1) := by decide +kernel
theorem dX5_init_9 : decode cX5_init 9 = .ok (.iload_n 2, 1) := by decide +kernel
theorem dX5_init_10 : decode cX5_init 10 = .ok (.putfield 7, 3) := by decide +kernel
theorem dX5_init_13 : decode cX5_init 13 = .ok (.aload_n 0, 1) := by decide +kernel
theorem dX5_init_14 : decode cX5_init 14 = .ok (.iload_n 3, 1) := by decide +kernel
theorem dX5_init_15 : decode cX5_init 15 = .ok (.ifCond .le 7, 3) := by decide +kernel
theorem dX5_init_18 : decode cX5_init 18 = .ok (.iload_n 3, 1) := by decide +kernel
theorem dX5_init_19 : decode cX5_init 19 = .ok (.goto 4, 3) := by decide +kernel
theorem dX5_init_22 : decode cX5_init 22 = .ok (.iconst 0, 1) := by decide +kernel
theorem dX5_init_23 : decode cX5_init 23 = .ok (.newarray .int, 2) := by decide +kernel
theorem dX5_init_25 : decode cX5_init 25 = .ok (.putfield 13, 3) := by decide +kernel
theorem dX5_init_28 : decode cX5_init 28 = .ok (.return_, 1) := by decide +kernel
theorem dX5_get_0 : decode cX5_get 0 = .ok (.iload_n 1, 1) := by decide +kernel
theorem dX5_get_1 : decode cX5_get 1 = .ok (.aload_n 0, 1) := by decide +kernel
theorem dX5_get_2 : decode cX5_get 2 = .ok (.getfield 7, 3) := by decide +kernel
theorem dX5_get_5 : decode cX5_get 5 = .ok (.imul, 1) := by decide +kernel
theorem dX5_get_6 : decode cX5_get 6 = .ok (.iload_n 2, 1) := by decide +kernel
theorem dX5_get_7 : decode cX5_get 7 = .ok (.iadd, 1) := by decide +kernel
theorem dX5_get_8 : decode cX5_get 8 = .ok (.istore_n 3, 1) := by decide +kernel
theorem dX5_get_9 : decode cX5_get 9 = .ok (.iload_n 1, 1) := by decide +kernel
theorem dX5_get_10 : decode cX5_get 10 = .ok (.ifCond .lt 32, 3) := by decide +kernel
theorem dX5_get_13 : decode cX5_get 13 = .ok (.iload_n 2, 1) := by decide +kernel
theorem dX5_get_14 : decode cX5_get 14 = .ok (.ifCond .lt 28, 3) := by decide +kernel
theorem dX5_get_17 : decode cX5_get 17 = .ok (.iload_n 2, 1) := by decide +kernel
theorem dX5_get_18 : decode cX5_get 18 = .ok (.aload_n 0, 1) := by decide +kernel
theorem dX5_get_19 : decode cX5_get 19 = .ok (.getfield 7, 3) := by decide +kernel
theorem dX5_get_22 : decode cX5_get 22 = .ok (.if_icmp .ge 20, 3) := by decide +kernel
theorem dX5_get_25 : decode cX5_get 25 = .ok (.iload_n 3, 1) := by decide +kernel
theorem dX5_get_26 : decode cX5_get 26 = .ok (.ifCond .lt 16, 3) := by decide +kernel
theorem dX5_get_29 : decode cX5_get 29 = .ok (.iload_n 3, 1) := by decide +kernel
theorem dX5_get_30 : decode cX5_get 30 = .ok (.aload_n 0, 1) := by decide +kernel
theorem dX5_get_31 : decode cX5_get 31 = .ok (.getfield 13, 3) := by decide +kernel
theorem dX5_get_34 : decode cX5_get 34 = .ok (.arraylength, 1) := by decide +kernel
theorem dX5_get_35 : decode cX5_get 35 = .ok (.if_icmp .ge 7, 3) := by decide +kernel
theorem dX5_get_38 : decode cX5_get 38 = .ok (.iconst 1, 1) := by decide +kernel
theorem dX5_get_39 : decode cX5_get 39 = .ok (.goto 4, 3) := by decide +kernel
theorem dX5_get_42 : decode cX5_get 42 = .ok (.iconst 0, 1) := by decide +kernel
theorem dX5_get_43 : decode cX5_get 43 = .ok (.istore 4, 2) := by decide +kernel
theorem dX5_get_45 : decode cX5_get 45 = .ok (.iload 4, 2) := by decide +kernel
theorem dX5_get_47 : decode cX5_get 47 = .ok (.ifCond .eq 12, 3) := by decide +kernel
theorem dX5_get_50 : decode cX5_get 50 = .ok (.aload_n 0, 1) := by decide +kernel
theorem dX5_get_51 : decode cX5_get 51 = .ok (.getfield 13, 3) := by decide +kernel
theorem dX5_get_54 : decode cX5_get 54 = .ok (.iload_n 3, 1) := by decide +kernel
theorem dX5_get_55 : decode cX5_get 55 = .ok (.iaload, 1) := by decide +kernel
theorem dX5_get_56 : decode cX5_get 56 = .ok (.goto 4, 3) := by decide +kernel
theorem dX5_get_59 : decode cX5_get 59 = .ok (.iconst 0, 1) := by decide +kernel
theorem dX5_get_60 : decode cX5_get 60 = .ok (.ireturn, 1) := by decide +kernel
theorem dX5_set_0 : decode cX5_set 0 = .ok (.iload_n 1, 1) := by decide +kernel
theorem dX5_set_1 : decode cX5_set 1 = .ok (.aload_n 0, 1) := by decide +kernel
theorem dX5_set_2 : decode cX5_set 2 = .ok (.getfield 7, 3) := by decide +kernel
theorem dX5_set_5 : decode cX5_set 5 = .ok (.imul, 1) := by decide +kernel
theorem dX5_set_6 : decode cX5_set 6 = .ok (.iload_n 2, 1) := by decide +kernel
theorem dX5_set_7 : decode cX5_set 7 = .ok (.iadd, 1) := by decide +kernel
theorem dX5_set_8 : decode cX5_set 8 = .ok (.istore 4, 2) := by decide +kernel
theorem dX5_set_10 : decode cX5_set 10 = .ok (.iload_n 1, 1) := by decide +kernel
theorem dX5_set_11 : decode cX5_set 11 = .ok (.ifCond .lt 38, 3) := by decide +kernel
theorem dX5_set_14 : decode cX5_set 14 = .ok (.iload_n 2, 1) := by decide +kernel
theorem dX5_set_15 : decode cX5_set 15 = .ok (.ifCond .lt 34, 3) := by decide +kernel
theorem dX5_set_18 : decode cX5_set 18 = .ok (.iload_n 2, 1) := by decide +kernel
theorem dX5_set_19 : decode cX5_set 19 = .ok (.aload_n 0, 1) := by decide +kernel
theorem dX5_set_20 : decode cX5_set 20 = .ok (.getfield 7, 3) := by decide +kernel
theorem dX5_set_23 : decode cX5_set 23 = .ok (.if_icmp .ge 26, 3) := by decide +kernel
theorem dX5_set_26 : decode cX5_set 26 = .ok (.iload 4, 2) := by decide +kernel
theorem dX5_set_28 : decode cX5_set 28 = .ok (.ifCond .lt 21, 3) := by decide +kernel
theorem dX5_set_31 : decode cX5_set 31 = .ok (.iload 4, 2) := by decide +kernel
theorem dX5_set_33 : decode cX5_set 33 = .ok (.aload_n 0, 1) := by decide +kernel
theorem dX5_set_34 : decode cX5_set 34 = .ok (.getfield 13, 3) := by decide +kernel
theorem dX5_set_37 : decode cX5_set 37 = .ok (.arraylength, 1) := by decide +kernel
theorem dX5_set_38 : decode cX5_set 38 = .ok (.if_icmp .ge 11, 3) := by decide +kernel
theorem dX5_set_41 : decode cX5_set 41 = .ok (.aload_n 0, 1) := by decide +kernel
theorem dX5_set_42 : decode cX5_set 42 = .ok (.getfield 13, 3) := by decide +kernel
theorem dX5_set_45 : decode cX5_set 45 = .ok (.iload 4, 2) := by decide +kernel
theorem dX5_set_47 : decode cX5_set 47 = .ok (.iload_n 3, 1) := by decide +kernel
theorem dX5_set_48 : decode cX5_set 48 = .ok (.iastore, 1) := by decide +kernel
theorem dX5_set_49 : decode cX5_set 49 = .ok (.return_, 1) := by decide +kernel
theorem dX5_add_0 : decode cX5_add 0 = .ok (.iload_n 1, 1) := by decide +kernel
theorem dX5_add_1 : decode cX5_add 1 = .ok (.aload_n 0, 1) := by decide +kernel
theorem dX5_add_2 : decode cX5_add 2 = .ok (.getfield 7, 3) := by decide +kernel
theorem dX5_add_5 : decode cX5_add 5 = .ok (.imul, 1) := by decide +kernel
theorem dX5_add_6 : decode cX5_add 6 = .ok (.iload_n 2, 1) := by decide +kernel
theorem dX5_add_7 : decode cX5_add 7 = .ok (.iadd, 1) := by decide +kernel
theorem dX5_add_8 : decode cX5_add 8 = .ok (.istore 4, 2) := by decide +kernel
theorem dX5_add_10 : decode cX5_add 10 = .ok (.iload_n 1, 1) := by decide +kernel
theorem dX5_add_11 : decode cX5_add 11 = .ok (.ifCond .lt 41, 3) := by decide +kernel
theorem dX5_add_14 : decode cX5_add 14 = .ok (.iload_n 2, 1) := by decide +kernel
theorem dX5_add_15 : decode cX5_add 15 = .ok (.ifCond .lt 37, 3) := by decide +kernel
theorem dX5_add_18 : decode cX5_add 18 = .ok (.iload_n 2, 1) := by decide +kernel
theorem dX5_add_19 : decode cX5_add 19 = .ok (.aload_n 0, 1) := by decide +kernel
theorem dX5_add_20 : decode cX5_add 20 = .ok (.getfield 7, 3) := by decide +kernel
theorem dX5_add_23 : decode cX5_add 23 = .ok (.if_icmp .ge 29, 3) := by decide +kernel
theorem dX5_add_26 : decode cX5_add 26 = .ok (.iload 4, 2) := by decide +kernel
theorem dX5_add_28 : decode cX5_add 28 = .ok (.ifCond .lt 24, 3) := by decide +kernel
theorem dX5_add_31 : decode cX5_add 31 = .ok (.iload 4, 2) := by decide +kernel
theorem dX5_add_33 : decode cX5_add 33 = .ok (.aload_n 0, 1) := by decide +kernel
theorem dX5_add_34 : decode cX5_add 34 = .ok (.getfield 13, 3) := by decide +kernel
theorem dX5_add_37 : decode cX5_add 37 = .ok (.arraylength, 1) := by decide +kernel
theorem dX5_add_38 : decode cX5_add 38 = .ok (.if_icmp .ge 14, 3) := by decide +kernel
theorem dX5_add_41 : decode cX5_add 41 = .ok (.aload_n 0, 1) := by decide +kernel
theorem dX5_add_42 : decode cX5_add 42 = .ok (.getfield 13, 3) := by decide +kernel
theorem dX5_add_45 : decode cX5_add 45 = .ok (.iload 4, 2) := by decide +kernel
theorem dX5_add_47 : decode cX5_add 47 = .ok (.dup2, 1) := by decide +kernel
theorem dX5_add_48 : decode cX5_add 48 = .ok (.iaload, 1) := by decide +kernel
theorem dX5_add_49 : decode cX5_add 49 = .ok (.iload_n 3, 1) := by decide +kernel
theorem dX5_add_50 : decode cX5_add 50 = .ok (.iadd, 1) := by decide +kernel
theorem dX5_add_51 : decode cX5_add 51 = .ok (.iastore, 1) := by decide +kernel
theorem dX5_add_52 : decode cX5_add 52 = .ok (.return_, 1) := by decide +kernel
theorem dX5_fill_0 : decode cX5_fill 0 = .ok (.iconst 0, 1) := by decide +kernel
theorem dX5_fill_1 : decode cX5_fill 1 = .ok (.istore_n 2, 1) := by decide +kernel
theorem dX5_fill_2 : decode cX5_fill 2 = .ok (.iload_n 2, 1) := by decide +kernel
theorem dX5_fill_3 : decode cX5_fill 3 = .ok (.aload_n 0, 1) := by decide +kernel
theorem dX5_fill_4 : decode cX5_fill 4 = .ok (.getfield 13, 3) := by decide +kernel
theorem dX5_fill_7 : decode cX5_fill 7 = .ok (.arraylength, 1) := by decide +kernel
theorem dX5_fill_8 : decode cX5_fill 8 = .ok (.if_icmp .ge 16, 3) := by decide +kernel
theorem dX5_fill_11 : decode cX5_fill 11 = .ok (.aload_n 0, 1) := by decide +kernel
theorem dX5_fill_12 : decode cX5_fill 12 = .ok (.getfield 13, 3) := by decide +kernel
theorem dX5_fill_15 : decode cX5_fill 15 = .ok (.iload_n 2, 1) := by decide +kernel
theorem dX5_fill_16 : decode cX5_fill 16 = .ok (.iload_n 1, 1) := by decide +kernel
theorem dX5_fill_17 : decode cX5_fill 17 = .ok (.iastore, 1) := by decide +kernel
theorem dX5_fill_18 : decode cX5_fill 18 = .ok (.iinc 2 1, 3) := by decide +kernel
theorem dX5_fill_21 : decode cX5_fill 21 = .ok (.goto (-19), 3) := by decide +kernel
theorem dX5_fill_24 : decode cX5_fill 24 = .ok (.return_, 1) := by decide +kernel
theorem dX5_copyFrom_0 : decode cX5_copyFrom 0 = .ok (.iconst 0, 1) := by decide +kernel
theorem dX5_copyFrom_1 : decode cX5_copyFrom 1 = .ok (.istore_n 2, 1) := by decide +kernel
theorem dX5_copyFrom_2 : decode cX5_copyFrom 2 = .ok (.iload_n 2, 1) := by decide +kernel
theorem dX5_copyFrom_3 : decode cX5_copyFrom 3 = .ok (.aload_n 0, 1) := by decide +kernel
theorem dX5_copyFrom_4 : decode cX5_copyFrom 4 = .ok (.getfield 13, 3) := by decide +kernel
theorem dX5_copyFrom_7 : decode cX5_copyFrom 7 = .ok (.arraylength, 1) := by decide +kernel
theorem dX5_copyFrom_8 : decode cX5_copyFrom 8 = .ok (.if_icmp .ge 30, 3) := by decide +kernel
theorem dX5_copyFrom_11 : decode cX5_copyFrom 11 = .ok (.iload_n 2, 1) := by decide +kernel
theorem dX5_copyFrom_12 : decode cX5_copyFrom 12 = .ok (.aload_n 1, 1) := by decide +kernel
theorem dX5_copyFrom_13 : decode cX5_copyFrom 13 = .ok (.getfield 13, 3) := by decide +kernel
theorem dX5_copyFrom_16 : decode cX5_copyFrom 16 = .ok (.arraylength, 1) := by decide +kernel
theorem dX5_copyFrom_17 : decode cX5_copyFrom 17 = .ok (.if_icmp .ge 21, 3) := by decide +kernel
theorem dX5_copyFrom_20 : decode cX5_copyFrom 20 = .ok (.aload_n 0, 1) := by decide +kernel
theorem dX5_copyFrom_21 : decode cX5_copyFrom 21 = .ok (.getfield 13, 3) := by decide +kernel
theorem dX5_copyFrom_24 : decode cX5_copyFrom 24 = .ok (.iload_n 2, 1) := by decide +kernel
theorem dX5_copyFrom_25 : decode cX5_copyFrom 25 = .ok (.aload_n 1, 1) := by decide +kernel
theorem dX5_copyFrom_26 : decode cX5_copyFrom 26 = .ok (.getfield 13, 3) := by decide +kernel
theorem dX5_copyFrom_29 : decode cX5_copyFrom 29 = .ok (.iload_n 2, 1) := by decide +kernel
theorem dX5_copyFrom_30 : decode cX5_copyFrom 30 = .ok (.iaload, 1) := by decide +kernel
theorem dX5_copyFrom_31 : decode cX5_copyFrom 31 = .ok (.iastore, 1) := by decide +kernel
theorem dX5_copyFrom_32 : decode cX5_copyFrom 32 = .ok (.iinc 2 1, 3) := by decide +kernel
theorem dX5_copyFrom_35 : decode cX5_copyFrom 35 = .ok (.goto (-33), 3) := by decide +kernel
theorem dX5_copyFrom_38 : decode cX5_copyFrom 38 = .ok (.return_, 1) := by decide +kernel
