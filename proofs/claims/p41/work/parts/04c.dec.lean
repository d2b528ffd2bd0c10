theorem dX6_init_0 : decode cX6_init 0 = .ok (.aload_n 0, 1) := by decide +kernel
theorem dX6_init_1 : decode cX6_init 1 = .ok (.invokespecial 3, 3) := by decide +kernel
theorem dX6_init_4 : decode cX6_init 4 = .ok (.aload_n 0, 1) := by decide +kernel
theorem dX6_init_5 : decode cX6_init 5 = .ok (.new 9, 3) := by decide +kernel
theorem dX6_init_8 : decode cX6_init 8 = .ok (.dup, 1) := by decide +kernel
theorem dX6_init_9 : decode cX6_init 9 = .ok (.bipush 60, 2) := by decide +kernel
theorem dX6_init_11 : decode cX6_init 11 = .ok (.bipush 16, 2) := by decide +kernel
theorem dX6_init_13 : decode cX6_init 13 = .ok (.invokespecial 13, 3) := by decide +kernel
theorem dX6_init_16 : decode cX6_init 16 = .ok (.putfield 16, 3) := by decide +kernel
theorem dX6_init_19 : decode cX6_init 19 = .ok (.aload_n 0, 1) := by decide +kernel
theorem dX6_init_20 : decode cX6_init 20 = .ok (.new 9, 3) := by decide +kernel
theorem dX6_init_23 : decode cX6_init 23 = .ok (.dup, 1) := by decide +kernel
theorem dX6_init_24 : decode cX6_init 24 = .ok (.bipush 60, 2) := by decide +kernel
theorem dX6_init_26 : decode cX6_init 26 = .ok (.iconst 1, 1) := by decide +kernel
theorem dX6_init_27 : decode cX6_init 27 = .ok (.invokespecial 13, 3) := by decide +kernel
theorem dX6_init_30 : decode cX6_init 30 = .ok (.putfield 20, 3) := by decide +kernel
theorem dX6_init_33 : decode cX6_init 33 = .ok (.aload_n 0, 1) := by decide +kernel
theorem dX6_init_34 : decode cX6_init 34 = .ok (.iconst 0, 1) := by decide +kernel
theorem dX6_init_35 : decode cX6_init 35 = .ok (.putfield 23, 3) := by decide +kernel
theorem dX6_init_38 : decode cX6_init 38 = .ok (.return_, 1) := by decide +kernel
theorem dX6_count_0 : decode cX6_count 0 = .ok (.aload_n 0, 1) := by decide +kernel
theorem dX6_count_1 : decode cX6_count 1 = .ok (.getfield 23, 3) := by decide +kernel
theorem dX6_count_4 : decode cX6_count 4 = .ok (.ireturn, 1) := by decide +kernel
theorem dX6_has_0 : decode cX6_has 0 = .ok (.iload_n 1, 1) := by decide +kernel
theorem dX6_has_1 : decode cX6_has 1 = .ok (.ifCond .lt 15, 3) := by decide +kernel
theorem dX6_has_4 : decode cX6_has 4 = .ok (.iload_n 1, 1) := by decide +kernel
theorem dX6_has_5 : decode cX6_has 5 = .ok (.aload_n 0, 1) := by decide +kernel
theorem dX6_has_6 : decode cX6_has 6 = .ok (.getfield 23, 3) := by decide +kernel
theorem dX6_has_9 : decode cX6_has 9 = .ok (.if_icmp .ge 7, 3) := by decide +kernel
theorem dX6_has_12 : decode cX6_has 12 = .ok (.iconst 1, 1) := by decide +kernel
theorem dX6_has_13 : decode cX6_has 13 = .ok (.goto 4, 3) := by decide +kernel
theorem dX6_has_16 : decode cX6_has 16 = .ok (.iconst 0, 1) := by decide +kernel
theorem dX6_has_17 : decode cX6_has 17 = .ok (.ireturn, 1) := by decide +kernel
theorem dX6_get_0 : decode cX6_get 0 = .ok (.aload_n 0, 1) := by decide +kernel
theorem dX6_get_1 : decode cX6_get 1 = .ok (.getfield 16, 3) := by decide +kernel
theorem dX6_get_4 : decode cX6_get 4 = .ok (.iload_n 1, 1) := by decide +kernel
theorem dX6_get_5 : decode cX6_get 5 = .ok (.iload_n 2, 1) := by decide +kernel
theorem dX6_get_6 : decode cX6_get 6 = .ok (.invokevirtual 27, 3) := by decide +kernel
theorem dX6_get_9 : decode cX6_get 9 = .ok (.ireturn, 1) := by decide +kernel
theorem dX6_set_0 : decode cX6_set 0 = .ok (.aload_n 0, 1) := by decide +kernel
theorem dX6_set_1 : decode cX6_set 1 = .ok (.getfield 16, 3) := by decide +kernel
theorem dX6_set_4 : decode cX6_set 4 = .ok (.iload_n 1, 1) := by decide +kernel
theorem dX6_set_5 : decode cX6_set 5 = .ok (.iload_n 2, 1) := by decide +kernel
theorem dX6_set_6 : decode cX6_set 6 = .ok (.iload_n 3, 1) := by decide +kernel
theorem dX6_set_7 : decode cX6_set 7 = .ok (.invokevirtual 31, 3) := by decide +kernel
theorem dX6_set_10 : decode cX6_set 10 = .ok (.return_, 1) := by decide +kernel
theorem dX6_add_0 : decode cX6_add 0 = .ok (.aload_n 0, 1) := by decide +kernel
theorem dX6_add_1 : decode cX6_add 1 = .ok (.getfield 16, 3) := by decide +kernel
theorem dX6_add_4 : decode cX6_add 4 = .ok (.iload_n 1, 1) := by decide +kernel
theorem dX6_add_5 : decode cX6_add 5 = .ok (.iload_n 2, 1) := by decide +kernel
theorem dX6_add_6 : decode cX6_add 6 = .ok (.iload_n 3, 1) := by decide +kernel
theorem dX6_add_7 : decode cX6_add 7 = .ok (.invokevirtual 35, 3) := by decide +kernel
theorem dX6_add_10 : decode cX6_add 10 = .ok (.return_, 1) := by decide +kernel
theorem dX6_stand_0 : decode cX6_stand 0 = .ok (.aload_n 0, 1) := by decide +kernel
theorem dX6_stand_1 : decode cX6_stand 1 = .ok (.getfield 23, 3) := by decide +kernel
theorem dX6_stand_4 : decode cX6_stand 4 = .ok (.istore 4, 2) := by decide +kernel
theorem dX6_stand_6 : decode cX6_stand 6 = .ok (.aload_n 0, 1) := by decide +kernel
theorem dX6_stand_7 : decode cX6_stand 7 = .ok (.getfield 16, 3) := by decide +kernel
theorem dX6_stand_10 : decode cX6_stand 10 = .ok (.iload 4, 2) := by decide +kernel
theorem dX6_stand_12 : decode cX6_stand 12 = .ok (.iconst 0, 1) := by decide +kernel
theorem dX6_stand_13 : decode cX6_stand 13 = .ok (.iload_n 1, 1) := by decide +kernel
theorem dX6_stand_14 : decode cX6_stand 14 = .ok (.invokevirtual 31, 3) := by decide +kernel
theorem dX6_stand_17 : decode cX6_stand 17 = .ok (.aload_n 0, 1) := by decide +kernel
theorem dX6_stand_18 : decode cX6_stand 18 = .ok (.getfield 16, 3) := by decide +kernel
theorem dX6_stand_21 : decode cX6_stand 21 = .ok (.iload 4, 2) := by decide +kernel
theorem dX6_stand_23 : decode cX6_stand 23 = .ok (.iconst 1, 1) := by decide +kernel
theorem dX6_stand_24 : decode cX6_stand 24 = .ok (.iload_n 2, 1) := by decide +kernel
theorem dX6_stand_25 : decode cX6_stand 25 = .ok (.invokevirtual 31, 3) := by decide +kernel
theorem dX6_stand_28 : decode cX6_stand 28 = .ok (.aload_n 0, 1) := by decide +kernel
theorem dX6_stand_29 : decode cX6_stand 29 = .ok (.getfield 16, 3) := by decide +kernel
theorem dX6_stand_32 : decode cX6_stand 32 = .ok (.iload 4, 2) := by decide +kernel
theorem dX6_stand_34 : decode cX6_stand 34 = .ok (.iconst 2, 1) := by decide +kernel
theorem dX6_stand_35 : decode cX6_stand 35 = .ok (.iconst 0, 1) := by decide +kernel
theorem dX6_stand_36 : decode cX6_stand 36 = .ok (.invokevirtual 31, 3) := by decide +kernel
theorem dX6_stand_39 : decode cX6_stand 39 = .ok (.aload_n 0, 1) := by decide +kernel
theorem dX6_stand_40 : decode cX6_stand 40 = .ok (.getfield 16, 3) := by decide +kernel
theorem dX6_stand_43 : decode cX6_stand 43 = .ok (.iload 4, 2) := by decide +kernel
theorem dX6_stand_45 : decode cX6_stand 45 = .ok (.iconst 3, 1) := by decide +kernel
theorem dX6_stand_46 : decode cX6_stand 46 = .ok (.iload_n 3, 1) := by decide +kernel
theorem dX6_stand_47 : decode cX6_stand 47 = .ok (.invokevirtual 31, 3) := by decide +kernel
theorem dX6_stand_50 : decode cX6_stand 50 = .ok (.aload_n 0, 1) := by decide +kernel
theorem dX6_stand_51 : decode cX6_stand 51 = .ok (.getfield 16, 3) := by decide +kernel
theorem dX6_stand_54 : decode cX6_stand 54 = .ok (.iload 4, 2) := by decide +kernel
theorem dX6_stand_56 : decode cX6_stand 56 = .ok (.iconst 4, 1) := by decide +kernel
theorem dX6_stand_57 : decode cX6_stand 57 = .ok (.iconst (-1), 1) := by decide +kernel
theorem dX6_stand_58 : decode cX6_stand 58 = .ok (.invokevirtual 31, 3) := by decide +kernel
theorem dX6_stand_61 : decode cX6_stand 61 = .ok (.aload_n 0, 1) := by decide +kernel
theorem dX6_stand_62 : decode cX6_stand 62 = .ok (.getfield 16, 3) := by decide +kernel
theorem dX6_stand_65 : decode cX6_stand 65 = .ok (.iload 4, 2) := by decide +kernel
theorem dX6_stand_67 : decode cX6_stand 67 = .ok (.bipush 12, 2) := by decide +kernel
theorem dX6_stand_69 : decode cX6_stand 69 = .ok (.iload_n 3, 1) := by decide +kernel
theorem dX6_stand_70 : decode cX6_stand 70 = .ok (.invokevirtual 31, 3) := by decide +kernel
theorem dX6_stand_73 : decode cX6_stand 73 = .ok (.aload_n 0, 1) := by decide +kernel
theorem dX6_stand_74 : decode cX6_stand 74 = .ok (.getfield 16, 3) := by decide +kernel
theorem dX6_stand_77 : decode cX6_stand 77 = .ok (.iload 4, 2) := by decide +kernel
theorem dX6_stand_79 : decode cX6_stand 79 = .ok (.bipush 15, 2) := by decide +kernel
theorem dX6_stand_81 : decode cX6_stand 81 = .ok (.iconst (-1), 1) := by decide +kernel
theorem dX6_stand_82 : decode cX6_stand 82 = .ok (.invokevirtual 31, 3) := by decide +kernel
theorem dX6_stand_85 : decode cX6_stand 85 = .ok (.aload_n 0, 1) := by decide +kernel
theorem dX6_stand_86 : decode cX6_stand 86 = .ok (.dup, 1) := by decide +kernel
theorem dX6_stand_87 : decode cX6_stand 87 = .ok (.getfield 23, 3) := by decide +kernel
theorem dX6_stand_90 : decode cX6_stand 90 = .ok (.iconst 1, 1) := by decide +kernel
theorem dX6_stand_91 : decode cX6_stand 91 = .ok (.iadd, 1) := by decide +kernel
theorem dX6_stand_92 : decode cX6_stand 92 = .ok (.putfield 23, 3) := by decide +kernel
theorem dX6_stand_95 : decode cX6_stand 95 = .ok (.iload 4, 2) := by decide +kernel
theorem dX6_stand_97 : decode cX6_stand 97 = .ok (.ireturn, 1) := by decide +kernel
theorem dX6_lateOf_0 : decode cX6_lateOf 0 = .ok (.aload_n 0, 1) := by decide +kernel
theorem dX6_lateOf_1 : decode cX6_lateOf 1 = .ok (.getfield 16, 3) := by decide +kernel
theorem dX6_lateOf_4 : decode cX6_lateOf 4 = .ok (.iload_n 1, 1) := by decide +kernel
theorem dX6_lateOf_5 : decode cX6_lateOf 5 = .ok (.iconst 2, 1) := by decide +kernel
theorem dX6_lateOf_6 : decode cX6_lateOf 6 = .ok (.invokevirtual 27, 3) := by decide +kernel
theorem dX6_lateOf_9 : decode cX6_lateOf 9 = .ok (.iconst 3, 1) := by decide +kernel
theorem dX6_lateOf_10 : decode cX6_lateOf 10 = .ok (.if_icmp .ne 7, 3) := by decide +kernel
theorem dX6_lateOf_13 : decode cX6_lateOf 13 = .ok (.iconst 0, 1) := by decide +kernel
theorem dX6_lateOf_14 : decode cX6_lateOf 14 = .ok (.goto 19, 3) := by decide +kernel
theorem dX6_lateOf_17 : decode cX6_lateOf 17 = .ok (.iconst 0, 1) := by decide +kernel
theorem dX6_lateOf_18 : decode cX6_lateOf 18 = .ok (.iload_n 2, 1) := by decide +kernel
theorem dX6_lateOf_19 : decode cX6_lateOf 19 = .ok (.aload_n 0, 1) := by decide +kernel
theorem dX6_lateOf_20 : decode cX6_lateOf 20 = .ok (.getfield 16, 3) := by decide +kernel
theorem dX6_lateOf_23 : decode cX6_lateOf 23 = .ok (.iload_n 1, 1) := by decide +kernel
theorem dX6_lateOf_24 : decode cX6_lateOf 24 = .ok (.bipush 7, 2) := by decide +kernel
theorem dX6_lateOf_26 : decode cX6_lateOf 26 = .ok (.invokevirtual 27, 3) := by decide +kernel
theorem dX6_lateOf_29 : decode cX6_lateOf 29 = .ok (.isub, 1) := by decide +kernel
theorem dX6_lateOf_30 : decode cX6_lateOf 30 = .ok (.invokestatic 38, 3) := by decide +kernel
theorem dX6_lateOf_33 : decode cX6_lateOf 33 = .ok (.ireturn, 1) := by decide +kernel
theorem dX6_greatestLate_0 : decode cX6_greatestLate 0 = .ok (.iconst 0, 1) := by decide +kernel
theorem dX6_greatestLate_1 : decode cX6_greatestLate 1 = .ok (.istore_n 2, 1) := by decide +kernel
theorem dX6_greatestLate_2 : decode cX6_greatestLate 2 = .ok (.iconst 0, 1) := by decide +kernel
theorem dX6_greatestLate_3 : decode cX6_greatestLate 3 = .ok (.istore_n 3, 1) := by decide +kernel
theorem dX6_greatestLate_4 : decode cX6_greatestLate 4 = .ok (.iload_n 3, 1) := by decide +kernel
theorem dX6_greatestLate_5 : decode cX6_greatestLate 5 = .ok (.aload_n 0, 1) := by decide +kernel
theorem dX6_greatestLate_6 : decode cX6_greatestLate 6 = .ok (.getfield 23, 3) := by decide +kernel
theorem dX6_greatestLate_9 : decode cX6_greatestLate 9 = .ok (.if_icmp .ge 20, 3) := by decide +kernel
theorem dX6_greatestLate_12 : decode cX6_greatestLate 12 = .ok (.iload_n 2, 1) := by decide +kernel
theorem dX6_greatestLate_13 : decode cX6_greatestLate 13 = .ok (.aload_n 0, 1) := by decide +kernel
theorem dX6_greatestLate_14 : decode cX6_greatestLate 14 = .ok (.iload_n 3, 1) := by decide +kernel
theorem dX6_greatestLate_15 : decode cX6_greatestLate 15 = .ok (.iload_n 1, 1) := by decide +kernel
theorem dX6_greatestLate_16 : decode cX6_greatestLate 16 = .ok (.invokevirtual 43, 3) := by decide +kernel
theorem dX6_greatestLate_19 : decode cX6_greatestLate 19 = .ok (.invokestatic 38, 3) := by decide +kernel
theorem dX6_greatestLate_22 : decode cX6_greatestLate 22 = .ok (.istore_n 2, 1) := by decide +kernel
theorem dX6_greatestLate_23 : decode cX6_greatestLate 23 = .ok (.iinc 3 1, 3) := by decide +kernel
theorem dX6_greatestLate_26 : decode cX6_greatestLate 26 = .ok (.goto (-22), 3) := by decide +kernel
theorem dX6_greatestLate_29 : decode cX6_greatestLate 29 = .ok (.iload_n 2, 1) := by decide +kernel
theorem dX6_greatestLate_30 : decode cX6_greatestLate 30 = .ok (.ireturn, 1) := by decide +kernel
theorem dX6_countDone_0 : decode cX6_countDone 0 = .ok (.iconst 0, 1) := by decide +kernel
theorem dX6_countDone_1 : decode cX6_countDone 1 = .ok (.istore_n 1, 1) := by decide +kernel
theorem dX6_countDone_2 : decode cX6_countDone 2 = .ok (.iconst 0, 1) := by decide +kernel
theorem dX6_countDone_3 : decode cX6_countDone 3 = .ok (.istore_n 2, 1) := by decide +kernel
theorem dX6_countDone_4 : decode cX6_countDone 4 = .ok (.iload_n 2, 1) := by decide +kernel
theorem dX6_countDone_5 : decode cX6_countDone 5 = .ok (.aload_n 0, 1) := by decide +kernel
theorem dX6_countDone_6 : decode cX6_countDone 6 = .ok (.getfield 23, 3) := by decide +kernel
theorem dX6_countDone_9 : decode cX6_countDone 9 = .ok (.if_icmp .ge 30, 3) := by decide +kernel
theorem dX6_countDone_12 : decode cX6_countDone 12 = .ok (.iload_n 1, 1) := by decide +kernel
theorem dX6_countDone_13 : decode cX6_countDone 13 = .ok (.aload_n 0, 1) := by decide +kernel
theorem dX6_countDone_14 : decode cX6_countDone 14 = .ok (.getfield 16, 3) := by decide +kernel
theorem dX6_countDone_17 : decode cX6_countDone 17 = .ok (.iload_n 2, 1) := by decide +kernel
theorem dX6_countDone_18 : decode cX6_countDone 18 = .ok (.iconst 2, 1) := by decide +kernel
theorem dX6_countDone_19 : decode cX6_countDone 19 = .ok (.invokevirtual 27, 3) := by decide +kernel
theorem dX6_countDone_22 : decode cX6_countDone 22 = .ok (.iconst 3, 1) := by decide +kernel
theorem dX6_countDone_23 : decode cX6_countDone 23 = .ok (.if_icmp .ne 7, 3) := by decide +kernel
theorem dX6_countDone_26 : decode cX6_countDone 26 = .ok (.iconst 1, 1) := by decide +kernel
theorem dX6_countDone_27 : decode cX6_countDone 27 = .ok (.goto 4, 3) := by decide +kernel
theorem dX6_countDone_30 : decode cX6_countDone 30 = .ok (.iconst 0, 1) := by decide +kernel
theorem dX6_countDone_31 : decode cX6_countDone 31 = .ok (.iadd, 1) := by decide +kernel
theorem dX6_countDone_32 : decode cX6_countDone 32 = .ok (.istore_n 1, 1) := by decide +kernel
theorem dX6_countDone_33 : decode cX6_countDone 33 = .ok (.iinc 2 1, 3) := by decide +kernel
theorem dX6_countDone_36 : decode cX6_countDone 36 = .ok (.goto (-32), 3) := by decide +kernel
theorem dX6_countDone_39 : decode cX6_countDone 39 = .ok (.iload_n 1, 1) := by decide +kernel
theorem dX6_countDone_40 : decode cX6_countDone 40 = .ok (.ireturn, 1) := by decide +kernel
theorem dX6_hasFor_0 : decode cX6_hasFor 0 = .ok (.iconst 0, 1) := by decide +kernel
theorem dX6_hasFor_1 : decode cX6_hasFor 1 = .ok (.istore_n 2, 1) := by decide +kernel
theorem dX6_hasFor_2 : decode cX6_hasFor 2 = .ok (.iload_n 2, 1) := by decide +kernel
theorem dX6_hasFor_3 : decode cX6_hasFor 3 = .ok (.aload_n 0, 1) := by decide +kernel
theorem dX6_hasFor_4 : decode cX6_hasFor 4 = .ok (.getfield 23, 3) := by decide +kernel
theorem dX6_hasFor_7 : decode cX6_hasFor 7 = .ok (.if_icmp .ge 38, 3) := by decide +kernel
theorem dX6_hasFor_10 : decode cX6_hasFor 10 = .ok (.aload_n 0, 1) := by decide +kernel
theorem dX6_hasFor_11 : decode cX6_hasFor 11 = .ok (.getfield 16, 3) := by decide +kernel
theorem dX6_hasFor_14 : decode cX6_hasFor 14 = .ok (.iload_n 2, 1) := by decide +kernel
theorem dX6_hasFor_15 : decode cX6_hasFor 15 = .ok (.bipush 10, 2) := by decide +kernel
theorem dX6_hasFor_17 : decode cX6_hasFor 17 = .ok (.invokevirtual 27, 3) := by decide +kernel
theorem dX6_hasFor_20 : decode cX6_hasFor 20 = .ok (.iload_n 1, 1) := by decide +kernel
theorem dX6_hasFor_21 : decode cX6_hasFor 21 = .ok (.if_icmp .ne 18, 3) := by decide +kernel
theorem dX6_hasFor_24 : decode cX6_hasFor 24 = .ok (.aload_n 0, 1) := by decide +kernel
theorem dX6_hasFor_25 : decode cX6_hasFor 25 = .ok (.getfield 16, 3) := by decide +kernel
theorem dX6_hasFor_28 : decode cX6_hasFor 28 = .ok (.iload_n 2, 1) := by decide +kernel
theorem dX6_hasFor_29 : decode cX6_hasFor 29 = .ok (.iconst 2, 1) := by decide +kernel
theorem dX6_hasFor_30 : decode cX6_hasFor 30 = .ok (.invokevirtual 27, 3) := by decide +kernel
theorem dX6_hasFor_33 : decode cX6_hasFor 33 = .ok (.iconst 3, 1) := by decide +kernel
theorem dX6_hasFor_34 : decode cX6_hasFor 34 = .ok (.if_icmp .eq 5, 3) := by decide +kernel
theorem dX6_hasFor_37 : decode cX6_hasFor 37 = .ok (.iconst 1, 1) := by decide +kernel
theorem dX6_hasFor_38 : decode cX6_hasFor 38 = .ok (.ireturn, 1) := by decide +kernel
theorem dX6_hasFor_39 : decode cX6_hasFor 39 = .ok (.iinc 2 1, 3) := by decide +kernel
theorem dX6_hasFor_42 : decode cX6_hasFor 42 = .ok (.goto (-40), 3) := by decide +kernel
theorem dX6_hasFor_45 : decode cX6_hasFor 45 = .ok (.iconst 0, 1) := by decide +kernel
theorem dX6_hasFor_46 : decode cX6_hasFor 46 = .ok (.ireturn, 1) := by decide +kernel
theorem dX6_isAt_0 : decode cX6_isAt 0 = .ok (.aload_n 0, 1) := by decide +kernel
theorem dX6_isAt_1 : decode cX6_isAt 1 = .ok (.getfield 16, 3) := by decide +kernel
theorem dX6_isAt_4 : decode cX6_isAt 4 = .ok (.iload_n 1, 1) := by decide +kernel
theorem dX6_isAt_5 : decode cX6_isAt 5 = .ok (.iconst 2, 1) := by decide +kernel
theorem dX6_isAt_6 : decode cX6_isAt 6 = .ok (.invokevirtual 27, 3) := by decide +kernel
theorem dX6_isAt_9 : decode cX6_isAt 9 = .ok (.istore_n 3, 1) := by decide +kernel
theorem dX6_isAt_10 : decode cX6_isAt 10 = .ok (.iload_n 3, 1) := by decide +kernel
theorem dX6_isAt_11 : decode cX6_isAt 11 = .ok (.ifCond .eq 8, 3) := by decide +kernel
theorem dX6_isAt_14 : decode cX6_isAt 14 = .ok (.iload_n 3, 1) := by decide +kernel
theorem dX6_isAt_15 : decode cX6_isAt 15 = .ok (.iconst 2, 1) := by decide +kernel
theorem dX6_isAt_16 : decode cX6_isAt 16 = .ok (.if_icmp .ne 20, 3) := by decide +kernel
theorem dX6_isAt_19 : decode cX6_isAt 19 = .ok (.aload_n 0, 1) := by decide +kernel
theorem dX6_isAt_20 : decode cX6_isAt 20 = .ok (.getfield 16, 3) := by decide +kernel
theorem dX6_isAt_23 : decode cX6_isAt 23 = .ok (.iload_n 1, 1) := by decide +kernel
theorem dX6_isAt_24 : decode cX6_isAt 24 = .ok (.iconst 3, 1) := by decide +kernel
theorem dX6_isAt_25 : decode cX6_isAt 25 = .ok (.invokevirtual 27, 3) := by decide +kernel
theorem dX6_isAt_28 : decode cX6_isAt 28 = .ok (.iload_n 2, 1) := by decide +kernel
theorem dX6_isAt_29 : decode cX6_isAt 29 = .ok (.if_icmp .ne 7, 3) := by decide +kernel
theorem dX6_isAt_32 : decode cX6_isAt 32 = .ok (.iconst 1, 1) := by decide +kernel
theorem dX6_isAt_33 : decode cX6_isAt 33 = .ok (.goto 4, 3) := by decide +kernel
theorem dX6_isAt_36 : decode cX6_isAt 36 = .ok (.iconst 0, 1) := by decide +kernel
theorem dX6_isAt_37 : decode cX6_isAt 37 = .ok (.ireturn, 1) := by decide +kernel
theorem dX6_countAt_0 : decode cX6_countAt 0 = .ok (.iconst 0, 1) := by decide +kernel
theorem dX6_countAt_1 : decode cX6_countAt 1 = .ok (.istore_n 2, 1) := by decide +kernel
theorem dX6_countAt_2 : decode cX6_countAt 2 = .ok (.iconst 0, 1) := by decide +kernel
theorem dX6_countAt_3 : decode cX6_countAt 3 = .ok (.istore_n 3, 1) := by decide +kernel
theorem dX6_countAt_4 : decode cX6_countAt 4 = .ok (.iload_n 3, 1) := by decide +kernel
theorem dX6_countAt_5 : decode cX6_countAt 5 = .ok (.aload_n 0, 1) := by decide +kernel
theorem dX6_countAt_6 : decode cX6_countAt 6 = .ok (.getfield 23, 3) := by decide +kernel
theorem dX6_countAt_9 : decode cX6_countAt 9 = .ok (.if_icmp .ge 26, 3) := by decide +kernel
theorem dX6_countAt_12 : decode cX6_countAt 12 = .ok (.iload_n 2, 1) := by decide +kernel
theorem dX6_countAt_13 : decode cX6_countAt 13 = .ok (.aload_n 0, 1) := by decide +kernel
theorem dX6_countAt_14 : decode cX6_countAt 14 = .ok (.iload_n 3, 1) := by decide +kernel
theorem dX6_countAt_15 : decode cX6_countAt 15 = .ok (.iload_n 1, 1) := by decide +kernel
theorem dX6_countAt_16 : decode cX6_countAt 16 = .ok (.invokevirtual 46, 3) := by decide +kernel
theorem dX6_countAt_19 : decode cX6_countAt 19 = .ok (.ifCond .eq 7, 3) := by decide +kernel
theorem dX6_countAt_22 : decode cX6_countAt 22 = .ok (.iconst 1, 1) := by decide +kernel
theorem dX6_countAt_23 : decode cX6_countAt 23 = .ok (.goto 4, 3) := by decide +kernel
theorem dX6_countAt_26 : decode cX6_countAt 26 = .ok (.iconst 0, 1) := by decide +kernel
theorem dX6_countAt_27 : decode cX6_countAt 27 = .ok (.iadd, 1) := by decide +kernel
theorem dX6_countAt_28 : decode cX6_countAt 28 = .ok (.istore_n 2, 1) := by decide +kernel
theorem dX6_countAt_29 : decode cX6_countAt 29 = .ok (.iinc 3 1, 3) := by decide +kernel
theorem dX6_countAt_32 : decode cX6_countAt 32 = .ok (.goto (-28), 3) := by decide +kernel
theorem dX6_countAt_35 : decode cX6_countAt 35 = .ok (.iload_n 2, 1) := by decide +kernel
theorem dX6_countAt_36 : decode cX6_countAt 36 = .ok (.ireturn, 1) := by decide +kernel
theorem dX6_countGuestsAt_0 : decode cX6_countGuestsAt 0 = .ok (.iconst 0, 1) := by decide +kernel
theorem dX6_countGuestsAt_1 : decode cX6_countGuestsAt 1 = .ok (.istore_n 2, 1) := by decide +kernel
theorem dX6_countGuestsAt_2 : decode cX6_countGuestsAt 2 = .ok (.iconst 0, 1) := by decide +kernel
theorem dX6_countGuestsAt_3 : decode cX6_countGuestsAt 3 = .ok (.istore_n 3, 1) := by decide +kernel
theorem dX6_countGuestsAt_4 : decode cX6_countGuestsAt 4 = .ok (.iload_n 3, 1) := by decide +kernel
theorem dX6_countGuestsAt_5 : decode cX6_countGuestsAt 5 = .ok (.aload_n 0, 1) := by decide +kernel
theorem dX6_countGuestsAt_6 : decode cX6_countGuestsAt 6 = .ok (.getfield 23, 3) := by decide +kernel
theorem dX6_countGuestsAt_9 : decode cX6_countGuestsAt 9 = .ok (.if_icmp .ge 40, 3) := by decide +kernel
theorem dX6_countGuestsAt_12 : decode cX6_countGuestsAt 12 = .ok (.iload_n 2, 1) := by decide +kernel
theorem dX6_countGuestsAt_13 : decode cX6_countGuestsAt 13 = .ok (.aload_n 0, 1) := by decide +kernel
theorem dX6_countGuestsAt_14 : decode cX6_countGuestsAt 14 = .ok (.iload_n 3, 1) := by decide +kernel
theorem dX6_countGuestsAt_15 : decode cX6_countGuestsAt 15 = .ok (.iload_n 1, 1) := by decide +kernel
theorem dX6_countGuestsAt_16 : decode cX6_countGuestsAt 16 = .ok (.invokevirtual 46, 3) := by decide +kernel
theorem dX6_countGuestsAt_19 : decode cX6_countGuestsAt 19 = .ok (.ifCond .eq 21, 3) := by decide +kernel
theorem dX6_countGuestsAt_22 : decode cX6_countGuestsAt 22 = .ok (.aload_n 0, 1) := by decide +kernel
theorem dX6_countGuestsAt_23 : decode cX6_countGuestsAt 23 = .ok (.getfield 16, 3) := by decide +kernel
theorem dX6_countGuestsAt_26 : decode cX6_countGuestsAt 26 = .ok (.iload_n 3, 1) := by decide +kernel
theorem dX6_countGuestsAt_27 : decode cX6_countGuestsAt 27 = .ok (.bipush 12, 2) := by decide +kernel
theorem dX6_countGuestsAt_29 : decode cX6_countGuestsAt 29 = .ok (.invokevirtual 27, 3) := by decide +kernel
theorem dX6_countGuestsAt_32 : decode cX6_countGuestsAt 32 = .ok (.iload_n 1, 1) := by decide +kernel
theorem dX6_countGuestsAt_33 : decode cX6_countGuestsAt 33 = .ok (.if_icmp .eq 7, 3) := by decide +kernel
theorem dX6_countGuestsAt_36 : decode cX6_countGuestsAt 36 = .ok (.iconst 1, 1) := by decide +kernel
theorem dX6_countGuestsAt_37 : decode cX6_countGuestsAt 37 = .ok (.goto 4, 3) := by decide +kernel
theorem dX6_countGuestsAt_40 : decode cX6_countGuestsAt 40 = .ok (.iconst 0, 1) := by decide +kernel
theorem dX6_countGuestsAt_41 : decode cX6_countGuestsAt 41 = .ok (.iadd, 1) := by decide +kernel
theorem dX6_countGuestsAt_42 : decode cX6_countGuestsAt 42 = .ok (.istore_n 2, 1) := by decide +kernel
theorem dX6_countGuestsAt_43 : decode cX6_countGuestsAt 43 = .ok (.iinc 3 1, 3) := by decide +kernel
theorem dX6_countGuestsAt_46 : decode cX6_countGuestsAt 46 = .ok (.goto (-42), 3) := by decide +kernel
theorem dX6_countGuestsAt_49 : decode cX6_countGuestsAt 49 = .ok (.iload_n 2, 1) := by decide +kernel
theorem dX6_countGuestsAt_50 : decode cX6_countGuestsAt 50 = .ok (.ireturn, 1) := by decide +kernel
theorem dX6_countUnloadingAt_0 : decode cX6_countUnloadingAt 0 = .ok (.iconst 0, 1) := by decide +kernel
theorem dX6_countUnloadingAt_1 : decode cX6_countUnloadingAt 1 = .ok (.istore_n 2, 1) := by decide +kernel
theorem dX6_countUnloadingAt_2 : decode cX6_countUnloadingAt 2 = .ok (.iconst 0, 1) := by decide +kernel
theorem dX6_countUnloadingAt_3 : decode cX6_countUnloadingAt 3 = .ok (.istore_n 3, 1) := by decide +kernel
theorem dX6_countUnloadingAt_4 : decode cX6_countUnloadingAt 4 = .ok (.iload_n 3, 1) := by decide +kernel
theorem dX6_countUnloadingAt_5 : decode cX6_countUnloadingAt 5 = .ok (.aload_n 0, 1) := by decide +kernel
theorem dX6_countUnloadingAt_6 : decode cX6_countUnloadingAt 6 = .ok (.getfield 23, 3) := by decide +kernel
theorem dX6_countUnloadingAt_9 : decode cX6_countUnloadingAt 9 = .ok (.if_icmp .ge 39, 3) := by decide +kernel
theorem dX6_countUnloadingAt_12 : decode cX6_countUnloadingAt 12 = .ok (.iload_n 2, 1) := by decide +kernel
theorem dX6_countUnloadingAt_13 : decode cX6_countUnloadingAt 13 = .ok (.aload_n 0, 1) := by decide +kernel
theorem dX6_countUnloadingAt_14 : decode cX6_countUnloadingAt 14 = .ok (.iload_n 3, 1) := by decide +kernel
theorem dX6_countUnloadingAt_15 : decode cX6_countUnloadingAt 15 = .ok (.iload_n 1, 1) := by decide +kernel
theorem dX6_countUnloadingAt_16 : decode cX6_countUnloadingAt 16 = .ok (.invokevirtual 46, 3) := by decide +kernel
theorem dX6_countUnloadingAt_19 : decode cX6_countUnloadingAt 19 = .ok (.ifCond .eq 20, 3) := by decide +kernel
theorem dX6_countUnloadingAt_22 : decode cX6_countUnloadingAt 22 = .ok (.aload_n 0, 1) := by decide +kernel
theorem dX6_countUnloadingAt_23 : decode cX6_countUnloadingAt 23 = .ok (.getfield 16, 3) := by decide +kernel
theorem dX6_countUnloadingAt_26 : decode cX6_countUnloadingAt 26 = .ok (.iload_n 3, 1) := by decide +kernel
theorem dX6_countUnloadingAt_27 : decode cX6_countUnloadingAt 27 = .ok (.iconst 2, 1) := by decide +kernel
theorem dX6_countUnloadingAt_28 : decode cX6_countUnloadingAt 28 = .ok (.invokevirtual 27, 3) := by decide +kernel
theorem dX6_countUnloadingAt_31 : decode cX6_countUnloadingAt 31 = .ok (.iconst 2, 1) := by decide +kernel
theorem dX6_countUnloadingAt_32 : decode cX6_countUnloadingAt 32 = .ok (.if_icmp .ne 7, 3) := by decide +kernel
theorem dX6_countUnloadingAt_35 : decode cX6_countUnloadingAt 35 = .ok (.iconst 1, 1) := by decide +kernel
theorem dX6_countUnloadingAt_36 : decode cX6_countUnloadingAt 36 = .ok (.goto 4, 3) := by decide +kernel
theorem dX6_countUnloadingAt_39 : decode cX6_countUnloadingAt 39 = .ok (.iconst 0, 1) := by decide +kernel
theorem dX6_countUnloadingAt_40 : decode cX6_countUnloadingAt 40 = .ok (.iadd, 1) := by decide +kernel
theorem dX6_countUnloadingAt_41 : decode cX6_countUnloadingAt 41 = .ok (.istore_n 2, 1) := by decide +kernel
theorem dX6_countUnloadingAt_42 : decode cX6_countUnloadingAt 42 = .ok (.iinc 3 1, 3) := by decide +kernel
theorem dX6_countUnloadingAt_45 : decode cX6_countUnloadingAt 45 = .ok (.goto (-41), 3) := by decide +kernel
theorem dX6_countUnloadingAt_48 : decode cX6_countUnloadingAt 48 = .ok (.iload_n 2, 1) := by decide +kernel
theorem dX6_countUnloadingAt_49 : decode cX6_countUnloadingAt 49 = .ok (.ireturn, 1) := by decide +kernel
theorem dX6_countOn_0 : decode cX6_countOn 0 = .ok (.iconst 0, 1) := by decide +kernel
theorem dX6_countOn_1 : decode cX6_countOn 1 = .ok (.istore_n 2, 1) := by decide +kernel
theorem dX6_countOn_2 : decode cX6_countOn 2 = .ok (.iconst 0, 1) := by decide +kernel
theorem dX6_countOn_3 : decode cX6_countOn 3 = .ok (.istore_n 3, 1) := by decide +kernel
theorem dX6_countOn_4 : decode cX6_countOn 4 = .ok (.iload_n 3, 1) := by decide +kernel
theorem dX6_countOn_5 : decode cX6_countOn 5 = .ok (.aload_n 0, 1) := by decide +kernel
theorem dX6_countOn_6 : decode cX6_countOn 6 = .ok (.getfield 23, 3) := by decide +kernel
theorem dX6_countOn_9 : decode cX6_countOn 9 = .ok (.if_icmp .ge 26, 3) := by decide +kernel
theorem dX6_countOn_12 : decode cX6_countOn 12 = .ok (.iload_n 2, 1) := by decide +kernel
theorem dX6_countOn_13 : decode cX6_countOn 13 = .ok (.aload_n 0, 1) := by decide +kernel
theorem dX6_countOn_14 : decode cX6_countOn 14 = .ok (.iload_n 3, 1) := by decide +kernel
theorem dX6_countOn_15 : decode cX6_countOn 15 = .ok (.iload_n 1, 1) := by decide +kernel
theorem dX6_countOn_16 : decode cX6_countOn 16 = .ok (.invokevirtual 50, 3) := by decide +kernel
theorem dX6_countOn_19 : decode cX6_countOn 19 = .ok (.ifCond .eq 7, 3) := by decide +kernel
theorem dX6_countOn_22 : decode cX6_countOn 22 = .ok (.iconst 1, 1) := by decide +kernel
theorem dX6_countOn_23 : decode cX6_countOn 23 = .ok (.goto 4, 3) := by decide +kernel
theorem dX6_countOn_26 : decode cX6_countOn 26 = .ok (.iconst 0, 1) := by decide +kernel
theorem dX6_countOn_27 : decode cX6_countOn 27 = .ok (.iadd, 1) := by decide +kernel
theorem dX6_countOn_28 : decode cX6_countOn 28 = .ok (.istore_n 2, 1) := by decide +kernel
theorem dX6_countOn_29 : decode cX6_countOn 29 = .ok (.iinc 3 1, 3) := by decide +kernel
theorem dX6_countOn_32 : decode cX6_countOn 32 = .ok (.goto (-28), 3) := by decide +kernel
theorem dX6_countOn_35 : decode cX6_countOn 35 = .ok (.iload_n 2, 1) := by decide +kernel
theorem dX6_countOn_36 : decode cX6_countOn 36 = .ok (.ireturn, 1) := by decide +kernel
theorem dX6_isOn_0 : decode cX6_isOn 0 = .ok (.aload_n 0, 1) := by decide +kernel
theorem dX6_isOn_1 : decode cX6_isOn 1 = .ok (.getfield 16, 3) := by decide +kernel
theorem dX6_isOn_4 : decode cX6_isOn 4 = .ok (.iload_n 1, 1) := by decide +kernel
theorem dX6_isOn_5 : decode cX6_isOn 5 = .ok (.iconst 2, 1) := by decide +kernel
theorem dX6_isOn_6 : decode cX6_isOn 6 = .ok (.invokevirtual 27, 3) := by decide +kernel
theorem dX6_isOn_9 : decode cX6_isOn 9 = .ok (.iconst 1, 1) := by decide +kernel
theorem dX6_isOn_10 : decode cX6_isOn 10 = .ok (.if_icmp .ne 20, 3) := by decide +kernel
theorem dX6_isOn_13 : decode cX6_isOn 13 = .ok (.aload_n 0, 1) := by decide +kernel
theorem dX6_isOn_14 : decode cX6_isOn 14 = .ok (.getfield 16, 3) := by decide +kernel
theorem dX6_isOn_17 : decode cX6_isOn 17 = .ok (.iload_n 1, 1) := by decide +kernel
theorem dX6_isOn_18 : decode cX6_isOn 18 = .ok (.iconst 3, 1) := by decide +kernel
theorem dX6_isOn_19 : decode cX6_isOn 19 = .ok (.invokevirtual 27, 3) := by decide +kernel
theorem dX6_isOn_22 : decode cX6_isOn 22 = .ok (.iload_n 2, 1) := by decide +kernel
theorem dX6_isOn_23 : decode cX6_isOn 23 = .ok (.if_icmp .ne 7, 3) := by decide +kernel
theorem dX6_isOn_26 : decode cX6_isOn 26 = .ok (.iconst 1, 1) := by decide +kernel
theorem dX6_isOn_27 : decode cX6_isOn 27 = .ok (.goto 4, 3) := by decide +kernel
theorem dX6_isOn_30 : decode cX6_isOn 30 = .ok (.iconst 0, 1) := by decide +kernel
theorem dX6_isOn_31 : decode cX6_isOn 31 = .ok (.ireturn, 1) := by decide +kernel
theorem dX6_isTaken_0 : decode cX6_isTaken 0 = .ok (.iconst 0, 1) := by decide +kernel
theorem dX6_isTaken_1 : decode cX6_isTaken 1 = .ok (.istore 5, 2) := by decide +kernel
theorem dX6_isTaken_3 : decode cX6_isTaken 3 = .ok (.iload 5, 2) := by decide +kernel
theorem dX6_isTaken_5 : decode cX6_isTaken 5 = .ok (.aload_n 0, 1) := by decide +kernel
theorem dX6_isTaken_6 : decode cX6_isTaken 6 = .ok (.getfield 23, 3) := by decide +kernel
theorem dX6_isTaken_9 : decode cX6_isTaken 9 = .ok (.if_icmp .ge 55, 3) := by decide +kernel
theorem dX6_isTaken_12 : decode cX6_isTaken 12 = .ok (.aload_n 0, 1) := by decide +kernel
theorem dX6_isTaken_13 : decode cX6_isTaken 13 = .ok (.iload 5, 2) := by decide +kernel
theorem dX6_isTaken_15 : decode cX6_isTaken 15 = .ok (.iload_n 1, 1) := by decide +kernel
theorem dX6_isTaken_16 : decode cX6_isTaken 16 = .ok (.invokevirtual 50, 3) := by decide +kernel
theorem dX6_isTaken_19 : decode cX6_isTaken 19 = .ok (.ifCond .eq 39, 3) := by decide +kernel
theorem dX6_isTaken_22 : decode cX6_isTaken 22 = .ok (.aload_n 0, 1) := by decide +kernel
theorem dX6_isTaken_23 : decode cX6_isTaken 23 = .ok (.getfield 16, 3) := by decide +kernel
theorem dX6_isTaken_26 : decode cX6_isTaken 26 = .ok (.iload 5, 2) := by decide +kernel
theorem dX6_isTaken_28 : decode cX6_isTaken 28 = .ok (.iconst 4, 1) := by decide +kernel
theorem dX6_isTaken_29 : decode cX6_isTaken 29 = .ok (.invokevirtual 27, 3) := by decide +kernel
theorem dX6_isTaken_32 : decode cX6_isTaken 32 = .ok (.iload_n 2, 1) := by decide +kernel
theorem dX6_isTaken_33 : decode cX6_isTaken 33 = .ok (.if_icmp .ne 25, 3) := by decide +kernel
theorem dX6_isTaken_36 : decode cX6_isTaken 36 = .ok (.iload 4, 2) := by decide +kernel
theorem dX6_isTaken_38 : decode cX6_isTaken 38 = .ok (.ifCond .eq 18, 3) := by decide +kernel
theorem dX6_isTaken_41 : decode cX6_isTaken 41 = .ok (.aload_n 0, 1) := by decide +kernel
theorem dX6_isTaken_42 : decode cX6_isTaken 42 = .ok (.getfield 16, 3) := by decide +kernel
theorem dX6_isTaken_45 : decode cX6_isTaken 45 = .ok (.iload 5, 2) := by decide +kernel
theorem dX6_isTaken_47 : decode cX6_isTaken 47 = .ok (.bipush 11, 2) := by decide +kernel
theorem dX6_isTaken_49 : decode cX6_isTaken 49 = .ok (.invokevirtual 27, 3) := by decide +kernel
theorem dX6_isTaken_52 : decode cX6_isTaken 52 = .ok (.iload_n 3, 1) := by decide +kernel
theorem dX6_isTaken_53 : decode cX6_isTaken 53 = .ok (.if_icmp .ne 5, 3) := by decide +kernel
theorem dX6_isTaken_56 : decode cX6_isTaken 56 = .ok (.iconst 1, 1) := by decide +kernel
theorem dX6_isTaken_57 : decode cX6_isTaken 57 = .ok (.ireturn, 1) := by decide +kernel
theorem dX6_isTaken_58 : decode cX6_isTaken 58 = .ok (.iinc 5 1, 3) := by decide +kernel
theorem dX6_isTaken_61 : decode cX6_isTaken 61 = .ok (.goto (-58), 3) := by decide +kernel
theorem dX6_isTaken_64 : decode cX6_isTaken 64 = .ok (.iconst 0, 1) := by decide +kernel
theorem dX6_isTaken_65 : decode cX6_isTaken 65 = .ok (.ireturn, 1) := by decide +kernel
theorem dX6_isComing_0 : decode cX6_isComing 0 = .ok (.iconst 0, 1) := by decide +kernel
theorem dX6_isComing_1 : decode cX6_isComing 1 = .ok (.istore_n 3, 1) := by decide +kernel
theorem dX6_isComing_2 : decode cX6_isComing 2 = .ok (.iload_n 3, 1) := by decide +kernel
theorem dX6_isComing_3 : decode cX6_isComing 3 = .ok (.aload_n 0, 1) := by decide +kernel
theorem dX6_isComing_4 : decode cX6_isComing 4 = .ok (.getfield 23, 3) := by decide +kernel
theorem dX6_isComing_7 : decode cX6_isComing 7 = .ok (.if_icmp .ge 34, 3) := by decide +kernel
theorem dX6_isComing_10 : decode cX6_isComing 10 = .ok (.aload_n 0, 1) := by decide +kernel
theorem dX6_isComing_11 : decode cX6_isComing 11 = .ok (.iload_n 3, 1) := by decide +kernel
theorem dX6_isComing_12 : decode cX6_isComing 12 = .ok (.iload_n 1, 1) := by decide +kernel
theorem dX6_isComing_13 : decode cX6_isComing 13 = .ok (.invokevirtual 50, 3) := by decide +kernel
theorem dX6_isComing_16 : decode cX6_isComing 16 = .ok (.ifCond .eq 19, 3) := by decide +kernel
theorem dX6_isComing_19 : decode cX6_isComing 19 = .ok (.aload_n 0, 1) := by decide +kernel
theorem dX6_isComing_20 : decode cX6_isComing 20 = .ok (.getfield 16, 3) := by decide +kernel
theorem dX6_isComing_23 : decode cX6_isComing 23 = .ok (.iload_n 3, 1) := by decide +kernel
theorem dX6_isComing_24 : decode cX6_isComing 24 = .ok (.bipush 11, 2) := by decide +kernel
theorem dX6_isComing_26 : decode cX6_isComing 26 = .ok (.invokevirtual 27, 3) := by decide +kernel
theorem dX6_isComing_29 : decode cX6_isComing 29 = .ok (.iload_n 2, 1) := by decide +kernel
theorem dX6_isComing_30 : decode cX6_isComing 30 = .ok (.if_icmp .eq 5, 3) := by decide +kernel
theorem dX6_isComing_33 : decode cX6_isComing 33 = .ok (.iconst 1, 1) := by decide +kernel
theorem dX6_isComing_34 : decode cX6_isComing 34 = .ok (.ireturn, 1) := by decide +kernel
theorem dX6_isComing_35 : decode cX6_isComing 35 = .ok (.iinc 3 1, 3) := by decide +kernel
theorem dX6_isComing_38 : decode cX6_isComing 38 = .ok (.goto (-36), 3) := by decide +kernel
theorem dX6_isComing_41 : decode cX6_isComing 41 = .ok (.iconst 0, 1) := by decide +kernel
theorem dX6_isComing_42 : decode cX6_isComing 42 = .ok (.ireturn, 1) := by decide +kernel
theorem dX6_lineUp_0 : decode cX6_lineUp 0 = .ok (.iconst 0, 1) := by decide +kernel
theorem dX6_lineUp_1 : decode cX6_lineUp 1 = .ok (.istore_n 2, 1) := by decide +kernel
theorem dX6_lineUp_2 : decode cX6_lineUp 2 = .ok (.iconst 0, 1) := by decide +kernel
theorem dX6_lineUp_3 : decode cX6_lineUp 3 = .ok (.istore_n 3, 1) := by decide +kernel
theorem dX6_lineUp_4 : decode cX6_lineUp 4 = .ok (.iload_n 3, 1) := by decide +kernel
theorem dX6_lineUp_5 : decode cX6_lineUp 5 = .ok (.aload_n 0, 1) := by decide +kernel
theorem dX6_lineUp_6 : decode cX6_lineUp 6 = .ok (.getfield 23, 3) := by decide +kernel
theorem dX6_lineUp_9 : decode cX6_lineUp 9 = .ok (.if_icmp .ge 32, 3) := by decide +kernel
theorem dX6_lineUp_12 : decode cX6_lineUp 12 = .ok (.aload_n 0, 1) := by decide +kernel
theorem dX6_lineUp_13 : decode cX6_lineUp 13 = .ok (.getfield 16, 3) := by decide +kernel
theorem dX6_lineUp_16 : decode cX6_lineUp 16 = .ok (.iload_n 3, 1) := by decide +kernel
theorem dX6_lineUp_17 : decode cX6_lineUp 17 = .ok (.iconst 2, 1) := by decide +kernel
theorem dX6_lineUp_18 : decode cX6_lineUp 18 = .ok (.invokevirtual 27, 3) := by decide +kernel
theorem dX6_lineUp_21 : decode cX6_lineUp 21 = .ok (.iconst 3, 1) := by decide +kernel
theorem dX6_lineUp_22 : decode cX6_lineUp 22 = .ok (.if_icmp .eq 13, 3) := by decide +kernel
theorem dX6_lineUp_25 : decode cX6_lineUp 25 = .ok (.aload_n 0, 1) := by decide +kernel
theorem dX6_lineUp_26 : decode cX6_lineUp 26 = .ok (.iload_n 3, 1) := by decide +kernel
theorem dX6_lineUp_27 : decode cX6_lineUp 27 = .ok (.iload_n 2, 1) := by decide +kernel
theorem dX6_lineUp_28 : decode cX6_lineUp 28 = .ok (.iload_n 1, 1) := by decide +kernel
theorem dX6_lineUp_29 : decode cX6_lineUp 29 = .ok (.invokevirtual 53, 3) := by decide +kernel
theorem dX6_lineUp_32 : decode cX6_lineUp 32 = .ok (.iinc 2 1, 3) := by decide +kernel
theorem dX6_lineUp_35 : decode cX6_lineUp 35 = .ok (.iinc 3 1, 3) := by decide +kernel
theorem dX6_lineUp_38 : decode cX6_lineUp 38 = .ok (.goto (-34), 3) := by decide +kernel
theorem dX6_lineUp_41 : decode cX6_lineUp 41 = .ok (.iload_n 2, 1) := by decide +kernel
theorem dX6_lineUp_42 : decode cX6_lineUp 42 = .ok (.ireturn, 1) := by decide +kernel
theorem dX6_placeIn_0 : decode cX6_placeIn 0 = .ok (.aload_n 0, 1) := by decide +kernel
theorem dX6_placeIn_1 : decode cX6_placeIn 1 = .ok (.iload_n 1, 1) := by decide +kernel
theorem dX6_placeIn_2 : decode cX6_placeIn 2 = .ok (.iload_n 3, 1) := by decide +kernel
theorem dX6_placeIn_3 : decode cX6_placeIn 3 = .ok (.invokevirtual 43, 3) := by decide +kernel
theorem dX6_placeIn_6 : decode cX6_placeIn 6 = .ok (.istore 4, 2) := by decide +kernel
theorem dX6_placeIn_8 : decode cX6_placeIn 8 = .ok (.iload_n 2, 1) := by decide +kernel
theorem dX6_placeIn_9 : decode cX6_placeIn 9 = .ok (.istore 5, 2) := by decide +kernel
theorem dX6_placeIn_11 : decode cX6_placeIn 11 = .ok (.iload 5, 2) := by decide +kernel
theorem dX6_placeIn_13 : decode cX6_placeIn 13 = .ok (.ifCond .le 53, 3) := by decide +kernel
theorem dX6_placeIn_16 : decode cX6_placeIn 16 = .ok (.aload_n 0, 1) := by decide +kernel
theorem dX6_placeIn_17 : decode cX6_placeIn 17 = .ok (.aload_n 0, 1) := by decide +kernel
theorem dX6_placeIn_18 : decode cX6_placeIn 18 = .ok (.getfield 20, 3) := by decide +kernel
theorem dX6_placeIn_21 : decode cX6_placeIn 21 = .ok (.iload 5, 2) := by decide +kernel
theorem dX6_placeIn_23 : decode cX6_placeIn 23 = .ok (.iconst 1, 1) := by decide +kernel
theorem dX6_placeIn_24 : decode cX6_placeIn 24 = .ok (.isub, 1) := by decide +kernel
theorem dX6_placeIn_25 : decode cX6_placeIn 25 = .ok (.iconst 0, 1) := by decide +kernel
theorem dX6_placeIn_26 : decode cX6_placeIn 26 = .ok (.invokevirtual 27, 3) := by decide +kernel
theorem dX6_placeIn_29 : decode cX6_placeIn 29 = .ok (.iload_n 3, 1) := by decide +kernel
theorem dX6_placeIn_30 : decode cX6_placeIn 30 = .ok (.invokevirtual 43, 3) := by decide +kernel
theorem dX6_placeIn_33 : decode cX6_placeIn 33 = .ok (.iload 4, 2) := by decide +kernel
theorem dX6_placeIn_35 : decode cX6_placeIn 35 = .ok (.if_icmp .ge 31, 3) := by decide +kernel
theorem dX6_placeIn_38 : decode cX6_placeIn 38 = .ok (.aload_n 0, 1) := by decide +kernel
theorem dX6_placeIn_39 : decode cX6_placeIn 39 = .ok (.getfield 20, 3) := by decide +kernel
theorem dX6_placeIn_42 : decode cX6_placeIn 42 = .ok (.iload 5, 2) := by decide +kernel
theorem dX6_placeIn_44 : decode cX6_placeIn 44 = .ok (.iconst 0, 1) := by decide +kernel
theorem dX6_placeIn_45 : decode cX6_placeIn 45 = .ok (.aload_n 0, 1) := by decide +kernel
theorem dX6_placeIn_46 : decode cX6_placeIn 46 = .ok (.getfield 20, 3) := by decide +kernel
theorem dX6_placeIn_49 : decode cX6_placeIn 49 = .ok (.iload 5, 2) := by decide +kernel
theorem dX6_placeIn_51 : decode cX6_placeIn 51 = .ok (.iconst 1, 1) := by decide +kernel
theorem dX6_placeIn_52 : decode cX6_placeIn 52 = .ok (.isub, 1) := by decide +kernel
theorem dX6_placeIn_53 : decode cX6_placeIn 53 = .ok (.iconst 0, 1) := by decide +kernel
theorem dX6_placeIn_54 : decode cX6_placeIn 54 = .ok (.invokevirtual 27, 3) := by decide +kernel
theorem dX6_placeIn_57 : decode cX6_placeIn 57 = .ok (.invokevirtual 31, 3) := by decide +kernel
theorem dX6_placeIn_60 : decode cX6_placeIn 60 = .ok (.iinc 5 (-1), 3) := by decide +kernel
theorem dX6_placeIn_63 : decode cX6_placeIn 63 = .ok (.goto (-52), 3) := by decide +kernel
theorem dX6_placeIn_66 : decode cX6_placeIn 66 = .ok (.aload_n 0, 1) := by decide +kernel
theorem dX6_placeIn_67 : decode cX6_placeIn 67 = .ok (.getfield 20, 3) := by decide +kernel
theorem dX6_placeIn_70 : decode cX6_placeIn 70 = .ok (.iload 5, 2) := by decide +kernel
theorem dX6_placeIn_72 : decode cX6_placeIn 72 = .ok (.iconst 0, 1) := by decide +kernel
theorem dX6_placeIn_73 : decode cX6_placeIn 73 = .ok (.iload_n 1, 1) := by decide +kernel
theorem dX6_placeIn_74 : decode cX6_placeIn 74 = .ok (.invokevirtual 31, 3) := by decide +kernel
theorem dX6_placeIn_77 : decode cX6_placeIn 77 = .ok (.return_, 1) := by decide +kernel
theorem dX6_inPlace_0 : decode cX6_inPlace 0 = .ok (.aload_n 0, 1) := by decide +kernel
theorem dX6_inPlace_1 : decode cX6_inPlace 1 = .ok (.getfield 20, 3) := by decide +kernel
theorem dX6_inPlace_4 : decode cX6_inPlace 4 = .ok (.iload_n 1, 1) := by decide +kernel
theorem dX6_inPlace_5 : decode cX6_inPlace 5 = .ok (.iconst 0, 1) := by decide +kernel
theorem dX6_inPlace_6 : decode cX6_inPlace 6 = .ok (.invokevirtual 27, 3) := by decide +kernel
theorem dX6_inPlace_9 : decode cX6_inPlace 9 = .ok (.ireturn, 1) := by decide +kernel
theorem dX6_waitOf_0 : decode cX6_waitOf 0 = .ok (.aload_n 0, 1) := by decide +kernel
theorem dX6_waitOf_1 : decode cX6_waitOf 1 = .ok (.getfield 16, 3) := by decide +kernel
theorem dX6_waitOf_4 : decode cX6_waitOf 4 = .ok (.iload_n 1, 1) := by decide +kernel
theorem dX6_waitOf_5 : decode cX6_waitOf 5 = .ok (.iconst 2, 1) := by decide +kernel
theorem dX6_waitOf_6 : decode cX6_waitOf 6 = .ok (.invokevirtual 27, 3) := by decide +kernel
theorem dX6_waitOf_9 : decode cX6_waitOf 9 = .ok (.istore_n 3, 1) := by decide +kernel
theorem dX6_waitOf_10 : decode cX6_waitOf 10 = .ok (.iload_n 3, 1) := by decide +kernel
theorem dX6_waitOf_11 : decode cX6_waitOf 11 = .ok (.ifCond .ne 10, 3) := by decide +kernel
theorem dX6_waitOf_14 : decode cX6_waitOf 14 = .ok (.aload_n 0, 1) := by decide +kernel
theorem dX6_waitOf_15 : decode cX6_waitOf 15 = .ok (.iload_n 1, 1) := by decide +kernel
theorem dX6_waitOf_16 : decode cX6_waitOf 16 = .ok (.aload_n 2, 1) := by decide +kernel
theorem dX6_waitOf_17 : decode cX6_waitOf 17 = .ok (.invokevirtual 56, 3) := by decide +kernel
theorem dX6_waitOf_20 : decode cX6_waitOf 20 = .ok (.ireturn, 1) := by decide +kernel
theorem dX6_waitOf_21 : decode cX6_waitOf 21 = .ok (.iload_n 3, 1) := by decide +kernel
theorem dX6_waitOf_22 : decode cX6_waitOf 22 = .ok (.iconst 1, 1) := by decide +kernel
theorem dX6_waitOf_23 : decode cX6_waitOf 23 = .ok (.if_icmp .ne 25, 3) := by decide +kernel
theorem dX6_waitOf_26 : decode cX6_waitOf 26 = .ok (.aload_n 0, 1) := by decide +kernel
theorem dX6_waitOf_27 : decode cX6_waitOf 27 = .ok (.getfield 16, 3) := by decide +kernel
theorem dX6_waitOf_30 : decode cX6_waitOf 30 = .ok (.iload_n 1, 1) := by decide +kernel
theorem dX6_waitOf_31 : decode cX6_waitOf 31 = .ok (.iconst 5, 1) := by decide +kernel
theorem dX6_waitOf_32 : decode cX6_waitOf 32 = .ok (.invokevirtual 27, 3) := by decide +kernel
theorem dX6_waitOf_35 : decode cX6_waitOf 35 = .ok (.iconst 1, 1) := by decide +kernel
theorem dX6_waitOf_36 : decode cX6_waitOf 36 = .ok (.if_icmp .gt 12, 3) := by decide +kernel
theorem dX6_waitOf_39 : decode cX6_waitOf 39 = .ok (.aload_n 0, 1) := by decide +kernel
theorem dX6_waitOf_40 : decode cX6_waitOf 40 = .ok (.iload_n 1, 1) := by decide +kernel
theorem dX6_waitOf_41 : decode cX6_waitOf 41 = .ok (.aload_n 2, 1) := by decide +kernel
theorem dX6_waitOf_42 : decode cX6_waitOf 42 = .ok (.invokevirtual 60, 3) := by decide +kernel
theorem dX6_waitOf_45 : decode cX6_waitOf 45 = .ok (.goto 4, 3) := by decide +kernel
theorem dX6_waitOf_48 : decode cX6_waitOf 48 = .ok (.iconst 0, 1) := by decide +kernel
theorem dX6_waitOf_49 : decode cX6_waitOf 49 = .ok (.ireturn, 1) := by decide +kernel
theorem dX6_waitAtStation_0 : decode cX6_waitAtStation 0 = .ok (.aload_n 0, 1) := by decide +kernel
theorem dX6_waitAtStation_1 : decode cX6_waitAtStation 1 = .ok (.getfield 16, 3) := by decide +kernel
theorem dX6_waitAtStation_4 : decode cX6_waitAtStation 4 = .ok (.iload_n 1, 1) := by decide +kernel
theorem dX6_waitAtStation_5 : decode cX6_waitAtStation 5 = .ok (.iconst 3, 1) := by decide +kernel
theorem dX6_waitAtStation_6 : decode cX6_waitAtStation 6 = .ok (.invokevirtual 27, 3) := by decide +kernel
theorem dX6_waitAtStation_9 : decode cX6_waitAtStation 9 = .ok (.istore_n 3, 1) := by decide +kernel
theorem dX6_waitAtStation_10 : decode cX6_waitAtStation 10 = .ok (.aload_n 0, 1) := by decide +kernel
theorem dX6_waitAtStation_11 : decode cX6_waitAtStation 11 = .ok (.getfield 16, 3) := by decide +kernel
theorem dX6_waitAtStation_14 : decode cX6_waitAtStation 14 = .ok (.iload_n 1, 1) := by decide +kernel
theorem dX6_waitAtStation_15 : decode cX6_waitAtStation 15 = .ok (.bipush 9, 2) := by decide +kernel
theorem dX6_waitAtStation_17 : decode cX6_waitAtStation 17 = .ok (.invokevirtual 27, 3) := by decide +kernel
theorem dX6_waitAtStation_20 : decode cX6_waitAtStation 20 = .ok (.istore 4, 2) := by decide +kernel
theorem dX6_waitAtStation_22 : decode cX6_waitAtStation 22 = .ok (.aload_n 0, 1) := by decide +kernel
theorem dX6_waitAtStation_23 : decode cX6_waitAtStation 23 = .ok (.getfield 16, 3) := by decide +kernel
theorem dX6_waitAtStation_26 : decode cX6_waitAtStation 26 = .ok (.iload_n 1, 1) := by decide +kernel
theorem dX6_waitAtStation_27 : decode cX6_waitAtStation 27 = .ok (.bipush 6, 2) := by decide +kernel
theorem dX6_waitAtStation_29 : decode cX6_waitAtStation 29 = .ok (.invokevirtual 27, 3) := by decide +kernel
theorem dX6_waitAtStation_32 : decode cX6_waitAtStation 32 = .ok (.ifCond .le 5, 3) := by decide +kernel
theorem dX6_waitAtStation_35 : decode cX6_waitAtStation 35 = .ok (.iconst 1, 1) := by decide +kernel
theorem dX6_waitAtStation_36 : decode cX6_waitAtStation 36 = .ok (.ireturn, 1) := by decide +kernel
theorem dX6_waitAtStation_37 : decode cX6_waitAtStation 37 = .ok (.iload_n 3, 1) := by decide +kernel
theorem dX6_waitAtStation_38 : decode cX6_waitAtStation 38 = .ok (.iload 4, 2) := by decide +kernel
theorem dX6_waitAtStation_40 : decode cX6_waitAtStation 40 = .ok (.if_icmp .ne 35, 3) := by decide +kernel
theorem dX6_waitAtStation_43 : decode cX6_waitAtStation 43 = .ok (.aload_n 0, 1) := by decide +kernel
theorem dX6_waitAtStation_44 : decode cX6_waitAtStation 44 = .ok (.iload_n 3, 1) := by decide +kernel
theorem dX6_waitAtStation_45 : decode cX6_waitAtStation 45 = .ok (.invokevirtual 63, 3) := by decide +kernel
theorem dX6_waitAtStation_48 : decode cX6_waitAtStation 48 = .ok (.aload_n 2, 1) := by decide +kernel
theorem dX6_waitAtStation_49 : decode cX6_waitAtStation 49 = .ok (.iload_n 3, 1) := by decide +kernel
theorem dX6_waitAtStation_50 : decode cX6_waitAtStation 50 = .ok (.iconst 0, 1) := by decide +kernel
theorem dX6_waitAtStation_51 : decode cX6_waitAtStation 51 = .ok (.invokevirtual 69, 3) := by decide +kernel
theorem dX6_waitAtStation_54 : decode cX6_waitAtStation 54 = .ok (.if_icmp .ge 7, 3) := by decide +kernel
theorem dX6_waitAtStation_57 : decode cX6_waitAtStation 57 = .ok (.iconst 1, 1) := by decide +kernel
theorem dX6_waitAtStation_58 : decode cX6_waitAtStation 58 = .ok (.goto 4, 3) := by decide +kernel
theorem dX6_waitAtStation_61 : decode cX6_waitAtStation 61 = .ok (.iconst 0, 1) := by decide +kernel
theorem dX6_waitAtStation_62 : decode cX6_waitAtStation 62 = .ok (.istore 5, 2) := by decide +kernel
theorem dX6_waitAtStation_64 : decode cX6_waitAtStation 64 = .ok (.iload 5, 2) := by decide +kernel
theorem dX6_waitAtStation_66 : decode cX6_waitAtStation 66 = .ok (.ifCond .eq 7, 3) := by decide +kernel
theorem dX6_waitAtStation_69 : decode cX6_waitAtStation 69 = .ok (.iconst 0, 1) := by decide +kernel
theorem dX6_waitAtStation_70 : decode cX6_waitAtStation 70 = .ok (.goto 4, 3) := by decide +kernel
theorem dX6_waitAtStation_73 : decode cX6_waitAtStation 73 = .ok (.iconst 4, 1) := by decide +kernel
theorem dX6_waitAtStation_74 : decode cX6_waitAtStation 74 = .ok (.ireturn, 1) := by decide +kernel
theorem dX6_waitAtStation_75 : decode cX6_waitAtStation 75 = .ok (.aload_n 2, 1) := by decide +kernel
theorem dX6_waitAtStation_76 : decode cX6_waitAtStation 76 = .ok (.iload_n 3, 1) := by decide +kernel
theorem dX6_waitAtStation_77 : decode cX6_waitAtStation 77 = .ok (.iconst 4, 1) := by decide +kernel
theorem dX6_waitAtStation_78 : decode cX6_waitAtStation 78 = .ok (.invokevirtual 69, 3) := by decide +kernel
theorem dX6_waitAtStation_81 : decode cX6_waitAtStation 81 = .ok (.ifCond .le 5, 3) := by decide +kernel
theorem dX6_waitAtStation_84 : decode cX6_waitAtStation 84 = .ok (.iconst 5, 1) := by decide +kernel
theorem dX6_waitAtStation_85 : decode cX6_waitAtStation 85 = .ok (.ireturn, 1) := by decide +kernel
theorem dX6_waitAtStation_86 : decode cX6_waitAtStation 86 = .ok (.aload_n 2, 1) := by decide +kernel
theorem dX6_waitAtStation_87 : decode cX6_waitAtStation 87 = .ok (.iload_n 3, 1) := by decide +kernel
theorem dX6_waitAtStation_88 : decode cX6_waitAtStation 88 = .ok (.iload 4, 2) := by decide +kernel
theorem dX6_waitAtStation_90 : decode cX6_waitAtStation 90 = .ok (.invokevirtual 72, 3) := by decide +kernel
theorem dX6_waitAtStation_93 : decode cX6_waitAtStation 93 = .ok (.istore 5, 2) := by decide +kernel
theorem dX6_waitAtStation_95 : decode cX6_waitAtStation 95 = .ok (.iload 5, 2) := by decide +kernel
theorem dX6_waitAtStation_97 : decode cX6_waitAtStation 97 = .ok (.iconst (-1), 1) := by decide +kernel
theorem dX6_waitAtStation_98 : decode cX6_waitAtStation 98 = .ok (.if_icmp .ne 6, 3) := by decide +kernel
theorem dX6_waitAtStation_101 : decode cX6_waitAtStation 101 = .ok (.bipush 6, 2) := by decide +kernel
theorem dX6_waitAtStation_103 : decode cX6_waitAtStation 103 = .ok (.ireturn, 1) := by decide +kernel
theorem dX6_waitAtStation_104 : decode cX6_waitAtStation 104 = .ok (.aload_n 2, 1) := by decide +kernel
theorem dX6_waitAtStation_105 : decode cX6_waitAtStation 105 = .ok (.iload 5, 2) := by decide +kernel
theorem dX6_waitAtStation_107 : decode cX6_waitAtStation 107 = .ok (.invokevirtual 75, 3) := by decide +kernel
theorem dX6_waitAtStation_110 : decode cX6_waitAtStation 110 = .ok (.istore 6, 2) := by decide +kernel
theorem dX6_waitAtStation_112 : decode cX6_waitAtStation 112 = .ok (.aload_n 2, 1) := by decide +kernel
theorem dX6_waitAtStation_113 : decode cX6_waitAtStation 113 = .ok (.iload 5, 2) := by decide +kernel
theorem dX6_waitAtStation_115 : decode cX6_waitAtStation 115 = .ok (.iconst 0, 1) := by decide +kernel
theorem dX6_waitAtStation_116 : decode cX6_waitAtStation 116 = .ok (.invokevirtual 79, 3) := by decide +kernel
theorem dX6_waitAtStation_119 : decode cX6_waitAtStation 119 = .ok (.iload_n 3, 1) := by decide +kernel
theorem dX6_waitAtStation_120 : decode cX6_waitAtStation 120 = .ok (.if_icmp .ne 7, 3) := by decide +kernel
theorem dX6_waitAtStation_123 : decode cX6_waitAtStation 123 = .ok (.iconst 1, 1) := by decide +kernel
theorem dX6_waitAtStation_124 : decode cX6_waitAtStation 124 = .ok (.goto 4, 3) := by decide +kernel
theorem dX6_waitAtStation_127 : decode cX6_waitAtStation 127 = .ok (.iconst 0, 1) := by decide +kernel
theorem dX6_waitAtStation_128 : decode cX6_waitAtStation 128 = .ok (.istore 7, 2) := by decide +kernel
theorem dX6_waitAtStation_130 : decode cX6_waitAtStation 130 = .ok (.iload 7, 2) := by decide +kernel
theorem dX6_waitAtStation_132 : decode cX6_waitAtStation 132 = .ok (.iconst 1, 1) := by decide +kernel
theorem dX6_waitAtStation_133 : decode cX6_waitAtStation 133 = .ok (.if_icmp .ne 7, 3) := by decide +kernel
theorem dX6_waitAtStation_136 : decode cX6_waitAtStation 136 = .ok (.iconst 0, 1) := by decide +kernel
theorem dX6_waitAtStation_137 : decode cX6_waitAtStation 137 = .ok (.goto 12, 3) := by decide +kernel
theorem dX6_waitAtStation_140 : decode cX6_waitAtStation 140 = .ok (.aload_n 2, 1) := by decide +kernel
theorem dX6_waitAtStation_141 : decode cX6_waitAtStation 141 = .ok (.iload 5, 2) := by decide +kernel
theorem dX6_waitAtStation_143 : decode cX6_waitAtStation 143 = .ok (.iconst 2, 1) := by decide +kernel
theorem dX6_waitAtStation_144 : decode cX6_waitAtStation 144 = .ok (.invokevirtual 79, 3) := by decide +kernel
theorem dX6_waitAtStation_147 : decode cX6_waitAtStation 147 = .ok (.iconst 1, 1) := by decide +kernel
theorem dX6_waitAtStation_148 : decode cX6_waitAtStation 148 = .ok (.isub, 1) := by decide +kernel
theorem dX6_waitAtStation_149 : decode cX6_waitAtStation 149 = .ok (.istore 8, 2) := by decide +kernel
theorem dX6_waitAtStation_151 : decode cX6_waitAtStation 151 = .ok (.aload_n 0, 1) := by decide +kernel
theorem dX6_waitAtStation_152 : decode cX6_waitAtStation 152 = .ok (.iload 5, 2) := by decide +kernel
theorem dX6_waitAtStation_154 : decode cX6_waitAtStation 154 = .ok (.iload 8, 2) := by decide +kernel
theorem dX6_waitAtStation_156 : decode cX6_waitAtStation 156 = .ok (.iload 7, 2) := by decide +kernel
theorem dX6_waitAtStation_158 : decode cX6_waitAtStation 158 = .ok (.iload 6, 2) := by decide +kernel
theorem dX6_waitAtStation_160 : decode cX6_waitAtStation 160 = .ok (.invokevirtual 82, 3) := by decide +kernel
theorem dX6_waitAtStation_163 : decode cX6_waitAtStation 163 = .ok (.ifCond .ne 23, 3) := by decide +kernel
theorem dX6_waitAtStation_166 : decode cX6_waitAtStation 166 = .ok (.iload 6, 2) := by decide +kernel
theorem dX6_waitAtStation_168 : decode cX6_waitAtStation 168 = .ok (.ifCond .ne 14, 3) := by decide +kernel
theorem dX6_waitAtStation_171 : decode cX6_waitAtStation 171 = .ok (.aload_n 0, 1) := by decide +kernel
theorem dX6_waitAtStation_172 : decode cX6_waitAtStation 172 = .ok (.iload 5, 2) := by decide +kernel
theorem dX6_waitAtStation_174 : decode cX6_waitAtStation 174 = .ok (.iload 7, 2) := by decide +kernel
theorem dX6_waitAtStation_176 : decode cX6_waitAtStation 176 = .ok (.invokevirtual 86, 3) := by decide +kernel
theorem dX6_waitAtStation_179 : decode cX6_waitAtStation 179 = .ok (.ifCond .ne 7, 3) := by decide +kernel
theorem dX6_waitAtStation_182 : decode cX6_waitAtStation 182 = .ok (.iconst 1, 1) := by decide +kernel
theorem dX6_waitAtStation_183 : decode cX6_waitAtStation 183 = .ok (.goto 4, 3) := by decide +kernel
theorem dX6_waitAtStation_186 : decode cX6_waitAtStation 186 = .ok (.iconst 0, 1) := by decide +kernel
theorem dX6_waitAtStation_187 : decode cX6_waitAtStation 187 = .ok (.istore 9, 2) := by decide +kernel
theorem dX6_waitAtStation_189 : decode cX6_waitAtStation 189 = .ok (.iload 9, 2) := by decide +kernel
theorem dX6_waitAtStation_191 : decode cX6_waitAtStation 191 = .ok (.ifCond .eq 7, 3) := by decide +kernel
theorem dX6_waitAtStation_194 : decode cX6_waitAtStation 194 = .ok (.iconst 0, 1) := by decide +kernel
theorem dX6_waitAtStation_195 : decode cX6_waitAtStation 195 = .ok (.goto 4, 3) := by decide +kernel
theorem dX6_waitAtStation_198 : decode cX6_waitAtStation 198 = .ok (.iconst 2, 1) := by decide +kernel
theorem dX6_waitAtStation_199 : decode cX6_waitAtStation 199 = .ok (.ireturn, 1) := by decide +kernel
theorem dX6_waitOnBlock_0 : decode cX6_waitOnBlock 0 = .ok (.aload_n 0, 1) := by decide +kernel
theorem dX6_waitOnBlock_1 : decode cX6_waitOnBlock 1 = .ok (.getfield 16, 3) := by decide +kernel
theorem dX6_waitOnBlock_4 : decode cX6_waitOnBlock 4 = .ok (.iload_n 1, 1) := by decide +kernel
theorem dX6_waitOnBlock_5 : decode cX6_waitOnBlock 5 = .ok (.iconst 3, 1) := by decide +kernel
theorem dX6_waitOnBlock_6 : decode cX6_waitOnBlock 6 = .ok (.invokevirtual 27, 3) := by decide +kernel
theorem dX6_waitOnBlock_9 : decode cX6_waitOnBlock 9 = .ok (.istore_n 3, 1) := by decide +kernel
theorem dX6_waitOnBlock_10 : decode cX6_waitOnBlock 10 = .ok (.aload_n 0, 1) := by decide +kernel
theorem dX6_waitOnBlock_11 : decode cX6_waitOnBlock 11 = .ok (.getfield 16, 3) := by decide +kernel
theorem dX6_waitOnBlock_14 : decode cX6_waitOnBlock 14 = .ok (.iload_n 1, 1) := by decide +kernel
theorem dX6_waitOnBlock_15 : decode cX6_waitOnBlock 15 = .ok (.bipush 11, 2) := by decide +kernel
theorem dX6_waitOnBlock_17 : decode cX6_waitOnBlock 17 = .ok (.invokevirtual 27, 3) := by decide +kernel
theorem dX6_waitOnBlock_20 : decode cX6_waitOnBlock 20 = .ok (.istore 4, 2) := by decide +kernel
theorem dX6_waitOnBlock_22 : decode cX6_waitOnBlock 22 = .ok (.aload_n 0, 1) := by decide +kernel
theorem dX6_waitOnBlock_23 : decode cX6_waitOnBlock 23 = .ok (.iload_n 1, 1) := by decide +kernel
theorem dX6_waitOnBlock_24 : decode cX6_waitOnBlock 24 = .ok (.invokevirtual 89, 3) := by decide +kernel
theorem dX6_waitOnBlock_27 : decode cX6_waitOnBlock 27 = .ok (.istore 5, 2) := by decide +kernel
theorem dX6_waitOnBlock_29 : decode cX6_waitOnBlock 29 = .ok (.iload 5, 2) := by decide +kernel
theorem dX6_waitOnBlock_31 : decode cX6_waitOnBlock 31 = .ok (.ifCond .lt 37, 3) := by decide +kernel
theorem dX6_waitOnBlock_34 : decode cX6_waitOnBlock 34 = .ok (.iload 5, 2) := by decide +kernel
theorem dX6_waitOnBlock_36 : decode cX6_waitOnBlock 36 = .ok (.aload_n 2, 1) := by decide +kernel
theorem dX6_waitOnBlock_37 : decode cX6_waitOnBlock 37 = .ok (.iload_n 3, 1) := by decide +kernel
theorem dX6_waitOnBlock_38 : decode cX6_waitOnBlock 38 = .ok (.iconst 2, 1) := by decide +kernel
theorem dX6_waitOnBlock_39 : decode cX6_waitOnBlock 39 = .ok (.invokevirtual 79, 3) := by decide +kernel
theorem dX6_waitOnBlock_42 : decode cX6_waitOnBlock 42 = .ok (.if_icmp .ge 26, 3) := by decide +kernel
theorem dX6_waitOnBlock_45 : decode cX6_waitOnBlock 45 = .ok (.aload_n 0, 1) := by decide +kernel
theorem dX6_waitOnBlock_46 : decode cX6_waitOnBlock 46 = .ok (.iload_n 3, 1) := by decide +kernel
theorem dX6_waitOnBlock_47 : decode cX6_waitOnBlock 47 = .ok (.iload 5, 2) := by decide +kernel
theorem dX6_waitOnBlock_49 : decode cX6_waitOnBlock 49 = .ok (.iload 4, 2) := by decide +kernel
theorem dX6_waitOnBlock_51 : decode cX6_waitOnBlock 51 = .ok (.aload_n 2, 1) := by decide +kernel
theorem dX6_waitOnBlock_52 : decode cX6_waitOnBlock 52 = .ok (.iload_n 3, 1) := by decide +kernel
theorem dX6_waitOnBlock_53 : decode cX6_waitOnBlock 53 = .ok (.invokevirtual 75, 3) := by decide +kernel
theorem dX6_waitOnBlock_56 : decode cX6_waitOnBlock 56 = .ok (.invokevirtual 82, 3) := by decide +kernel
theorem dX6_waitOnBlock_59 : decode cX6_waitOnBlock 59 = .ok (.ifCond .eq 7, 3) := by decide +kernel
theorem dX6_waitOnBlock_62 : decode cX6_waitOnBlock 62 = .ok (.iconst 2, 1) := by decide +kernel
theorem dX6_waitOnBlock_63 : decode cX6_waitOnBlock 63 = .ok (.goto 4, 3) := by decide +kernel
theorem dX6_waitOnBlock_66 : decode cX6_waitOnBlock 66 = .ok (.iconst 0, 1) := by decide +kernel
theorem dX6_waitOnBlock_67 : decode cX6_waitOnBlock 67 = .ok (.ireturn, 1) := by decide +kernel
theorem dX6_waitOnBlock_68 : decode cX6_waitOnBlock 68 = .ok (.aload_n 2, 1) := by decide +kernel
theorem dX6_waitOnBlock_69 : decode cX6_waitOnBlock 69 = .ok (.iload_n 3, 1) := by decide +kernel
theorem dX6_waitOnBlock_70 : decode cX6_waitOnBlock 70 = .ok (.iload 4, 2) := by decide +kernel
theorem dX6_waitOnBlock_72 : decode cX6_waitOnBlock 72 = .ok (.iconst 1, 1) := by decide +kernel
theorem dX6_waitOnBlock_73 : decode cX6_waitOnBlock 73 = .ok (.if_icmp .ne 7, 3) := by decide +kernel
theorem dX6_waitOnBlock_76 : decode cX6_waitOnBlock 76 = .ok (.iconst 1, 1) := by decide +kernel
theorem dX6_waitOnBlock_77 : decode cX6_waitOnBlock 77 = .ok (.goto 4, 3) := by decide +kernel
theorem dX6_waitOnBlock_80 : decode cX6_waitOnBlock 80 = .ok (.iconst 0, 1) := by decide +kernel
theorem dX6_waitOnBlock_81 : decode cX6_waitOnBlock 81 = .ok (.invokevirtual 92, 3) := by decide +kernel
theorem dX6_waitOnBlock_84 : decode cX6_waitOnBlock 84 = .ok (.istore 6, 2) := by decide +kernel
theorem dX6_waitOnBlock_86 : decode cX6_waitOnBlock 86 = .ok (.aload_n 2, 1) := by decide +kernel
theorem dX6_waitOnBlock_87 : decode cX6_waitOnBlock 87 = .ok (.iload 6, 2) := by decide +kernel
theorem dX6_waitOnBlock_89 : decode cX6_waitOnBlock 89 = .ok (.iconst 4, 1) := by decide +kernel
theorem dX6_waitOnBlock_90 : decode cX6_waitOnBlock 90 = .ok (.invokevirtual 69, 3) := by decide +kernel
theorem dX6_waitOnBlock_93 : decode cX6_waitOnBlock 93 = .ok (.ifCond .le 5, 3) := by decide +kernel
theorem dX6_waitOnBlock_96 : decode cX6_waitOnBlock 96 = .ok (.iconst 5, 1) := by decide +kernel
theorem dX6_waitOnBlock_97 : decode cX6_waitOnBlock 97 = .ok (.ireturn, 1) := by decide +kernel
theorem dX6_waitOnBlock_98 : decode cX6_waitOnBlock 98 = .ok (.aload_n 2, 1) := by decide +kernel
theorem dX6_waitOnBlock_99 : decode cX6_waitOnBlock 99 = .ok (.iload 6, 2) := by decide +kernel
theorem dX6_waitOnBlock_101 : decode cX6_waitOnBlock 101 = .ok (.iconst 0, 1) := by decide +kernel
theorem dX6_waitOnBlock_102 : decode cX6_waitOnBlock 102 = .ok (.invokevirtual 69, 3) := by decide +kernel
theorem dX6_waitOnBlock_105 : decode cX6_waitOnBlock 105 = .ok (.aload_n 2, 1) := by decide +kernel
theorem dX6_waitOnBlock_106 : decode cX6_waitOnBlock 106 = .ok (.iload 6, 2) := by decide +kernel
theorem dX6_waitOnBlock_108 : decode cX6_waitOnBlock 108 = .ok (.iconst 1, 1) := by decide +kernel
theorem dX6_waitOnBlock_109 : decode cX6_waitOnBlock 109 = .ok (.invokevirtual 69, 3) := by decide +kernel
theorem dX6_waitOnBlock_112 : decode cX6_waitOnBlock 112 = .ok (.iadd, 1) := by decide +kernel
theorem dX6_waitOnBlock_113 : decode cX6_waitOnBlock 113 = .ok (.istore 7, 2) := by decide +kernel
theorem dX6_waitOnBlock_115 : decode cX6_waitOnBlock 115 = .ok (.aload_n 0, 1) := by decide +kernel
theorem dX6_waitOnBlock_116 : decode cX6_waitOnBlock 116 = .ok (.iload 6, 2) := by decide +kernel
theorem dX6_waitOnBlock_118 : decode cX6_waitOnBlock 118 = .ok (.invokevirtual 96, 3) := by decide +kernel
theorem dX6_waitOnBlock_121 : decode cX6_waitOnBlock 121 = .ok (.iload 7, 2) := by decide +kernel
theorem dX6_waitOnBlock_123 : decode cX6_waitOnBlock 123 = .ok (.if_icmp .ge 7, 3) := by decide +kernel
theorem dX6_waitOnBlock_126 : decode cX6_waitOnBlock 126 = .ok (.iconst 0, 1) := by decide +kernel
theorem dX6_waitOnBlock_127 : decode cX6_waitOnBlock 127 = .ok (.goto 4, 3) := by decide +kernel
theorem dX6_waitOnBlock_130 : decode cX6_waitOnBlock 130 = .ok (.iconst 3, 1) := by decide +kernel
theorem dX6_waitOnBlock_131 : decode cX6_waitOnBlock 131 = .ok (.ireturn, 1) := by decide +kernel
theorem dX6_nextBlock_0 : decode cX6_nextBlock 0 = .ok (.aload_n 0, 1) := by decide +kernel
theorem dX6_nextBlock_1 : decode cX6_nextBlock 1 = .ok (.getfield 16, 3) := by decide +kernel
theorem dX6_nextBlock_4 : decode cX6_nextBlock 4 = .ok (.iload_n 1, 1) := by decide +kernel
theorem dX6_nextBlock_5 : decode cX6_nextBlock 5 = .ok (.iconst 4, 1) := by decide +kernel
theorem dX6_nextBlock_6 : decode cX6_nextBlock 6 = .ok (.invokevirtual 27, 3) := by decide +kernel
theorem dX6_nextBlock_9 : decode cX6_nextBlock 9 = .ok (.aload_n 0, 1) := by decide +kernel
theorem dX6_nextBlock_10 : decode cX6_nextBlock 10 = .ok (.getfield 16, 3) := by decide +kernel
theorem dX6_nextBlock_13 : decode cX6_nextBlock 13 = .ok (.iload_n 1, 1) := by decide +kernel
theorem dX6_nextBlock_14 : decode cX6_nextBlock 14 = .ok (.bipush 11, 2) := by decide +kernel
theorem dX6_nextBlock_16 : decode cX6_nextBlock 16 = .ok (.invokevirtual 27, 3) := by decide +kernel
theorem dX6_nextBlock_19 : decode cX6_nextBlock 19 = .ok (.iconst 1, 1) := by decide +kernel
theorem dX6_nextBlock_20 : decode cX6_nextBlock 20 = .ok (.if_icmp .ne 7, 3) := by decide +kernel
theorem dX6_nextBlock_23 : decode cX6_nextBlock 23 = .ok (.iconst 1, 1) := by decide +kernel
theorem dX6_nextBlock_24 : decode cX6_nextBlock 24 = .ok (.goto 4, 3) := by decide +kernel
theorem dX6_nextBlock_27 : decode cX6_nextBlock 27 = .ok (.iconst (-1), 1) := by decide +kernel
theorem dX6_nextBlock_28 : decode cX6_nextBlock 28 = .ok (.iadd, 1) := by decide +kernel
theorem dX6_nextBlock_29 : decode cX6_nextBlock 29 = .ok (.ireturn, 1) := by decide +kernel
theorem dX6_move_0 : decode cX6_move 0 = .ok (.aload_n 0, 1) := by decide +kernel
theorem dX6_move_1 : decode cX6_move 1 = .ok (.getfield 16, 3) := by decide +kernel
theorem dX6_move_4 : decode cX6_move 4 = .ok (.iload_n 1, 1) := by decide +kernel
theorem dX6_move_5 : decode cX6_move 5 = .ok (.iconst 2, 1) := by decide +kernel
theorem dX6_move_6 : decode cX6_move 6 = .ok (.invokevirtual 27, 3) := by decide +kernel
theorem dX6_move_9 : decode cX6_move 9 = .ok (.istore 4, 2) := by decide +kernel
theorem dX6_move_11 : decode cX6_move 11 = .ok (.iload_n 2, 1) := by decide +kernel
theorem dX6_move_12 : decode cX6_move 12 = .ok (.ifCond .ne 7, 3) := by decide +kernel
theorem dX6_move_15 : decode cX6_move 15 = .ok (.iconst 1, 1) := by decide +kernel
theorem dX6_move_16 : decode cX6_move 16 = .ok (.goto 4, 3) := by decide +kernel
theorem dX6_move_19 : decode cX6_move 19 = .ok (.iconst 0, 1) := by decide +kernel
theorem dX6_move_20 : decode cX6_move 20 = .ok (.istore 5, 2) := by decide +kernel
theorem dX6_move_22 : decode cX6_move 22 = .ok (.iload 4, 2) := by decide +kernel
theorem dX6_move_24 : decode cX6_move 24 = .ok (.iconst 1, 1) := by decide +kernel
theorem dX6_move_25 : decode cX6_move 25 = .ok (.if_icmp .ne 14, 3) := by decide +kernel
theorem dX6_move_28 : decode cX6_move 28 = .ok (.aload_n 0, 1) := by decide +kernel
theorem dX6_move_29 : decode cX6_move 29 = .ok (.iload_n 1, 1) := by decide +kernel
theorem dX6_move_30 : decode cX6_move 30 = .ok (.iload 5, 2) := by decide +kernel
theorem dX6_move_32 : decode cX6_move 32 = .ok (.aload_n 3, 1) := by decide +kernel
theorem dX6_move_33 : decode cX6_move 33 = .ok (.invokevirtual 99, 3) := by decide +kernel
theorem dX6_move_36 : decode cX6_move 36 = .ok (.goto 69, 3) := by decide +kernel
theorem dX6_move_39 : decode cX6_move 39 = .ok (.iload 4, 2) := by decide +kernel
theorem dX6_move_41 : decode cX6_move 41 = .ok (.ifCond .ne 14, 3) := by decide +kernel
theorem dX6_move_44 : decode cX6_move 44 = .ok (.aload_n 0, 1) := by decide +kernel
theorem dX6_move_45 : decode cX6_move 45 = .ok (.iload_n 1, 1) := by decide +kernel
theorem dX6_move_46 : decode cX6_move 46 = .ok (.iload 5, 2) := by decide +kernel
theorem dX6_move_48 : decode cX6_move 48 = .ok (.aload_n 3, 1) := by decide +kernel
theorem dX6_move_49 : decode cX6_move 49 = .ok (.invokevirtual 103, 3) := by decide +kernel
theorem dX6_move_52 : decode cX6_move 52 = .ok (.goto 53, 3) := by decide +kernel
theorem dX6_move_55 : decode cX6_move 55 = .ok (.iload 4, 2) := by decide +kernel
theorem dX6_move_57 : decode cX6_move 57 = .ok (.iconst 2, 1) := by decide +kernel
theorem dX6_move_58 : decode cX6_move 58 = .ok (.if_icmp .ne 47, 3) := by decide +kernel
theorem dX6_move_61 : decode cX6_move 61 = .ok (.aload_n 0, 1) := by decide +kernel
theorem dX6_move_62 : decode cX6_move 62 = .ok (.getfield 16, 3) := by decide +kernel
theorem dX6_move_65 : decode cX6_move 65 = .ok (.iload_n 1, 1) := by decide +kernel
theorem dX6_move_66 : decode cX6_move 66 = .ok (.iconst 5, 1) := by decide +kernel
theorem dX6_move_67 : decode cX6_move 67 = .ok (.iconst (-1), 1) := by decide +kernel
theorem dX6_move_68 : decode cX6_move 68 = .ok (.invokevirtual 35, 3) := by decide +kernel
theorem dX6_move_71 : decode cX6_move 71 = .ok (.aload_n 0, 1) := by decide +kernel
theorem dX6_move_72 : decode cX6_move 72 = .ok (.getfield 16, 3) := by decide +kernel
theorem dX6_move_75 : decode cX6_move 75 = .ok (.iload_n 1, 1) := by decide +kernel
theorem dX6_move_76 : decode cX6_move 76 = .ok (.iconst 5, 1) := by decide +kernel
theorem dX6_move_77 : decode cX6_move 77 = .ok (.invokevirtual 27, 3) := by decide +kernel
theorem dX6_move_80 : decode cX6_move 80 = .ok (.ifCond .gt 25, 3) := by decide +kernel
theorem dX6_move_83 : decode cX6_move 83 = .ok (.aload_n 0, 1) := by decide +kernel
theorem dX6_move_84 : decode cX6_move 84 = .ok (.getfield 16, 3) := by decide +kernel
theorem dX6_move_87 : decode cX6_move 87 = .ok (.iload_n 1, 1) := by decide +kernel
theorem dX6_move_88 : decode cX6_move 88 = .ok (.iconst 2, 1) := by decide +kernel
theorem dX6_move_89 : decode cX6_move 89 = .ok (.iconst 3, 1) := by decide +kernel
theorem dX6_move_90 : decode cX6_move 90 = .ok (.invokevirtual 31, 3) := by decide +kernel
theorem dX6_move_93 : decode cX6_move 93 = .ok (.aload_n 0, 1) := by decide +kernel
theorem dX6_move_94 : decode cX6_move 94 = .ok (.getfield 16, 3) := by decide +kernel
theorem dX6_move_97 : decode cX6_move 97 = .ok (.iload_n 1, 1) := by decide +kernel
theorem dX6_move_98 : decode cX6_move 98 = .ok (.iconst 3, 1) := by decide +kernel
theorem dX6_move_99 : decode cX6_move 99 = .ok (.iconst (-1), 1) := by decide +kernel
theorem dX6_move_100 : decode cX6_move 100 = .ok (.invokevirtual 31, 3) := by decide +kernel
theorem dX6_move_103 : decode cX6_move 103 = .ok (.iconst 1, 1) := by decide +kernel
theorem dX6_move_104 : decode cX6_move 104 = .ok (.ireturn, 1) := by decide +kernel
theorem dX6_move_105 : decode cX6_move 105 = .ok (.iconst 0, 1) := by decide +kernel
theorem dX6_move_106 : decode cX6_move 106 = .ok (.ireturn, 1) := by decide +kernel
theorem dX6_run_0 : decode cX6_run 0 = .ok (.aload_n 0, 1) := by decide +kernel
theorem dX6_run_1 : decode cX6_run 1 = .ok (.getfield 16, 3) := by decide +kernel
theorem dX6_run_4 : decode cX6_run 4 = .ok (.iload_n 1, 1) := by decide +kernel
theorem dX6_run_5 : decode cX6_run 5 = .ok (.iconst 5, 1) := by decide +kernel
theorem dX6_run_6 : decode cX6_run 6 = .ok (.invokevirtual 27, 3) := by decide +kernel
theorem dX6_run_9 : decode cX6_run 9 = .ok (.ifCond .le 13, 3) := by decide +kernel
theorem dX6_run_12 : decode cX6_run 12 = .ok (.aload_n 0, 1) := by decide +kernel
theorem dX6_run_13 : decode cX6_run 13 = .ok (.getfield 16, 3) := by decide +kernel
theorem dX6_run_16 : decode cX6_run 16 = .ok (.iload_n 1, 1) := by decide +kernel
theorem dX6_run_17 : decode cX6_run 17 = .ok (.iconst 5, 1) := by decide +kernel
theorem dX6_run_18 : decode cX6_run 18 = .ok (.iconst (-1), 1) := by decide +kernel
theorem dX6_run_19 : decode cX6_run 19 = .ok (.invokevirtual 35, 3) := by decide +kernel
theorem dX6_run_22 : decode cX6_run 22 = .ok (.aload_n 0, 1) := by decide +kernel
theorem dX6_run_23 : decode cX6_run 23 = .ok (.getfield 16, 3) := by decide +kernel
theorem dX6_run_26 : decode cX6_run 26 = .ok (.iload_n 1, 1) := by decide +kernel
theorem dX6_run_27 : decode cX6_run 27 = .ok (.iconst 5, 1) := by decide +kernel
theorem dX6_run_28 : decode cX6_run 28 = .ok (.invokevirtual 27, 3) := by decide +kernel
theorem dX6_run_31 : decode cX6_run 31 = .ok (.ifCond .gt 7, 3) := by decide +kernel
theorem dX6_run_34 : decode cX6_run 34 = .ok (.iload_n 2, 1) := by decide +kernel
theorem dX6_run_35 : decode cX6_run 35 = .ok (.ifCond .ne 4, 3) := by decide +kernel
theorem dX6_run_38 : decode cX6_run 38 = .ok (.return_, 1) := by decide +kernel
theorem dX6_run_39 : decode cX6_run 39 = .ok (.aload_n 0, 1) := by decide +kernel
theorem dX6_run_40 : decode cX6_run 40 = .ok (.getfield 16, 3) := by decide +kernel
theorem dX6_run_43 : decode cX6_run 43 = .ok (.iload_n 1, 1) := by decide +kernel
theorem dX6_run_44 : decode cX6_run 44 = .ok (.iconst 3, 1) := by decide +kernel
theorem dX6_run_45 : decode cX6_run 45 = .ok (.invokevirtual 27, 3) := by decide +kernel
theorem dX6_run_48 : decode cX6_run 48 = .ok (.istore 4, 2) := by decide +kernel
theorem dX6_run_50 : decode cX6_run 50 = .ok (.aload_n 0, 1) := by decide +kernel
theorem dX6_run_51 : decode cX6_run 51 = .ok (.iload_n 1, 1) := by decide +kernel
theorem dX6_run_52 : decode cX6_run 52 = .ok (.invokevirtual 89, 3) := by decide +kernel
theorem dX6_run_55 : decode cX6_run 55 = .ok (.istore 5, 2) := by decide +kernel
theorem dX6_run_57 : decode cX6_run 57 = .ok (.iload 5, 2) := by decide +kernel
theorem dX6_run_59 : decode cX6_run 59 = .ok (.ifCond .lt 28, 3) := by decide +kernel
theorem dX6_run_62 : decode cX6_run 62 = .ok (.iload 5, 2) := by decide +kernel
theorem dX6_run_64 : decode cX6_run 64 = .ok (.aload_n 3, 1) := by decide +kernel
theorem dX6_run_65 : decode cX6_run 65 = .ok (.iload 4, 2) := by decide +kernel
theorem dX6_run_67 : decode cX6_run 67 = .ok (.iconst 2, 1) := by decide +kernel
theorem dX6_run_68 : decode cX6_run 68 = .ok (.invokevirtual 79, 3) := by decide +kernel
theorem dX6_run_71 : decode cX6_run 71 = .ok (.if_icmp .ge 16, 3) := by decide +kernel
theorem dX6_run_74 : decode cX6_run 74 = .ok (.aload_n 0, 1) := by decide +kernel
theorem dX6_run_75 : decode cX6_run 75 = .ok (.iload_n 1, 1) := by decide +kernel
theorem dX6_run_76 : decode cX6_run 76 = .ok (.iload 4, 2) := by decide +kernel
theorem dX6_run_78 : decode cX6_run 78 = .ok (.iload 5, 2) := by decide +kernel
theorem dX6_run_80 : decode cX6_run 80 = .ok (.aload_n 3, 1) := by decide +kernel
theorem dX6_run_81 : decode cX6_run 81 = .ok (.invokevirtual 106, 3) := by decide +kernel
theorem dX6_run_84 : decode cX6_run 84 = .ok (.goto 11, 3) := by decide +kernel
theorem dX6_run_87 : decode cX6_run 87 = .ok (.aload_n 0, 1) := by decide +kernel
theorem dX6_run_88 : decode cX6_run 88 = .ok (.iload_n 1, 1) := by decide +kernel
theorem dX6_run_89 : decode cX6_run 89 = .ok (.iload 4, 2) := by decide +kernel
theorem dX6_run_91 : decode cX6_run 91 = .ok (.aload_n 3, 1) := by decide +kernel
theorem dX6_run_92 : decode cX6_run 92 = .ok (.invokevirtual 110, 3) := by decide +kernel
theorem dX6_run_95 : decode cX6_run 95 = .ok (.return_, 1) := by decide +kernel
theorem dX6_stay_0 : decode cX6_stay 0 = .ok (.aload_n 0, 1) := by decide +kernel
theorem dX6_stay_1 : decode cX6_stay 1 = .ok (.getfield 16, 3) := by decide +kernel
theorem dX6_stay_4 : decode cX6_stay 4 = .ok (.iload_n 1, 1) := by decide +kernel
theorem dX6_stay_5 : decode cX6_stay 5 = .ok (.iconst 3, 1) := by decide +kernel
theorem dX6_stay_6 : decode cX6_stay 6 = .ok (.invokevirtual 27, 3) := by decide +kernel
theorem dX6_stay_9 : decode cX6_stay 9 = .ok (.istore 4, 2) := by decide +kernel
theorem dX6_stay_11 : decode cX6_stay 11 = .ok (.aload_n 0, 1) := by decide +kernel
theorem dX6_stay_12 : decode cX6_stay 12 = .ok (.getfield 16, 3) := by decide +kernel
theorem dX6_stay_15 : decode cX6_stay 15 = .ok (.iload_n 1, 1) := by decide +kernel
theorem dX6_stay_16 : decode cX6_stay 16 = .ok (.bipush 6, 2) := by decide +kernel
theorem dX6_stay_18 : decode cX6_stay 18 = .ok (.invokevirtual 27, 3) := by decide +kernel
theorem dX6_stay_21 : decode cX6_stay 21 = .ok (.ifCond .le 17, 3) := by decide +kernel
theorem dX6_stay_24 : decode cX6_stay 24 = .ok (.aload_n 0, 1) := by decide +kernel
theorem dX6_stay_25 : decode cX6_stay 25 = .ok (.getfield 16, 3) := by decide +kernel
theorem dX6_stay_28 : decode cX6_stay 28 = .ok (.iload_n 1, 1) := by decide +kernel
theorem dX6_stay_29 : decode cX6_stay 29 = .ok (.bipush 6, 2) := by decide +kernel
theorem dX6_stay_31 : decode cX6_stay 31 = .ok (.iconst (-1), 1) := by decide +kernel
theorem dX6_stay_32 : decode cX6_stay 32 = .ok (.invokevirtual 35, 3) := by decide +kernel
theorem dX6_stay_35 : decode cX6_stay 35 = .ok (.goto 162, 3) := by decide +kernel
theorem dX6_stay_38 : decode cX6_stay 38 = .ok (.iload_n 2, 1) := by decide +kernel
theorem dX6_stay_39 : decode cX6_stay 39 = .ok (.ifCond .eq 50, 3) := by decide +kernel
theorem dX6_stay_42 : decode cX6_stay 42 = .ok (.iload 4, 2) := by decide +kernel
theorem dX6_stay_44 : decode cX6_stay 44 = .ok (.aload_n 0, 1) := by decide +kernel
theorem dX6_stay_45 : decode cX6_stay 45 = .ok (.getfield 16, 3) := by decide +kernel
theorem dX6_stay_48 : decode cX6_stay 48 = .ok (.iload_n 1, 1) := by decide +kernel
theorem dX6_stay_49 : decode cX6_stay 49 = .ok (.bipush 9, 2) := by decide +kernel
theorem dX6_stay_51 : decode cX6_stay 51 = .ok (.invokevirtual 27, 3) := by decide +kernel
theorem dX6_stay_54 : decode cX6_stay 54 = .ok (.if_icmp .ne 35, 3) := by decide +kernel
theorem dX6_stay_57 : decode cX6_stay 57 = .ok (.aload_n 0, 1) := by decide +kernel
theorem dX6_stay_58 : decode cX6_stay 58 = .ok (.getfield 16, 3) := by decide +kernel
theorem dX6_stay_61 : decode cX6_stay 61 = .ok (.iload_n 1, 1) := by decide +kernel
theorem dX6_stay_62 : decode cX6_stay 62 = .ok (.iconst 2, 1) := by decide +kernel
theorem dX6_stay_63 : decode cX6_stay 63 = .ok (.iconst 2, 1) := by decide +kernel
theorem dX6_stay_64 : decode cX6_stay 64 = .ok (.invokevirtual 31, 3) := by decide +kernel
theorem dX6_stay_67 : decode cX6_stay 67 = .ok (.aload_n 0, 1) := by decide +kernel
theorem dX6_stay_68 : decode cX6_stay 68 = .ok (.getfield 16, 3) := by decide +kernel
theorem dX6_stay_71 : decode cX6_stay 71 = .ok (.iload_n 1, 1) := by decide +kernel
theorem dX6_stay_72 : decode cX6_stay 72 = .ok (.iconst 5, 1) := by decide +kernel
theorem dX6_stay_73 : decode cX6_stay 73 = .ok (.aload_n 0, 1) := by decide +kernel
theorem dX6_stay_74 : decode cX6_stay 74 = .ok (.getfield 16, 3) := by decide +kernel
theorem dX6_stay_77 : decode cX6_stay 77 = .ok (.iload_n 1, 1) := by decide +kernel
theorem dX6_stay_78 : decode cX6_stay 78 = .ok (.bipush 13, 2) := by decide +kernel
theorem dX6_stay_80 : decode cX6_stay 80 = .ok (.invokevirtual 27, 3) := by decide +kernel
theorem dX6_stay_83 : decode cX6_stay 83 = .ok (.invokevirtual 31, 3) := by decide +kernel
theorem dX6_stay_86 : decode cX6_stay 86 = .ok (.goto 111, 3) := by decide +kernel
theorem dX6_stay_89 : decode cX6_stay 89 = .ok (.iload_n 2, 1) := by decide +kernel
theorem dX6_stay_90 : decode cX6_stay 90 = .ok (.ifCond .eq 107, 3) := by decide +kernel
theorem dX6_stay_93 : decode cX6_stay 93 = .ok (.aload_n 3, 1) := by decide +kernel
theorem dX6_stay_94 : decode cX6_stay 94 = .ok (.iload 4, 2) := by decide +kernel
theorem dX6_stay_96 : decode cX6_stay 96 = .ok (.aload_n 0, 1) := by decide +kernel
theorem dX6_stay_97 : decode cX6_stay 97 = .ok (.getfield 16, 3) := by decide +kernel
theorem dX6_stay_100 : decode cX6_stay 100 = .ok (.iload_n 1, 1) := by decide +kernel
theorem dX6_stay_101 : decode cX6_stay 101 = .ok (.bipush 9, 2) := by decide +kernel
theorem dX6_stay_103 : decode cX6_stay 103 = .ok (.invokevirtual 27, 3) := by decide +kernel
theorem dX6_stay_106 : decode cX6_stay 106 = .ok (.invokevirtual 72, 3) := by decide +kernel
theorem dX6_stay_109 : decode cX6_stay 109 = .ok (.istore 5, 2) := by decide +kernel
theorem dX6_stay_111 : decode cX6_stay 111 = .ok (.aload_n 3, 1) := by decide +kernel
theorem dX6_stay_112 : decode cX6_stay 112 = .ok (.iload 5, 2) := by decide +kernel
theorem dX6_stay_114 : decode cX6_stay 114 = .ok (.iconst 0, 1) := by decide +kernel
theorem dX6_stay_115 : decode cX6_stay 115 = .ok (.invokevirtual 79, 3) := by decide +kernel
theorem dX6_stay_118 : decode cX6_stay 118 = .ok (.iload 4, 2) := by decide +kernel
theorem dX6_stay_120 : decode cX6_stay 120 = .ok (.if_icmp .ne 7, 3) := by decide +kernel
theorem dX6_stay_123 : decode cX6_stay 123 = .ok (.iconst 1, 1) := by decide +kernel
theorem dX6_stay_124 : decode cX6_stay 124 = .ok (.goto 4, 3) := by decide +kernel
theorem dX6_stay_127 : decode cX6_stay 127 = .ok (.iconst 0, 1) := by decide +kernel
theorem dX6_stay_128 : decode cX6_stay 128 = .ok (.istore 6, 2) := by decide +kernel
theorem dX6_stay_130 : decode cX6_stay 130 = .ok (.aload_n 0, 1) := by decide +kernel
theorem dX6_stay_131 : decode cX6_stay 131 = .ok (.getfield 16, 3) := by decide +kernel
theorem dX6_stay_134 : decode cX6_stay 134 = .ok (.iload_n 1, 1) := by decide +kernel
theorem dX6_stay_135 : decode cX6_stay 135 = .ok (.iconst 2, 1) := by decide +kernel
theorem dX6_stay_136 : decode cX6_stay 136 = .ok (.iconst 1, 1) := by decide +kernel
theorem dX6_stay_137 : decode cX6_stay 137 = .ok (.invokevirtual 31, 3) := by decide +kernel
theorem dX6_stay_140 : decode cX6_stay 140 = .ok (.aload_n 0, 1) := by decide +kernel
theorem dX6_stay_141 : decode cX6_stay 141 = .ok (.getfield 16, 3) := by decide +kernel
theorem dX6_stay_144 : decode cX6_stay 144 = .ok (.iload_n 1, 1) := by decide +kernel
theorem dX6_stay_145 : decode cX6_stay 145 = .ok (.iconst 3, 1) := by decide +kernel
theorem dX6_stay_146 : decode cX6_stay 146 = .ok (.iload 5, 2) := by decide +kernel
theorem dX6_stay_148 : decode cX6_stay 148 = .ok (.invokevirtual 31, 3) := by decide +kernel
theorem dX6_stay_151 : decode cX6_stay 151 = .ok (.aload_n 0, 1) := by decide +kernel
theorem dX6_stay_152 : decode cX6_stay 152 = .ok (.getfield 16, 3) := by decide +kernel
theorem dX6_stay_155 : decode cX6_stay 155 = .ok (.iload_n 1, 1) := by decide +kernel
theorem dX6_stay_156 : decode cX6_stay 156 = .ok (.bipush 11, 2) := by decide +kernel
theorem dX6_stay_158 : decode cX6_stay 158 = .ok (.iload 6, 2) := by decide +kernel
theorem dX6_stay_160 : decode cX6_stay 160 = .ok (.ifCond .eq 7, 3) := by decide +kernel
theorem dX6_stay_163 : decode cX6_stay 163 = .ok (.iconst 1, 1) := by decide +kernel
theorem dX6_stay_164 : decode cX6_stay 164 = .ok (.goto 4, 3) := by decide +kernel
theorem dX6_stay_167 : decode cX6_stay 167 = .ok (.iconst 0, 1) := by decide +kernel
theorem dX6_stay_168 : decode cX6_stay 168 = .ok (.invokevirtual 31, 3) := by decide +kernel
theorem dX6_stay_171 : decode cX6_stay 171 = .ok (.aload_n 0, 1) := by decide +kernel
theorem dX6_stay_172 : decode cX6_stay 172 = .ok (.iload_n 1, 1) := by decide +kernel
theorem dX6_stay_173 : decode cX6_stay 173 = .ok (.iload 5, 2) := by decide +kernel
theorem dX6_stay_175 : decode cX6_stay 175 = .ok (.iload 6, 2) := by decide +kernel
theorem dX6_stay_177 : decode cX6_stay 177 = .ok (.ifCond .eq 7, 3) := by decide +kernel
theorem dX6_stay_180 : decode cX6_stay 180 = .ok (.iconst 0, 1) := by decide +kernel
theorem dX6_stay_181 : decode cX6_stay 181 = .ok (.goto 12, 3) := by decide +kernel
theorem dX6_stay_184 : decode cX6_stay 184 = .ok (.aload_n 3, 1) := by decide +kernel
theorem dX6_stay_185 : decode cX6_stay 185 = .ok (.iload 5, 2) := by decide +kernel
theorem dX6_stay_187 : decode cX6_stay 187 = .ok (.iconst 2, 1) := by decide +kernel
theorem dX6_stay_188 : decode cX6_stay 188 = .ok (.invokevirtual 79, 3) := by decide +kernel
theorem dX6_stay_191 : decode cX6_stay 191 = .ok (.iconst 1, 1) := by decide +kernel
theorem dX6_stay_192 : decode cX6_stay 192 = .ok (.isub, 1) := by decide +kernel
theorem dX6_stay_193 : decode cX6_stay 193 = .ok (.aload_n 3, 1) := by decide +kernel
theorem dX6_stay_194 : decode cX6_stay 194 = .ok (.invokevirtual 106, 3) := by decide +kernel
theorem dX6_stay_197 : decode cX6_stay 197 = .ok (.return_, 1) := by decide +kernel
theorem dX6_enter_0 : decode cX6_enter 0 = .ok (.aload 4, 2) := by decide +kernel
theorem dX6_enter_2 : decode cX6_enter 2 = .ok (.iload_n 2, 1) := by decide +kernel
theorem dX6_enter_3 : decode cX6_enter 3 = .ok (.iconst 3, 1) := by decide +kernel
theorem dX6_enter_4 : decode cX6_enter 4 = .ok (.invokevirtual 79, 3) := by decide +kernel
theorem dX6_enter_7 : decode cX6_enter 7 = .ok (.istore 5, 2) := by decide +kernel
theorem dX6_enter_9 : decode cX6_enter 9 = .ok (.aload_n 0, 1) := by decide +kernel
theorem dX6_enter_10 : decode cX6_enter 10 = .ok (.getfield 16, 3) := by decide +kernel
theorem dX6_enter_13 : decode cX6_enter 13 = .ok (.iload_n 1, 1) := by decide +kernel
theorem dX6_enter_14 : decode cX6_enter 14 = .ok (.bipush 8, 2) := by decide +kernel
theorem dX6_enter_16 : decode cX6_enter 16 = .ok (.invokevirtual 27, 3) := by decide +kernel
theorem dX6_enter_19 : decode cX6_enter 19 = .ok (.bipush 12, 2) := by decide +kernel
theorem dX6_enter_21 : decode cX6_enter 21 = .ok (.if_icmp .lt 7, 3) := by decide +kernel
theorem dX6_enter_24 : decode cX6_enter 24 = .ok (.iconst 1, 1) := by decide +kernel
theorem dX6_enter_25 : decode cX6_enter 25 = .ok (.goto 4, 3) := by decide +kernel
theorem dX6_enter_28 : decode cX6_enter 28 = .ok (.iconst 0, 1) := by decide +kernel
theorem dX6_enter_29 : decode cX6_enter 29 = .ok (.istore 6, 2) := by decide +kernel
theorem dX6_enter_31 : decode cX6_enter 31 = .ok (.aload_n 0, 1) := by decide +kernel
theorem dX6_enter_32 : decode cX6_enter 32 = .ok (.getfield 16, 3) := by decide +kernel
theorem dX6_enter_35 : decode cX6_enter 35 = .ok (.iload_n 1, 1) := by decide +kernel
theorem dX6_enter_36 : decode cX6_enter 36 = .ok (.iconst 4, 1) := by decide +kernel
theorem dX6_enter_37 : decode cX6_enter 37 = .ok (.iload_n 3, 1) := by decide +kernel
theorem dX6_enter_38 : decode cX6_enter 38 = .ok (.invokevirtual 31, 3) := by decide +kernel
theorem dX6_enter_41 : decode cX6_enter 41 = .ok (.aload_n 0, 1) := by decide +kernel
theorem dX6_enter_42 : decode cX6_enter 42 = .ok (.getfield 16, 3) := by decide +kernel
theorem dX6_enter_45 : decode cX6_enter 45 = .ok (.iload_n 1, 1) := by decide +kernel
theorem dX6_enter_46 : decode cX6_enter 46 = .ok (.iconst 5, 1) := by decide +kernel
theorem dX6_enter_47 : decode cX6_enter 47 = .ok (.iload 6, 2) := by decide +kernel
theorem dX6_enter_49 : decode cX6_enter 49 = .ok (.ifCond .eq 10, 3) := by decide +kernel
theorem dX6_enter_52 : decode cX6_enter 52 = .ok (.iconst 2, 1) := by decide +kernel
theorem dX6_enter_53 : decode cX6_enter 53 = .ok (.iload 5, 2) := by decide +kernel
theorem dX6_enter_55 : decode cX6_enter 55 = .ok (.imul, 1) := by decide +kernel
theorem dX6_enter_56 : decode cX6_enter 56 = .ok (.goto 5, 3) := by decide +kernel
theorem dX6_enter_59 : decode cX6_enter 59 = .ok (.iload 5, 2) := by decide +kernel
theorem dX6_enter_61 : decode cX6_enter 61 = .ok (.invokevirtual 31, 3) := by decide +kernel
theorem dX6_enter_64 : decode cX6_enter 64 = .ok (.aload_n 0, 1) := by decide +kernel
theorem dX6_enter_65 : decode cX6_enter 65 = .ok (.getfield 16, 3) := by decide +kernel
theorem dX6_enter_68 : decode cX6_enter 68 = .ok (.iload_n 1, 1) := by decide +kernel
theorem dX6_enter_69 : decode cX6_enter 69 = .ok (.bipush 8, 2) := by decide +kernel
theorem dX6_enter_71 : decode cX6_enter 71 = .ok (.iconst 1, 1) := by decide +kernel
theorem dX6_enter_72 : decode cX6_enter 72 = .ok (.invokevirtual 35, 3) := by decide +kernel
theorem dX6_enter_75 : decode cX6_enter 75 = .ok (.return_, 1) := by decide +kernel
theorem dX6_arrive_0 : decode cX6_arrive 0 = .ok (.aload_n 3, 1) := by decide +kernel
theorem dX6_arrive_1 : decode cX6_arrive 1 = .ok (.iload_n 2, 1) := by decide +kernel
theorem dX6_arrive_2 : decode cX6_arrive 2 = .ok (.aload_n 0, 1) := by decide +kernel
theorem dX6_arrive_3 : decode cX6_arrive 3 = .ok (.getfield 16, 3) := by decide +kernel
theorem dX6_arrive_6 : decode cX6_arrive 6 = .ok (.iload_n 1, 1) := by decide +kernel
theorem dX6_arrive_7 : decode cX6_arrive 7 = .ok (.bipush 11, 2) := by decide +kernel
theorem dX6_arrive_9 : decode cX6_arrive 9 = .ok (.invokevirtual 27, 3) := by decide +kernel
theorem dX6_arrive_12 : decode cX6_arrive 12 = .ok (.iconst 1, 1) := by decide +kernel
theorem dX6_arrive_13 : decode cX6_arrive 13 = .ok (.if_icmp .ne 7, 3) := by decide +kernel
theorem dX6_arrive_16 : decode cX6_arrive 16 = .ok (.iconst 1, 1) := by decide +kernel
theorem dX6_arrive_17 : decode cX6_arrive 17 = .ok (.goto 4, 3) := by decide +kernel
theorem dX6_arrive_20 : decode cX6_arrive 20 = .ok (.iconst 0, 1) := by decide +kernel
theorem dX6_arrive_21 : decode cX6_arrive 21 = .ok (.invokevirtual 92, 3) := by decide +kernel
theorem dX6_arrive_24 : decode cX6_arrive 24 = .ok (.istore 4, 2) := by decide +kernel
theorem dX6_arrive_26 : decode cX6_arrive 26 = .ok (.aload_n 3, 1) := by decide +kernel
theorem dX6_arrive_27 : decode cX6_arrive 27 = .ok (.iload_n 2, 1) := by decide +kernel
theorem dX6_arrive_28 : decode cX6_arrive 28 = .ok (.invokevirtual 114, 3) := by decide +kernel
theorem dX6_arrive_31 : decode cX6_arrive 31 = .ok (.aload_n 0, 1) := by decide +kernel
theorem dX6_arrive_32 : decode cX6_arrive 32 = .ok (.getfield 16, 3) := by decide +kernel
theorem dX6_arrive_35 : decode cX6_arrive 35 = .ok (.iload_n 1, 1) := by decide +kernel
theorem dX6_arrive_36 : decode cX6_arrive 36 = .ok (.iconst 2, 1) := by decide +kernel
theorem dX6_arrive_37 : decode cX6_arrive 37 = .ok (.iconst 0, 1) := by decide +kernel
theorem dX6_arrive_38 : decode cX6_arrive 38 = .ok (.invokevirtual 31, 3) := by decide +kernel
theorem dX6_arrive_41 : decode cX6_arrive 41 = .ok (.aload_n 0, 1) := by decide +kernel
theorem dX6_arrive_42 : decode cX6_arrive 42 = .ok (.getfield 16, 3) := by decide +kernel
theorem dX6_arrive_45 : decode cX6_arrive 45 = .ok (.iload_n 1, 1) := by decide +kernel
theorem dX6_arrive_46 : decode cX6_arrive 46 = .ok (.iconst 3, 1) := by decide +kernel
theorem dX6_arrive_47 : decode cX6_arrive 47 = .ok (.iload 4, 2) := by decide +kernel
theorem dX6_arrive_49 : decode cX6_arrive 49 = .ok (.invokevirtual 31, 3) := by decide +kernel
theorem dX6_arrive_52 : decode cX6_arrive 52 = .ok (.aload_n 0, 1) := by decide +kernel
theorem dX6_arrive_53 : decode cX6_arrive 53 = .ok (.getfield 16, 3) := by decide +kernel
theorem dX6_arrive_56 : decode cX6_arrive 56 = .ok (.iload_n 1, 1) := by decide +kernel
theorem dX6_arrive_57 : decode cX6_arrive 57 = .ok (.iconst 4, 1) := by decide +kernel
theorem dX6_arrive_58 : decode cX6_arrive 58 = .ok (.iconst (-1), 1) := by decide +kernel
theorem dX6_arrive_59 : decode cX6_arrive 59 = .ok (.invokevirtual 31, 3) := by decide +kernel
theorem dX6_arrive_62 : decode cX6_arrive 62 = .ok (.aload_n 3, 1) := by decide +kernel
theorem dX6_arrive_63 : decode cX6_arrive 63 = .ok (.iload 4, 2) := by decide +kernel
theorem dX6_arrive_65 : decode cX6_arrive 65 = .ok (.iconst 3, 1) := by decide +kernel
theorem dX6_arrive_66 : decode cX6_arrive 66 = .ok (.invokevirtual 69, 3) := by decide +kernel
theorem dX6_arrive_69 : decode cX6_arrive 69 = .ok (.iconst 1, 1) := by decide +kernel
theorem dX6_arrive_70 : decode cX6_arrive 70 = .ok (.if_icmp .ne 39, 3) := by decide +kernel
theorem dX6_arrive_73 : decode cX6_arrive 73 = .ok (.aload_n 0, 1) := by decide +kernel
theorem dX6_arrive_74 : decode cX6_arrive 74 = .ok (.getfield 16, 3) := by decide +kernel
theorem dX6_arrive_77 : decode cX6_arrive 77 = .ok (.iload_n 1, 1) := by decide +kernel
theorem dX6_arrive_78 : decode cX6_arrive 78 = .ok (.bipush 8, 2) := by decide +kernel
theorem dX6_arrive_80 : decode cX6_arrive 80 = .ok (.invokevirtual 27, 3) := by decide +kernel
theorem dX6_arrive_83 : decode cX6_arrive 83 = .ok (.iconst 4, 1) := by decide +kernel
theorem dX6_arrive_84 : decode cX6_arrive 84 = .ok (.if_icmp .lt 25, 3) := by decide +kernel
theorem dX6_arrive_87 : decode cX6_arrive 87 = .ok (.aload_n 0, 1) := by decide +kernel
theorem dX6_arrive_88 : decode cX6_arrive 88 = .ok (.getfield 16, 3) := by decide +kernel
theorem dX6_arrive_91 : decode cX6_arrive 91 = .ok (.iload_n 1, 1) := by decide +kernel
theorem dX6_arrive_92 : decode cX6_arrive 92 = .ok (.bipush 6, 2) := by decide +kernel
theorem dX6_arrive_94 : decode cX6_arrive 94 = .ok (.iconst 2, 1) := by decide +kernel
theorem dX6_arrive_95 : decode cX6_arrive 95 = .ok (.invokevirtual 31, 3) := by decide +kernel
theorem dX6_arrive_98 : decode cX6_arrive 98 = .ok (.aload_n 0, 1) := by decide +kernel
theorem dX6_arrive_99 : decode cX6_arrive 99 = .ok (.getfield 16, 3) := by decide +kernel
theorem dX6_arrive_102 : decode cX6_arrive 102 = .ok (.iload_n 1, 1) := by decide +kernel
theorem dX6_arrive_103 : decode cX6_arrive 103 = .ok (.bipush 8, 2) := by decide +kernel
theorem dX6_arrive_105 : decode cX6_arrive 105 = .ok (.iconst 0, 1) := by decide +kernel
theorem dX6_arrive_106 : decode cX6_arrive 106 = .ok (.invokevirtual 31, 3) := by decide +kernel
theorem dX6_arrive_109 : decode cX6_arrive 109 = .ok (.return_, 1) := by decide +kernel
theorem dX6_areApart_0 : decode cX6_areApart 0 = .ok (.iconst 0, 1) := by decide +kernel
theorem dX6_areApart_1 : decode cX6_areApart 1 = .ok (.istore_n 2, 1) := by decide +kernel
theorem dX6_areApart_2 : decode cX6_areApart 2 = .ok (.iload_n 2, 1) := by decide +kernel
theorem dX6_areApart_3 : decode cX6_areApart 3 = .ok (.aload_n 0, 1) := by decide +kernel
theorem dX6_areApart_4 : decode cX6_areApart 4 = .ok (.getfield 23, 3) := by decide +kernel
theorem dX6_areApart_7 : decode cX6_areApart 7 = .ok (.if_icmp .ge 75, 3) := by decide +kernel
theorem dX6_areApart_10 : decode cX6_areApart 10 = .ok (.aload_n 0, 1) := by decide +kernel
theorem dX6_areApart_11 : decode cX6_areApart 11 = .ok (.getfield 16, 3) := by decide +kernel
theorem dX6_areApart_14 : decode cX6_areApart 14 = .ok (.iload_n 2, 1) := by decide +kernel
theorem dX6_areApart_15 : decode cX6_areApart 15 = .ok (.iconst 3, 1) := by decide +kernel
theorem dX6_areApart_16 : decode cX6_areApart 16 = .ok (.invokevirtual 27, 3) := by decide +kernel
theorem dX6_areApart_19 : decode cX6_areApart 19 = .ok (.istore_n 3, 1) := by decide +kernel
theorem dX6_areApart_20 : decode cX6_areApart 20 = .ok (.iload_n 2, 1) := by decide +kernel
theorem dX6_areApart_21 : decode cX6_areApart 21 = .ok (.iconst 1, 1) := by decide +kernel
theorem dX6_areApart_22 : decode cX6_areApart 22 = .ok (.iadd, 1) := by decide +kernel
theorem dX6_areApart_23 : decode cX6_areApart 23 = .ok (.istore 4, 2) := by decide +kernel
theorem dX6_areApart_25 : decode cX6_areApart 25 = .ok (.iload 4, 2) := by decide +kernel
theorem dX6_areApart_27 : decode cX6_areApart 27 = .ok (.aload_n 0, 1) := by decide +kernel
theorem dX6_areApart_28 : decode cX6_areApart 28 = .ok (.getfield 23, 3) := by decide +kernel
theorem dX6_areApart_31 : decode cX6_areApart 31 = .ok (.if_icmp .ge 45, 3) := by decide +kernel
theorem dX6_areApart_34 : decode cX6_areApart 34 = .ok (.aload_n 0, 1) := by decide +kernel
theorem dX6_areApart_35 : decode cX6_areApart 35 = .ok (.iload_n 2, 1) := by decide +kernel
theorem dX6_areApart_36 : decode cX6_areApart 36 = .ok (.iload_n 3, 1) := by decide +kernel
theorem dX6_areApart_37 : decode cX6_areApart 37 = .ok (.invokevirtual 50, 3) := by decide +kernel
theorem dX6_areApart_40 : decode cX6_areApart 40 = .ok (.ifCond .eq 30, 3) := by decide +kernel
theorem dX6_areApart_43 : decode cX6_areApart 43 = .ok (.aload_n 0, 1) := by decide +kernel
theorem dX6_areApart_44 : decode cX6_areApart 44 = .ok (.iload 4, 2) := by decide +kernel
theorem dX6_areApart_46 : decode cX6_areApart 46 = .ok (.iload_n 3, 1) := by decide +kernel
theorem dX6_areApart_47 : decode cX6_areApart 47 = .ok (.invokevirtual 50, 3) := by decide +kernel
theorem dX6_areApart_50 : decode cX6_areApart 50 = .ok (.ifCond .eq 20, 3) := by decide +kernel
theorem dX6_areApart_53 : decode cX6_areApart 53 = .ok (.aload_n 0, 1) := by decide +kernel
theorem dX6_areApart_54 : decode cX6_areApart 54 = .ok (.iload_n 2, 1) := by decide +kernel
theorem dX6_areApart_55 : decode cX6_areApart 55 = .ok (.iload 4, 2) := by decide +kernel
theorem dX6_areApart_57 : decode cX6_areApart 57 = .ok (.aload_n 1, 1) := by decide +kernel
theorem dX6_areApart_58 : decode cX6_areApart 58 = .ok (.iload_n 3, 1) := by decide +kernel
theorem dX6_areApart_59 : decode cX6_areApart 59 = .ok (.invokevirtual 75, 3) := by decide +kernel
theorem dX6_areApart_62 : decode cX6_areApart 62 = .ok (.invokevirtual 118, 3) := by decide +kernel
theorem dX6_areApart_65 : decode cX6_areApart 65 = .ok (.ifCond .eq 5, 3) := by decide +kernel
theorem dX6_areApart_68 : decode cX6_areApart 68 = .ok (.iconst 0, 1) := by decide +kernel
theorem dX6_areApart_69 : decode cX6_areApart 69 = .ok (.ireturn, 1) := by decide +kernel
theorem dX6_areApart_70 : decode cX6_areApart 70 = .ok (.iinc 4 1, 3) := by decide +kernel
theorem dX6_areApart_73 : decode cX6_areApart 73 = .ok (.goto (-48), 3) := by decide +kernel
theorem dX6_areApart_76 : decode cX6_areApart 76 = .ok (.iinc 2 1, 3) := by decide +kernel
theorem dX6_areApart_79 : decode cX6_areApart 79 = .ok (.goto (-77), 3) := by decide +kernel
theorem dX6_areApart_82 : decode cX6_areApart 82 = .ok (.iconst 1, 1) := by decide +kernel
theorem dX6_areApart_83 : decode cX6_areApart 83 = .ok (.ireturn, 1) := by decide +kernel
theorem dX6_clash_0 : decode cX6_clash 0 = .ok (.aload_n 0, 1) := by decide +kernel
theorem dX6_clash_1 : decode cX6_clash 1 = .ok (.getfield 16, 3) := by decide +kernel
theorem dX6_clash_4 : decode cX6_clash 4 = .ok (.iload_n 1, 1) := by decide +kernel
theorem dX6_clash_5 : decode cX6_clash 5 = .ok (.bipush 11, 2) := by decide +kernel
theorem dX6_clash_7 : decode cX6_clash 7 = .ok (.invokevirtual 27, 3) := by decide +kernel
theorem dX6_clash_10 : decode cX6_clash 10 = .ok (.aload_n 0, 1) := by decide +kernel
theorem dX6_clash_11 : decode cX6_clash 11 = .ok (.getfield 16, 3) := by decide +kernel
theorem dX6_clash_14 : decode cX6_clash 14 = .ok (.iload_n 2, 1) := by decide +kernel
theorem dX6_clash_15 : decode cX6_clash 15 = .ok (.bipush 11, 2) := by decide +kernel
theorem dX6_clash_17 : decode cX6_clash 17 = .ok (.invokevirtual 27, 3) := by decide +kernel
theorem dX6_clash_20 : decode cX6_clash 20 = .ok (.if_icmp .ne 7, 3) := by decide +kernel
theorem dX6_clash_23 : decode cX6_clash 23 = .ok (.iconst 1, 1) := by decide +kernel
theorem dX6_clash_24 : decode cX6_clash 24 = .ok (.goto 4, 3) := by decide +kernel
theorem dX6_clash_27 : decode cX6_clash 27 = .ok (.iconst 0, 1) := by decide +kernel
theorem dX6_clash_28 : decode cX6_clash 28 = .ok (.istore 4, 2) := by decide +kernel
theorem dX6_clash_30 : decode cX6_clash 30 = .ok (.aload_n 0, 1) := by decide +kernel
theorem dX6_clash_31 : decode cX6_clash 31 = .ok (.getfield 16, 3) := by decide +kernel
theorem dX6_clash_34 : decode cX6_clash 34 = .ok (.iload_n 1, 1) := by decide +kernel
theorem dX6_clash_35 : decode cX6_clash 35 = .ok (.iconst 4, 1) := by decide +kernel
theorem dX6_clash_36 : decode cX6_clash 36 = .ok (.invokevirtual 27, 3) := by decide +kernel
theorem dX6_clash_39 : decode cX6_clash 39 = .ok (.aload_n 0, 1) := by decide +kernel
theorem dX6_clash_40 : decode cX6_clash 40 = .ok (.getfield 16, 3) := by decide +kernel
theorem dX6_clash_43 : decode cX6_clash 43 = .ok (.iload_n 2, 1) := by decide +kernel
theorem dX6_clash_44 : decode cX6_clash 44 = .ok (.iconst 4, 1) := by decide +kernel
theorem dX6_clash_45 : decode cX6_clash 45 = .ok (.invokevirtual 27, 3) := by decide +kernel
theorem dX6_clash_48 : decode cX6_clash 48 = .ok (.if_icmp .ne 7, 3) := by decide +kernel
theorem dX6_clash_51 : decode cX6_clash 51 = .ok (.iconst 1, 1) := by decide +kernel
theorem dX6_clash_52 : decode cX6_clash 52 = .ok (.goto 4, 3) := by decide +kernel
theorem dX6_clash_55 : decode cX6_clash 55 = .ok (.iconst 0, 1) := by decide +kernel
theorem dX6_clash_56 : decode cX6_clash 56 = .ok (.istore 5, 2) := by decide +kernel
theorem dX6_clash_58 : decode cX6_clash 58 = .ok (.iload 4, 2) := by decide +kernel
theorem dX6_clash_60 : decode cX6_clash 60 = .ok (.ifCond .eq 8, 3) := by decide +kernel
theorem dX6_clash_63 : decode cX6_clash 63 = .ok (.iload 5, 2) := by decide +kernel
theorem dX6_clash_65 : decode cX6_clash 65 = .ok (.goto 12, 3) := by decide +kernel
theorem dX6_clash_68 : decode cX6_clash 68 = .ok (.iload_n 3, 1) := by decide +kernel
theorem dX6_clash_69 : decode cX6_clash 69 = .ok (.ifCond .ne 7, 3) := by decide +kernel
theorem dX6_clash_72 : decode cX6_clash 72 = .ok (.iconst 1, 1) := by decide +kernel
theorem dX6_clash_73 : decode cX6_clash 73 = .ok (.goto 4, 3) := by decide +kernel
theorem dX6_clash_76 : decode cX6_clash 76 = .ok (.iconst 0, 1) := by decide +kernel
theorem dX6_clash_77 : decode cX6_clash 77 = .ok (.ireturn, 1) := by decide +kernel
