theorem dX2_init_0 : decode cX2_init 0 = .ok (.aload_n 0, 1) := by decide +kernel
theorem dX2_init_1 : decode cX2_init 1 = .ok (.invokespecial 9, 3) := by decide +kernel
theorem dX2_init_4 : decode cX2_init 4 = .ok (.aload_n 0, 1) := by decide +kernel
theorem dX2_init_5 : decode cX2_init 5 = .ok (.new 15, 3) := by decide +kernel
theorem dX2_init_8 : decode cX2_init 8 = .ok (.dup, 1) := by decide +kernel
theorem dX2_init_9 : decode cX2_init 9 = .ok (.bipush 54, 2) := by decide +kernel
theorem dX2_init_11 : decode cX2_init 11 = .ok (.bipush 7, 2) := by decide +kernel
theorem dX2_init_13 : decode cX2_init 13 = .ok (.invokespecial 17, 3) := by decide +kernel
theorem dX2_init_16 : decode cX2_init 16 = .ok (.putfield 20, 3) := by decide +kernel
theorem dX2_init_19 : decode cX2_init 19 = .ok (.aload_n 0, 1) := by decide +kernel
theorem dX2_init_20 : decode cX2_init 20 = .ok (.new 15, 3) := by decide +kernel
theorem dX2_init_23 : decode cX2_init 23 = .ok (.dup, 1) := by decide +kernel
theorem dX2_init_24 : decode cX2_init 24 = .ok (.bipush 54, 2) := by decide +kernel
theorem dX2_init_26 : decode cX2_init 26 = .ok (.bipush 14, 2) := by decide +kernel
theorem dX2_init_28 : decode cX2_init 28 = .ok (.invokespecial 17, 3) := by decide +kernel
theorem dX2_init_31 : decode cX2_init 31 = .ok (.putfield 26, 3) := by decide +kernel
theorem dX2_init_34 : decode cX2_init 34 = .ok (.aload_n 0, 1) := by decide +kernel
theorem dX2_init_35 : decode cX2_init 35 = .ok (.new 15, 3) := by decide +kernel
theorem dX2_init_38 : decode cX2_init 38 = .ok (.dup, 1) := by decide +kernel
theorem dX2_init_39 : decode cX2_init 39 = .ok (.bipush 54, 2) := by decide +kernel
theorem dX2_init_41 : decode cX2_init 41 = .ok (.bipush 14, 2) := by decide +kernel
theorem dX2_init_43 : decode cX2_init 43 = .ok (.invokespecial 17, 3) := by decide +kernel
theorem dX2_init_46 : decode cX2_init 46 = .ok (.putfield 29, 3) := by decide +kernel
theorem dX2_init_49 : decode cX2_init 49 = .ok (.aload_n 0, 1) := by decide +kernel
theorem dX2_init_50 : decode cX2_init 50 = .ok (.new 15, 3) := by decide +kernel
theorem dX2_init_53 : decode cX2_init 53 = .ok (.dup, 1) := by decide +kernel
theorem dX2_init_54 : decode cX2_init 54 = .ok (.bipush 54, 2) := by decide +kernel
theorem dX2_init_56 : decode cX2_init 56 = .ok (.bipush 14, 2) := by decide +kernel
theorem dX2_init_58 : decode cX2_init 58 = .ok (.invokespecial 17, 3) := by decide +kernel
theorem dX2_init_61 : decode cX2_init 61 = .ok (.putfield 32, 3) := by decide +kernel
theorem dX2_init_64 : decode cX2_init 64 = .ok (.aload_n 0, 1) := by decide +kernel
theorem dX2_init_65 : decode cX2_init 65 = .ok (.new 15, 3) := by decide +kernel
theorem dX2_init_68 : decode cX2_init 68 = .ok (.dup, 1) := by decide +kernel
theorem dX2_init_69 : decode cX2_init 69 = .ok (.bipush 14, 2) := by decide +kernel
theorem dX2_init_71 : decode cX2_init 71 = .ok (.iconst 3, 1) := by decide +kernel
theorem dX2_init_72 : decode cX2_init 72 = .ok (.invokespecial 17, 3) := by decide +kernel
theorem dX2_init_75 : decode cX2_init 75 = .ok (.putfield 35, 3) := by decide +kernel
theorem dX2_init_78 : decode cX2_init 78 = .ok (.iconst 0, 1) := by decide +kernel
theorem dX2_init_79 : decode cX2_init 79 = .ok (.istore_n 1, 1) := by decide +kernel
theorem dX2_init_80 : decode cX2_init 80 = .ok (.iload_n 1, 1) := by decide +kernel
theorem dX2_init_81 : decode cX2_init 81 = .ok (.bipush 54, 2) := by decide +kernel
theorem dX2_init_83 : decode cX2_init 83 = .ok (.if_icmp .ge 19, 3) := by decide +kernel
theorem dX2_init_86 : decode cX2_init 86 = .ok (.aload_n 0, 1) := by decide +kernel
theorem dX2_init_87 : decode cX2_init 87 = .ok (.getfield 20, 3) := by decide +kernel
theorem dX2_init_90 : decode cX2_init 90 = .ok (.iload_n 1, 1) := by decide +kernel
theorem dX2_init_91 : decode cX2_init 91 = .ok (.iconst 0, 1) := by decide +kernel
theorem dX2_init_92 : decode cX2_init 92 = .ok (.iconst (-1), 1) := by decide +kernel
theorem dX2_init_93 : decode cX2_init 93 = .ok (.invokevirtual 38, 3) := by decide +kernel
theorem dX2_init_96 : decode cX2_init 96 = .ok (.iinc 1 1, 3) := by decide +kernel
theorem dX2_init_99 : decode cX2_init 99 = .ok (.goto (-19), 3) := by decide +kernel
theorem dX2_init_102 : decode cX2_init 102 = .ok (.return_, 1) := by decide +kernel
theorem dX2_slotOf_0 : decode cX2_slotOf 0 = .ok (.iload_n 0, 1) := by decide +kernel
theorem dX2_slotOf_1 : decode cX2_slotOf 1 = .ok (.bipush 8, 2) := by decide +kernel
theorem dX2_slotOf_3 : decode cX2_slotOf 3 = .ok (.imul, 1) := by decide +kernel
theorem dX2_slotOf_4 : decode cX2_slotOf 4 = .ok (.iload_n 1, 1) := by decide +kernel
theorem dX2_slotOf_5 : decode cX2_slotOf 5 = .ok (.iadd, 1) := by decide +kernel
theorem dX2_slotOf_6 : decode cX2_slotOf 6 = .ok (.ireturn, 1) := by decide +kernel
theorem dX2_slotOfSupply_0 : decode cX2_slotOfSupply 0 = .ok (.bipush 48, 2) := by decide +kernel
theorem dX2_slotOfSupply_2 : decode cX2_slotOfSupply 2 = .ok (.iload_n 0, 1) := by decide +kernel
theorem dX2_slotOfSupply_3 : decode cX2_slotOfSupply 3 = .ok (.iadd, 1) := by decide +kernel
theorem dX2_slotOfSupply_4 : decode cX2_slotOfSupply 4 = .ok (.ireturn, 1) := by decide +kernel
theorem dX2_supplyOf_0 : decode cX2_supplyOf 0 = .ok (.iload_n 0, 1) := by decide +kernel
theorem dX2_supplyOf_1 : decode cX2_supplyOf 1 = .ok (.bipush 48, 2) := by decide +kernel
theorem dX2_supplyOf_3 : decode cX2_supplyOf 3 = .ok (.isub, 1) := by decide +kernel
theorem dX2_supplyOf_4 : decode cX2_supplyOf 4 = .ok (.ireturn, 1) := by decide +kernel
theorem dX2_copyFrom_0 : decode cX2_copyFrom 0 = .ok (.aload_n 0, 1) := by decide +kernel
theorem dX2_copyFrom_1 : decode cX2_copyFrom 1 = .ok (.getfield 20, 3) := by decide +kernel
theorem dX2_copyFrom_4 : decode cX2_copyFrom 4 = .ok (.aload_n 1, 1) := by decide +kernel
theorem dX2_copyFrom_5 : decode cX2_copyFrom 5 = .ok (.getfield 20, 3) := by decide +kernel
theorem dX2_copyFrom_8 : decode cX2_copyFrom 8 = .ok (.invokevirtual 42, 3) := by decide +kernel
theorem dX2_copyFrom_11 : decode cX2_copyFrom 11 = .ok (.aload_n 0, 1) := by decide +kernel
theorem dX2_copyFrom_12 : decode cX2_copyFrom 12 = .ok (.getfield 26, 3) := by decide +kernel
theorem dX2_copyFrom_15 : decode cX2_copyFrom 15 = .ok (.aload_n 1, 1) := by decide +kernel
theorem dX2_copyFrom_16 : decode cX2_copyFrom 16 = .ok (.getfield 26, 3) := by decide +kernel
theorem dX2_copyFrom_19 : decode cX2_copyFrom 19 = .ok (.invokevirtual 42, 3) := by decide +kernel
theorem dX2_copyFrom_22 : decode cX2_copyFrom 22 = .ok (.aload_n 0, 1) := by decide +kernel
theorem dX2_copyFrom_23 : decode cX2_copyFrom 23 = .ok (.getfield 29, 3) := by decide +kernel
theorem dX2_copyFrom_26 : decode cX2_copyFrom 26 = .ok (.aload_n 1, 1) := by decide +kernel
theorem dX2_copyFrom_27 : decode cX2_copyFrom 27 = .ok (.getfield 29, 3) := by decide +kernel
theorem dX2_copyFrom_30 : decode cX2_copyFrom 30 = .ok (.invokevirtual 42, 3) := by decide +kernel
theorem dX2_copyFrom_33 : decode cX2_copyFrom 33 = .ok (.aload_n 0, 1) := by decide +kernel
theorem dX2_copyFrom_34 : decode cX2_copyFrom 34 = .ok (.getfield 32, 3) := by decide +kernel
theorem dX2_copyFrom_37 : decode cX2_copyFrom 37 = .ok (.aload_n 1, 1) := by decide +kernel
theorem dX2_copyFrom_38 : decode cX2_copyFrom 38 = .ok (.getfield 32, 3) := by decide +kernel
theorem dX2_copyFrom_41 : decode cX2_copyFrom 41 = .ok (.invokevirtual 42, 3) := by decide +kernel
theorem dX2_copyFrom_44 : decode cX2_copyFrom 44 = .ok (.aload_n 0, 1) := by decide +kernel
theorem dX2_copyFrom_45 : decode cX2_copyFrom 45 = .ok (.getfield 35, 3) := by decide +kernel
theorem dX2_copyFrom_48 : decode cX2_copyFrom 48 = .ok (.aload_n 1, 1) := by decide +kernel
theorem dX2_copyFrom_49 : decode cX2_copyFrom 49 = .ok (.getfield 35, 3) := by decide +kernel
theorem dX2_copyFrom_52 : decode cX2_copyFrom 52 = .ok (.invokevirtual 42, 3) := by decide +kernel
theorem dX2_copyFrom_55 : decode cX2_copyFrom 55 = .ok (.return_, 1) := by decide +kernel
theorem dX2_get_0 : decode cX2_get 0 = .ok (.aload_n 0, 1) := by decide +kernel
theorem dX2_get_1 : decode cX2_get 1 = .ok (.getfield 20, 3) := by decide +kernel
theorem dX2_get_4 : decode cX2_get 4 = .ok (.iload_n 1, 1) := by decide +kernel
theorem dX2_get_5 : decode cX2_get 5 = .ok (.iload_n 2, 1) := by decide +kernel
theorem dX2_get_6 : decode cX2_get 6 = .ok (.invokevirtual 46, 3) := by decide +kernel
theorem dX2_get_9 : decode cX2_get 9 = .ok (.ireturn, 1) := by decide +kernel
theorem dX2_isKept_0 : decode cX2_isKept 0 = .ok (.aload_n 0, 1) := by decide +kernel
theorem dX2_isKept_1 : decode cX2_isKept 1 = .ok (.getfield 20, 3) := by decide +kernel
theorem dX2_isKept_4 : decode cX2_isKept 4 = .ok (.iload_n 1, 1) := by decide +kernel
theorem dX2_isKept_5 : decode cX2_isKept 5 = .ok (.iconst 0, 1) := by decide +kernel
theorem dX2_isKept_6 : decode cX2_isKept 6 = .ok (.invokevirtual 46, 3) := by decide +kernel
theorem dX2_isKept_9 : decode cX2_isKept 9 = .ok (.iconst (-1), 1) := by decide +kernel
theorem dX2_isKept_10 : decode cX2_isKept 10 = .ok (.if_icmp .eq 7, 3) := by decide +kernel
theorem dX2_isKept_13 : decode cX2_isKept 13 = .ok (.iconst 1, 1) := by decide +kernel
theorem dX2_isKept_14 : decode cX2_isKept 14 = .ok (.goto 4, 3) := by decide +kernel
theorem dX2_isKept_17 : decode cX2_isKept 17 = .ok (.iconst 0, 1) := by decide +kernel
theorem dX2_isKept_18 : decode cX2_isKept 18 = .ok (.ireturn, 1) := by decide +kernel
theorem dX2_arrivesOf_0 : decode cX2_arrivesOf 0 = .ok (.aload_n 0, 1) := by decide +kernel
theorem dX2_arrivesOf_1 : decode cX2_arrivesOf 1 = .ok (.getfield 20, 3) := by decide +kernel
theorem dX2_arrivesOf_4 : decode cX2_arrivesOf 4 = .ok (.iload_n 1, 1) := by decide +kernel
theorem dX2_arrivesOf_5 : decode cX2_arrivesOf 5 = .ok (.iconst 0, 1) := by decide +kernel
theorem dX2_arrivesOf_6 : decode cX2_arrivesOf 6 = .ok (.invokevirtual 46, 3) := by decide +kernel
theorem dX2_arrivesOf_9 : decode cX2_arrivesOf 9 = .ok (.aload_n 0, 1) := by decide +kernel
theorem dX2_arrivesOf_10 : decode cX2_arrivesOf 10 = .ok (.getfield 20, 3) := by decide +kernel
theorem dX2_arrivesOf_13 : decode cX2_arrivesOf 13 = .ok (.iload_n 1, 1) := by decide +kernel
theorem dX2_arrivesOf_14 : decode cX2_arrivesOf 14 = .ok (.iconst 5, 1) := by decide +kernel
theorem dX2_arrivesOf_15 : decode cX2_arrivesOf 15 = .ok (.invokevirtual 46, 3) := by decide +kernel
theorem dX2_arrivesOf_18 : decode cX2_arrivesOf 18 = .ok (.iadd, 1) := by decide +kernel
theorem dX2_arrivesOf_19 : decode cX2_arrivesOf 19 = .ok (.ireturn, 1) := by decide +kernel
theorem dX2_takeOut_0 : decode cX2_takeOut 0 = .ok (.aload_n 0, 1) := by decide +kernel
theorem dX2_takeOut_1 : decode cX2_takeOut 1 = .ok (.iload_n 1, 1) := by decide +kernel
theorem dX2_takeOut_2 : decode cX2_takeOut 2 = .ok (.invokevirtual 50, 3) := by decide +kernel
theorem dX2_takeOut_5 : decode cX2_takeOut 5 = .ok (.istore_n 2, 1) := by decide +kernel
theorem dX2_takeOut_6 : decode cX2_takeOut 6 = .ok (.aload_n 0, 1) := by decide +kernel
theorem dX2_takeOut_7 : decode cX2_takeOut 7 = .ok (.getfield 20, 3) := by decide +kernel
theorem dX2_takeOut_10 : decode cX2_takeOut 10 = .ok (.iload_n 1, 1) := by decide +kernel
theorem dX2_takeOut_11 : decode cX2_takeOut 11 = .ok (.iconst 0, 1) := by decide +kernel
theorem dX2_takeOut_12 : decode cX2_takeOut 12 = .ok (.iconst (-1), 1) := by decide +kernel
theorem dX2_takeOut_13 : decode cX2_takeOut 13 = .ok (.invokevirtual 38, 3) := by decide +kernel
theorem dX2_takeOut_16 : decode cX2_takeOut 16 = .ok (.iload_n 2, 1) := by decide +kernel
theorem dX2_takeOut_17 : decode cX2_takeOut 17 = .ok (.ireturn, 1) := by decide +kernel
theorem dX2_countKept_0 : decode cX2_countKept 0 = .ok (.iconst 0, 1) := by decide +kernel
theorem dX2_countKept_1 : decode cX2_countKept 1 = .ok (.istore_n 1, 1) := by decide +kernel
theorem dX2_countKept_2 : decode cX2_countKept 2 = .ok (.iconst 0, 1) := by decide +kernel
theorem dX2_countKept_3 : decode cX2_countKept 3 = .ok (.istore_n 2, 1) := by decide +kernel
theorem dX2_countKept_4 : decode cX2_countKept 4 = .ok (.iload_n 2, 1) := by decide +kernel
theorem dX2_countKept_5 : decode cX2_countKept 5 = .ok (.bipush 54, 2) := by decide +kernel
theorem dX2_countKept_7 : decode cX2_countKept 7 = .ok (.if_icmp .ge 25, 3) := by decide +kernel
theorem dX2_countKept_10 : decode cX2_countKept 10 = .ok (.iload_n 1, 1) := by decide +kernel
theorem dX2_countKept_11 : decode cX2_countKept 11 = .ok (.aload_n 0, 1) := by decide +kernel
theorem dX2_countKept_12 : decode cX2_countKept 12 = .ok (.iload_n 2, 1) := by decide +kernel
theorem dX2_countKept_13 : decode cX2_countKept 13 = .ok (.invokevirtual 50, 3) := by decide +kernel
theorem dX2_countKept_16 : decode cX2_countKept 16 = .ok (.ifCond .eq 7, 3) := by decide +kernel
theorem dX2_countKept_19 : decode cX2_countKept 19 = .ok (.iconst 1, 1) := by decide +kernel
theorem dX2_countKept_20 : decode cX2_countKept 20 = .ok (.goto 4, 3) := by decide +kernel
theorem dX2_countKept_23 : decode cX2_countKept 23 = .ok (.iconst 0, 1) := by decide +kernel
theorem dX2_countKept_24 : decode cX2_countKept 24 = .ok (.iadd, 1) := by decide +kernel
theorem dX2_countKept_25 : decode cX2_countKept 25 = .ok (.istore_n 1, 1) := by decide +kernel
theorem dX2_countKept_26 : decode cX2_countKept 26 = .ok (.iinc 2 1, 3) := by decide +kernel
theorem dX2_countKept_29 : decode cX2_countKept 29 = .ok (.goto (-25), 3) := by decide +kernel
theorem dX2_countKept_32 : decode cX2_countKept 32 = .ok (.iload_n 1, 1) := by decide +kernel
theorem dX2_countKept_33 : decode cX2_countKept 33 = .ok (.ireturn, 1) := by decide +kernel
theorem dX2_hasFor_0 : decode cX2_hasFor 0 = .ok (.iconst 0, 1) := by decide +kernel
theorem dX2_hasFor_1 : decode cX2_hasFor 1 = .ok (.istore_n 2, 1) := by decide +kernel
theorem dX2_hasFor_2 : decode cX2_hasFor 2 = .ok (.iload_n 2, 1) := by decide +kernel
theorem dX2_hasFor_3 : decode cX2_hasFor 3 = .ok (.bipush 54, 2) := by decide +kernel
theorem dX2_hasFor_5 : decode cX2_hasFor 5 = .ok (.if_icmp .ge 32, 3) := by decide +kernel
theorem dX2_hasFor_8 : decode cX2_hasFor 8 = .ok (.aload_n 0, 1) := by decide +kernel
theorem dX2_hasFor_9 : decode cX2_hasFor 9 = .ok (.iload_n 2, 1) := by decide +kernel
theorem dX2_hasFor_10 : decode cX2_hasFor 10 = .ok (.invokevirtual 50, 3) := by decide +kernel
theorem dX2_hasFor_13 : decode cX2_hasFor 13 = .ok (.ifCond .eq 18, 3) := by decide +kernel
theorem dX2_hasFor_16 : decode cX2_hasFor 16 = .ok (.aload_n 0, 1) := by decide +kernel
theorem dX2_hasFor_17 : decode cX2_hasFor 17 = .ok (.getfield 20, 3) := by decide +kernel
theorem dX2_hasFor_20 : decode cX2_hasFor 20 = .ok (.iload_n 2, 1) := by decide +kernel
theorem dX2_hasFor_21 : decode cX2_hasFor 21 = .ok (.iconst 2, 1) := by decide +kernel
theorem dX2_hasFor_22 : decode cX2_hasFor 22 = .ok (.invokevirtual 46, 3) := by decide +kernel
theorem dX2_hasFor_25 : decode cX2_hasFor 25 = .ok (.iload_n 1, 1) := by decide +kernel
theorem dX2_hasFor_26 : decode cX2_hasFor 26 = .ok (.if_icmp .ne 5, 3) := by decide +kernel
theorem dX2_hasFor_29 : decode cX2_hasFor 29 = .ok (.iconst 1, 1) := by decide +kernel
theorem dX2_hasFor_30 : decode cX2_hasFor 30 = .ok (.ireturn, 1) := by decide +kernel
theorem dX2_hasFor_31 : decode cX2_hasFor 31 = .ok (.iinc 2 1, 3) := by decide +kernel
theorem dX2_hasFor_34 : decode cX2_hasFor 34 = .ok (.goto (-32), 3) := by decide +kernel
theorem dX2_hasFor_37 : decode cX2_hasFor 37 = .ok (.iconst 0, 1) := by decide +kernel
theorem dX2_hasFor_38 : decode cX2_hasFor 38 = .ok (.ireturn, 1) := by decide +kernel
theorem dX2_isDueAt_0 : decode cX2_isDueAt 0 = .ok (.aload_n 0, 1) := by decide +kernel
theorem dX2_isDueAt_1 : decode cX2_isDueAt 1 = .ok (.iload_n 1, 1) := by decide +kernel
theorem dX2_isDueAt_2 : decode cX2_isDueAt 2 = .ok (.invokevirtual 50, 3) := by decide +kernel
theorem dX2_isDueAt_5 : decode cX2_isDueAt 5 = .ok (.ifCond .eq 41, 3) := by decide +kernel
theorem dX2_isDueAt_8 : decode cX2_isDueAt 8 = .ok (.aload_n 0, 1) := by decide +kernel
theorem dX2_isDueAt_9 : decode cX2_isDueAt 9 = .ok (.getfield 20, 3) := by decide +kernel
theorem dX2_isDueAt_12 : decode cX2_isDueAt 12 = .ok (.iload_n 1, 1) := by decide +kernel
theorem dX2_isDueAt_13 : decode cX2_isDueAt 13 = .ok (.iconst 2, 1) := by decide +kernel
theorem dX2_isDueAt_14 : decode cX2_isDueAt 14 = .ok (.invokevirtual 46, 3) := by decide +kernel
theorem dX2_isDueAt_17 : decode cX2_isDueAt 17 = .ok (.iload_n 2, 1) := by decide +kernel
theorem dX2_isDueAt_18 : decode cX2_isDueAt 18 = .ok (.if_icmp .ne 28, 3) := by decide +kernel
theorem dX2_isDueAt_21 : decode cX2_isDueAt 21 = .ok (.aload_n 0, 1) := by decide +kernel
theorem dX2_isDueAt_22 : decode cX2_isDueAt 22 = .ok (.iload_n 1, 1) := by decide +kernel
theorem dX2_isDueAt_23 : decode cX2_isDueAt 23 = .ok (.invokevirtual 54, 3) := by decide +kernel
theorem dX2_isDueAt_26 : decode cX2_isDueAt 26 = .ok (.iconst 1, 1) := by decide +kernel
theorem dX2_isDueAt_27 : decode cX2_isDueAt 27 = .ok (.iadd, 1) := by decide +kernel
theorem dX2_isDueAt_28 : decode cX2_isDueAt 28 = .ok (.aload_n 0, 1) := by decide +kernel
theorem dX2_isDueAt_29 : decode cX2_isDueAt 29 = .ok (.getfield 20, 3) := by decide +kernel
theorem dX2_isDueAt_32 : decode cX2_isDueAt 32 = .ok (.iload_n 1, 1) := by decide +kernel
theorem dX2_isDueAt_33 : decode cX2_isDueAt 33 = .ok (.iconst 4, 1) := by decide +kernel
theorem dX2_isDueAt_34 : decode cX2_isDueAt 34 = .ok (.invokevirtual 46, 3) := by decide +kernel
theorem dX2_isDueAt_37 : decode cX2_isDueAt 37 = .ok (.iadd, 1) := by decide +kernel
theorem dX2_isDueAt_38 : decode cX2_isDueAt 38 = .ok (.iload_n 3, 1) := by decide +kernel
theorem dX2_isDueAt_39 : decode cX2_isDueAt 39 = .ok (.if_icmp .gt 7, 3) := by decide +kernel
theorem dX2_isDueAt_42 : decode cX2_isDueAt 42 = .ok (.iconst 1, 1) := by decide +kernel
theorem dX2_isDueAt_43 : decode cX2_isDueAt 43 = .ok (.goto 4, 3) := by decide +kernel
theorem dX2_isDueAt_46 : decode cX2_isDueAt 46 = .ok (.iconst 0, 1) := by decide +kernel
theorem dX2_isDueAt_47 : decode cX2_isDueAt 47 = .ok (.ireturn, 1) := by decide +kernel
theorem dX2_describe_0 : decode cX2_describe 0 = .ok (.aload_n 0, 1) := by decide +kernel
theorem dX2_describe_1 : decode cX2_describe 1 = .ok (.getfield 20, 3) := by decide +kernel
theorem dX2_describe_4 : decode cX2_describe 4 = .ok (.iload_n 1, 1) := by decide +kernel
theorem dX2_describe_5 : decode cX2_describe 5 = .ok (.iconst 2, 1) := by decide +kernel
theorem dX2_describe_6 : decode cX2_describe 6 = .ok (.iload_n 2, 1) := by decide +kernel
theorem dX2_describe_7 : decode cX2_describe 7 = .ok (.invokevirtual 38, 3) := by decide +kernel
theorem dX2_describe_10 : decode cX2_describe 10 = .ok (.aload_n 0, 1) := by decide +kernel
theorem dX2_describe_11 : decode cX2_describe 11 = .ok (.getfield 20, 3) := by decide +kernel
theorem dX2_describe_14 : decode cX2_describe 14 = .ok (.iload_n 1, 1) := by decide +kernel
theorem dX2_describe_15 : decode cX2_describe 15 = .ok (.iconst 3, 1) := by decide +kernel
theorem dX2_describe_16 : decode cX2_describe 16 = .ok (.iload_n 3, 1) := by decide +kernel
theorem dX2_describe_17 : decode cX2_describe 17 = .ok (.invokevirtual 38, 3) := by decide +kernel
theorem dX2_describe_20 : decode cX2_describe 20 = .ok (.aload_n 0, 1) := by decide +kernel
theorem dX2_describe_21 : decode cX2_describe 21 = .ok (.getfield 20, 3) := by decide +kernel
theorem dX2_describe_24 : decode cX2_describe 24 = .ok (.iload_n 1, 1) := by decide +kernel
theorem dX2_describe_25 : decode cX2_describe 25 = .ok (.iconst 4, 1) := by decide +kernel
theorem dX2_describe_26 : decode cX2_describe 26 = .ok (.iload 4, 2) := by decide +kernel
theorem dX2_describe_28 : decode cX2_describe 28 = .ok (.invokevirtual 38, 3) := by decide +kernel
theorem dX2_describe_31 : decode cX2_describe 31 = .ok (.return_, 1) := by decide +kernel
theorem dX2_lay_0 : decode cX2_lay 0 = .ok (.aload_n 0, 1) := by decide +kernel
theorem dX2_lay_1 : decode cX2_lay 1 = .ok (.getfield 20, 3) := by decide +kernel
theorem dX2_lay_4 : decode cX2_lay 4 = .ok (.iload_n 1, 1) := by decide +kernel
theorem dX2_lay_5 : decode cX2_lay 5 = .ok (.iconst 3, 1) := by decide +kernel
theorem dX2_lay_6 : decode cX2_lay 6 = .ok (.invokevirtual 46, 3) := by decide +kernel
theorem dX2_lay_9 : decode cX2_lay 9 = .ok (.istore 4, 2) := by decide +kernel
theorem dX2_lay_11 : decode cX2_lay 11 = .ok (.iload 4, 2) := by decide +kernel
theorem dX2_lay_13 : decode cX2_lay 13 = .ok (.iconst (-1), 1) := by decide +kernel
theorem dX2_lay_14 : decode cX2_lay 14 = .ok (.if_icmp .eq 14, 3) := by decide +kernel
theorem dX2_lay_17 : decode cX2_lay 17 = .ok (.aload_n 3, 1) := by decide +kernel
theorem dX2_lay_18 : decode cX2_lay 18 = .ok (.iload_n 2, 1) := by decide +kernel
theorem dX2_lay_19 : decode cX2_lay 19 = .ok (.iload 4, 2) := by decide +kernel
theorem dX2_lay_21 : decode cX2_lay 21 = .ok (.invokevirtual 58, 3) := by decide +kernel
theorem dX2_lay_24 : decode cX2_lay 24 = .ok (.iconst (-1), 1) := by decide +kernel
theorem dX2_lay_25 : decode cX2_lay 25 = .ok (.if_icmp .ne 5, 3) := by decide +kernel
theorem dX2_lay_28 : decode cX2_lay 28 = .ok (.iconst 0, 1) := by decide +kernel
theorem dX2_lay_29 : decode cX2_lay 29 = .ok (.ireturn, 1) := by decide +kernel
theorem dX2_lay_30 : decode cX2_lay 30 = .ok (.iconst 0, 1) := by decide +kernel
theorem dX2_lay_31 : decode cX2_lay 31 = .ok (.istore 5, 2) := by decide +kernel
theorem dX2_lay_33 : decode cX2_lay 33 = .ok (.iload 5, 2) := by decide +kernel
theorem dX2_lay_35 : decode cX2_lay 35 = .ok (.bipush 14, 2) := by decide +kernel
theorem dX2_lay_37 : decode cX2_lay 37 = .ok (.if_icmp .ge 20, 3) := by decide +kernel
theorem dX2_lay_40 : decode cX2_lay 40 = .ok (.aload_n 0, 1) := by decide +kernel
theorem dX2_lay_41 : decode cX2_lay 41 = .ok (.getfield 29, 3) := by decide +kernel
theorem dX2_lay_44 : decode cX2_lay 44 = .ok (.iload_n 1, 1) := by decide +kernel
theorem dX2_lay_45 : decode cX2_lay 45 = .ok (.iload 5, 2) := by decide +kernel
theorem dX2_lay_47 : decode cX2_lay 47 = .ok (.iconst (-1), 1) := by decide +kernel
theorem dX2_lay_48 : decode cX2_lay 48 = .ok (.invokevirtual 38, 3) := by decide +kernel
theorem dX2_lay_51 : decode cX2_lay 51 = .ok (.iinc 5 1, 3) := by decide +kernel
theorem dX2_lay_54 : decode cX2_lay 54 = .ok (.goto (-21), 3) := by decide +kernel
theorem dX2_lay_57 : decode cX2_lay 57 = .ok (.aload_n 3, 1) := by decide +kernel
theorem dX2_lay_58 : decode cX2_lay 58 = .ok (.iload_n 2, 1) := by decide +kernel
theorem dX2_lay_59 : decode cX2_lay 59 = .ok (.iload 4, 2) := by decide +kernel
theorem dX2_lay_61 : decode cX2_lay 61 = .ok (.invokevirtual 61, 3) := by decide +kernel
theorem dX2_lay_64 : decode cX2_lay 64 = .ok (.istore 5, 2) := by decide +kernel
theorem dX2_lay_66 : decode cX2_lay 66 = .ok (.iload_n 2, 1) := by decide +kernel
theorem dX2_lay_67 : decode cX2_lay 67 = .ok (.istore 6, 2) := by decide +kernel
theorem dX2_lay_69 : decode cX2_lay 69 = .ok (.iconst 0, 1) := by decide +kernel
theorem dX2_lay_70 : decode cX2_lay 70 = .ok (.istore 7, 2) := by decide +kernel
theorem dX2_lay_72 : decode cX2_lay 72 = .ok (.iconst 0, 1) := by decide +kernel
theorem dX2_lay_73 : decode cX2_lay 73 = .ok (.istore 8, 2) := by decide +kernel
theorem dX2_lay_75 : decode cX2_lay 75 = .ok (.iload 8, 2) := by decide +kernel
theorem dX2_lay_77 : decode cX2_lay 77 = .ok (.iload 5, 2) := by decide +kernel
theorem dX2_lay_79 : decode cX2_lay 79 = .ok (.if_icmp .ge 127, 3) := by decide +kernel
theorem dX2_lay_82 : decode cX2_lay 82 = .ok (.aload_n 3, 1) := by decide +kernel
theorem dX2_lay_83 : decode cX2_lay 83 = .ok (.iload 6, 2) := by decide +kernel
theorem dX2_lay_85 : decode cX2_lay 85 = .ok (.iload 4, 2) := by decide +kernel
theorem dX2_lay_87 : decode cX2_lay 87 = .ok (.invokevirtual 64, 3) := by decide +kernel
theorem dX2_lay_90 : decode cX2_lay 90 = .ok (.istore 9, 2) := by decide +kernel
theorem dX2_lay_92 : decode cX2_lay 92 = .ok (.aload_n 3, 1) := by decide +kernel
theorem dX2_lay_93 : decode cX2_lay 93 = .ok (.iload 9, 2) := by decide +kernel
theorem dX2_lay_95 : decode cX2_lay 95 = .ok (.iconst 0, 1) := by decide +kernel
theorem dX2_lay_96 : decode cX2_lay 96 = .ok (.invokevirtual 67, 3) := by decide +kernel
theorem dX2_lay_99 : decode cX2_lay 99 = .ok (.iload 6, 2) := by decide +kernel
theorem dX2_lay_101 : decode cX2_lay 101 = .ok (.if_icmp .ne 7, 3) := by decide +kernel
theorem dX2_lay_104 : decode cX2_lay 104 = .ok (.iconst 1, 1) := by decide +kernel
theorem dX2_lay_105 : decode cX2_lay 105 = .ok (.goto 4, 3) := by decide +kernel
theorem dX2_lay_108 : decode cX2_lay 108 = .ok (.iconst 0, 1) := by decide +kernel
theorem dX2_lay_109 : decode cX2_lay 109 = .ok (.istore 10, 2) := by decide +kernel
theorem dX2_lay_111 : decode cX2_lay 111 = .ok (.iload 7, 2) := by decide +kernel
theorem dX2_lay_113 : decode cX2_lay 113 = .ok (.iload 8, 2) := by decide +kernel
theorem dX2_lay_115 : decode cX2_lay 115 = .ok (.ifCond .ne 7, 3) := by decide +kernel
theorem dX2_lay_118 : decode cX2_lay 118 = .ok (.iconst 0, 1) := by decide +kernel
theorem dX2_lay_119 : decode cX2_lay 119 = .ok (.goto 4, 3) := by decide +kernel
theorem dX2_lay_122 : decode cX2_lay 122 = .ok (.iconst 1, 1) := by decide +kernel
theorem dX2_lay_123 : decode cX2_lay 123 = .ok (.iadd, 1) := by decide +kernel
theorem dX2_lay_124 : decode cX2_lay 124 = .ok (.istore 7, 2) := by decide +kernel
theorem dX2_lay_126 : decode cX2_lay 126 = .ok (.aload_n 0, 1) := by decide +kernel
theorem dX2_lay_127 : decode cX2_lay 127 = .ok (.getfield 26, 3) := by decide +kernel
theorem dX2_lay_130 : decode cX2_lay 130 = .ok (.iload_n 1, 1) := by decide +kernel
theorem dX2_lay_131 : decode cX2_lay 131 = .ok (.iload 8, 2) := by decide +kernel
theorem dX2_lay_133 : decode cX2_lay 133 = .ok (.iload 9, 2) := by decide +kernel
theorem dX2_lay_135 : decode cX2_lay 135 = .ok (.invokevirtual 38, 3) := by decide +kernel
theorem dX2_lay_138 : decode cX2_lay 138 = .ok (.aload_n 0, 1) := by decide +kernel
theorem dX2_lay_139 : decode cX2_lay 139 = .ok (.getfield 29, 3) := by decide +kernel
theorem dX2_lay_142 : decode cX2_lay 142 = .ok (.iload_n 1, 1) := by decide +kernel
theorem dX2_lay_143 : decode cX2_lay 143 = .ok (.iload 9, 2) := by decide +kernel
theorem dX2_lay_145 : decode cX2_lay 145 = .ok (.iload 7, 2) := by decide +kernel
theorem dX2_lay_147 : decode cX2_lay 147 = .ok (.invokevirtual 38, 3) := by decide +kernel
theorem dX2_lay_150 : decode cX2_lay 150 = .ok (.aload_n 0, 1) := by decide +kernel
theorem dX2_lay_151 : decode cX2_lay 151 = .ok (.getfield 32, 3) := by decide +kernel
theorem dX2_lay_154 : decode cX2_lay 154 = .ok (.iload_n 1, 1) := by decide +kernel
theorem dX2_lay_155 : decode cX2_lay 155 = .ok (.iload 9, 2) := by decide +kernel
theorem dX2_lay_157 : decode cX2_lay 157 = .ok (.iload 10, 2) := by decide +kernel
theorem dX2_lay_159 : decode cX2_lay 159 = .ok (.ifCond .eq 7, 3) := by decide +kernel
theorem dX2_lay_162 : decode cX2_lay 162 = .ok (.iconst 1, 1) := by decide +kernel
theorem dX2_lay_163 : decode cX2_lay 163 = .ok (.goto 4, 3) := by decide +kernel
theorem dX2_lay_166 : decode cX2_lay 166 = .ok (.iconst 0, 1) := by decide +kernel
theorem dX2_lay_167 : decode cX2_lay 167 = .ok (.invokevirtual 38, 3) := by decide +kernel
theorem dX2_lay_170 : decode cX2_lay 170 = .ok (.aload_n 0, 1) := by decide +kernel
theorem dX2_lay_171 : decode cX2_lay 171 = .ok (.iload 9, 2) := by decide +kernel
theorem dX2_lay_173 : decode cX2_lay 173 = .ok (.aload_n 3, 1) := by decide +kernel
theorem dX2_lay_174 : decode cX2_lay 174 = .ok (.invokevirtual 70, 3) := by decide +kernel
theorem dX2_lay_177 : decode cX2_lay 177 = .ok (.iload 7, 2) := by decide +kernel
theorem dX2_lay_179 : decode cX2_lay 179 = .ok (.aload_n 3, 1) := by decide +kernel
theorem dX2_lay_180 : decode cX2_lay 180 = .ok (.iload 9, 2) := by decide +kernel
theorem dX2_lay_182 : decode cX2_lay 182 = .ok (.bipush 7, 2) := by decide +kernel
theorem dX2_lay_184 : decode cX2_lay 184 = .ok (.invokevirtual 67, 3) := by decide +kernel
theorem dX2_lay_187 : decode cX2_lay 187 = .ok (.iadd, 1) := by decide +kernel
theorem dX2_lay_188 : decode cX2_lay 188 = .ok (.istore 7, 2) := by decide +kernel
theorem dX2_lay_190 : decode cX2_lay 190 = .ok (.aload_n 3, 1) := by decide +kernel
theorem dX2_lay_191 : decode cX2_lay 191 = .ok (.iload 9, 2) := by decide +kernel
theorem dX2_lay_193 : decode cX2_lay 193 = .ok (.iload 10, 2) := by decide +kernel
theorem dX2_lay_195 : decode cX2_lay 195 = .ok (.invokevirtual 74, 3) := by decide +kernel
theorem dX2_lay_198 : decode cX2_lay 198 = .ok (.istore 6, 2) := by decide +kernel
theorem dX2_lay_200 : decode cX2_lay 200 = .ok (.iinc 8 1, 3) := by decide +kernel
theorem dX2_lay_203 : decode cX2_lay 203 = .ok (.goto (-128), 3) := by decide +kernel
theorem dX2_lay_206 : decode cX2_lay 206 = .ok (.aload_n 0, 1) := by decide +kernel
theorem dX2_lay_207 : decode cX2_lay 207 = .ok (.getfield 20, 3) := by decide +kernel
theorem dX2_lay_210 : decode cX2_lay 210 = .ok (.iload_n 1, 1) := by decide +kernel
theorem dX2_lay_211 : decode cX2_lay 211 = .ok (.iconst 1, 1) := by decide +kernel
theorem dX2_lay_212 : decode cX2_lay 212 = .ok (.iload 5, 2) := by decide +kernel
theorem dX2_lay_214 : decode cX2_lay 214 = .ok (.invokevirtual 38, 3) := by decide +kernel
theorem dX2_lay_217 : decode cX2_lay 217 = .ok (.aload_n 0, 1) := by decide +kernel
theorem dX2_lay_218 : decode cX2_lay 218 = .ok (.getfield 20, 3) := by decide +kernel
theorem dX2_lay_221 : decode cX2_lay 221 = .ok (.iload_n 1, 1) := by decide +kernel
theorem dX2_lay_222 : decode cX2_lay 222 = .ok (.iconst 5, 1) := by decide +kernel
theorem dX2_lay_223 : decode cX2_lay 223 = .ok (.iload 7, 2) := by decide +kernel
theorem dX2_lay_225 : decode cX2_lay 225 = .ok (.invokevirtual 38, 3) := by decide +kernel
theorem dX2_lay_228 : decode cX2_lay 228 = .ok (.aload_n 0, 1) := by decide +kernel
theorem dX2_lay_229 : decode cX2_lay 229 = .ok (.getfield 20, 3) := by decide +kernel
theorem dX2_lay_232 : decode cX2_lay 232 = .ok (.iload_n 1, 1) := by decide +kernel
theorem dX2_lay_233 : decode cX2_lay 233 = .ok (.bipush 6, 2) := by decide +kernel
theorem dX2_lay_235 : decode cX2_lay 235 = .ok (.aload_n 3, 1) := by decide +kernel
theorem dX2_lay_236 : decode cX2_lay 236 = .ok (.iload 4, 2) := by decide +kernel
theorem dX2_lay_238 : decode cX2_lay 238 = .ok (.iconst 0, 1) := by decide +kernel
theorem dX2_lay_239 : decode cX2_lay 239 = .ok (.invokevirtual 78, 3) := by decide +kernel
theorem dX2_lay_242 : decode cX2_lay 242 = .ok (.invokevirtual 38, 3) := by decide +kernel
theorem dX2_lay_245 : decode cX2_lay 245 = .ok (.iconst 1, 1) := by decide +kernel
theorem dX2_lay_246 : decode cX2_lay 246 = .ok (.ireturn, 1) := by decide +kernel
theorem dX2_noteTrack_0 : decode cX2_noteTrack 0 = .ok (.aload_n 0, 1) := by decide +kernel
theorem dX2_noteTrack_1 : decode cX2_noteTrack 1 = .ok (.getfield 35, 3) := by decide +kernel
theorem dX2_noteTrack_4 : decode cX2_noteTrack 4 = .ok (.iload_n 1, 1) := by decide +kernel
theorem dX2_noteTrack_5 : decode cX2_noteTrack 5 = .ok (.iconst 0, 1) := by decide +kernel
theorem dX2_noteTrack_6 : decode cX2_noteTrack 6 = .ok (.aload_n 2, 1) := by decide +kernel
theorem dX2_noteTrack_7 : decode cX2_noteTrack 7 = .ok (.iload_n 1, 1) := by decide +kernel
theorem dX2_noteTrack_8 : decode cX2_noteTrack 8 = .ok (.iconst 3, 1) := by decide +kernel
theorem dX2_noteTrack_9 : decode cX2_noteTrack 9 = .ok (.invokevirtual 67, 3) := by decide +kernel
theorem dX2_noteTrack_12 : decode cX2_noteTrack 12 = .ok (.invokevirtual 38, 3) := by decide +kernel
theorem dX2_noteTrack_15 : decode cX2_noteTrack 15 = .ok (.aload_n 0, 1) := by decide +kernel
theorem dX2_noteTrack_16 : decode cX2_noteTrack 16 = .ok (.getfield 35, 3) := by decide +kernel
theorem dX2_noteTrack_19 : decode cX2_noteTrack 19 = .ok (.iload_n 1, 1) := by decide +kernel
theorem dX2_noteTrack_20 : decode cX2_noteTrack 20 = .ok (.iconst 1, 1) := by decide +kernel
theorem dX2_noteTrack_21 : decode cX2_noteTrack 21 = .ok (.aload_n 2, 1) := by decide +kernel
theorem dX2_noteTrack_22 : decode cX2_noteTrack 22 = .ok (.iload_n 1, 1) := by decide +kernel
theorem dX2_noteTrack_23 : decode cX2_noteTrack 23 = .ok (.bipush 7, 2) := by decide +kernel
theorem dX2_noteTrack_25 : decode cX2_noteTrack 25 = .ok (.invokevirtual 67, 3) := by decide +kernel
theorem dX2_noteTrack_28 : decode cX2_noteTrack 28 = .ok (.invokevirtual 38, 3) := by decide +kernel
theorem dX2_noteTrack_31 : decode cX2_noteTrack 31 = .ok (.aload_n 0, 1) := by decide +kernel
theorem dX2_noteTrack_32 : decode cX2_noteTrack 32 = .ok (.getfield 35, 3) := by decide +kernel
theorem dX2_noteTrack_35 : decode cX2_noteTrack 35 = .ok (.iload_n 1, 1) := by decide +kernel
theorem dX2_noteTrack_36 : decode cX2_noteTrack 36 = .ok (.iconst 2, 1) := by decide +kernel
theorem dX2_noteTrack_37 : decode cX2_noteTrack 37 = .ok (.aload_n 2, 1) := by decide +kernel
theorem dX2_noteTrack_38 : decode cX2_noteTrack 38 = .ok (.iload_n 1, 1) := by decide +kernel
theorem dX2_noteTrack_39 : decode cX2_noteTrack 39 = .ok (.invokevirtual 81, 3) := by decide +kernel
theorem dX2_noteTrack_42 : decode cX2_noteTrack 42 = .ok (.ifCond .eq 7, 3) := by decide +kernel
theorem dX2_noteTrack_45 : decode cX2_noteTrack 45 = .ok (.iconst 1, 1) := by decide +kernel
theorem dX2_noteTrack_46 : decode cX2_noteTrack 46 = .ok (.goto 4, 3) := by decide +kernel
theorem dX2_noteTrack_49 : decode cX2_noteTrack 49 = .ok (.iconst 0, 1) := by decide +kernel
theorem dX2_noteTrack_50 : decode cX2_noteTrack 50 = .ok (.invokevirtual 38, 3) := by decide +kernel
theorem dX2_noteTrack_53 : decode cX2_noteTrack 53 = .ok (.return_, 1) := by decide +kernel
theorem dX2_findStart_0 : decode cX2_findStart 0 = .ok (.iload_n 2, 1) := by decide +kernel
theorem dX2_findStart_1 : decode cX2_findStart 1 = .ok (.istore 4, 2) := by decide +kernel
theorem dX2_findStart_3 : decode cX2_findStart 3 = .ok (.iload 4, 2) := by decide +kernel
theorem dX2_findStart_5 : decode cX2_findStart 5 = .ok (.iload_n 3, 1) := by decide +kernel
theorem dX2_findStart_6 : decode cX2_findStart 6 = .ok (.iconst 1, 1) := by decide +kernel
theorem dX2_findStart_7 : decode cX2_findStart 7 = .ok (.iadd, 1) := by decide +kernel
theorem dX2_findStart_8 : decode cX2_findStart 8 = .ok (.if_icmp .ge 40, 3) := by decide +kernel
theorem dX2_findStart_11 : decode cX2_findStart 11 = .ok (.aload_n 0, 1) := by decide +kernel
theorem dX2_findStart_12 : decode cX2_findStart 12 = .ok (.getfield 20, 3) := by decide +kernel
theorem dX2_findStart_15 : decode cX2_findStart 15 = .ok (.iload_n 1, 1) := by decide +kernel
theorem dX2_findStart_16 : decode cX2_findStart 16 = .ok (.iconst 0, 1) := by decide +kernel
theorem dX2_findStart_17 : decode cX2_findStart 17 = .ok (.iload 4, 2) := by decide +kernel
theorem dX2_findStart_19 : decode cX2_findStart 19 = .ok (.invokevirtual 38, 3) := by decide +kernel
theorem dX2_findStart_22 : decode cX2_findStart 22 = .ok (.aload_n 0, 1) := by decide +kernel
theorem dX2_findStart_23 : decode cX2_findStart 23 = .ok (.iload_n 1, 1) := by decide +kernel
theorem dX2_findStart_24 : decode cX2_findStart 24 = .ok (.invokevirtual 84, 3) := by decide +kernel
theorem dX2_findStart_27 : decode cX2_findStart 27 = .ok (.iconst (-1), 1) := by decide +kernel
theorem dX2_findStart_28 : decode cX2_findStart 28 = .ok (.if_icmp .ne 14, 3) := by decide +kernel
theorem dX2_findStart_31 : decode cX2_findStart 31 = .ok (.aload_n 0, 1) := by decide +kernel
theorem dX2_findStart_32 : decode cX2_findStart 32 = .ok (.iload_n 1, 1) := by decide +kernel
theorem dX2_findStart_33 : decode cX2_findStart 33 = .ok (.invokevirtual 87, 3) := by decide +kernel
theorem dX2_findStart_36 : decode cX2_findStart 36 = .ok (.ifCond .ne 6, 3) := by decide +kernel
theorem dX2_findStart_39 : decode cX2_findStart 39 = .ok (.iload 4, 2) := by decide +kernel
theorem dX2_findStart_41 : decode cX2_findStart 41 = .ok (.ireturn, 1) := by decide +kernel
theorem dX2_findStart_42 : decode cX2_findStart 42 = .ok (.iinc 4 1, 3) := by decide +kernel
theorem dX2_findStart_45 : decode cX2_findStart 45 = .ok (.goto (-42), 3) := by decide +kernel
theorem dX2_findStart_48 : decode cX2_findStart 48 = .ok (.aload_n 0, 1) := by decide +kernel
theorem dX2_findStart_49 : decode cX2_findStart 49 = .ok (.getfield 20, 3) := by decide +kernel
theorem dX2_findStart_52 : decode cX2_findStart 52 = .ok (.iload_n 1, 1) := by decide +kernel
theorem dX2_findStart_53 : decode cX2_findStart 53 = .ok (.iconst 0, 1) := by decide +kernel
theorem dX2_findStart_54 : decode cX2_findStart 54 = .ok (.iload_n 3, 1) := by decide +kernel
theorem dX2_findStart_55 : decode cX2_findStart 55 = .ok (.invokevirtual 38, 3) := by decide +kernel
theorem dX2_findStart_58 : decode cX2_findStart 58 = .ok (.aload_n 0, 1) := by decide +kernel
theorem dX2_findStart_59 : decode cX2_findStart 59 = .ok (.iload_n 1, 1) := by decide +kernel
theorem dX2_findStart_60 : decode cX2_findStart 60 = .ok (.invokevirtual 84, 3) := by decide +kernel
theorem dX2_findStart_63 : decode cX2_findStart 63 = .ok (.istore 4, 2) := by decide +kernel
theorem dX2_findStart_65 : decode cX2_findStart 65 = .ok (.aload_n 0, 1) := by decide +kernel
theorem dX2_findStart_66 : decode cX2_findStart 66 = .ok (.getfield 20, 3) := by decide +kernel
theorem dX2_findStart_69 : decode cX2_findStart 69 = .ok (.iload_n 1, 1) := by decide +kernel
theorem dX2_findStart_70 : decode cX2_findStart 70 = .ok (.iconst 0, 1) := by decide +kernel
theorem dX2_findStart_71 : decode cX2_findStart 71 = .ok (.iconst (-1), 1) := by decide +kernel
theorem dX2_findStart_72 : decode cX2_findStart 72 = .ok (.invokevirtual 38, 3) := by decide +kernel
theorem dX2_findStart_75 : decode cX2_findStart 75 = .ok (.iload 4, 2) := by decide +kernel
theorem dX2_findStart_77 : decode cX2_findStart 77 = .ok (.iconst (-1), 1) := by decide +kernel
theorem dX2_findStart_78 : decode cX2_findStart 78 = .ok (.if_icmp .ne 8, 3) := by decide +kernel
theorem dX2_findStart_81 : decode cX2_findStart 81 = .ok (.bipush (-3), 2) := by decide +kernel
theorem dX2_findStart_83 : decode cX2_findStart 83 = .ok (.goto 8, 3) := by decide +kernel
theorem dX2_findStart_86 : decode cX2_findStart 86 = .ok (.bipush (-10), 2) := by decide +kernel
theorem dX2_findStart_88 : decode cX2_findStart 88 = .ok (.iload 4, 2) := by decide +kernel
theorem dX2_findStart_90 : decode cX2_findStart 90 = .ok (.isub, 1) := by decide +kernel
theorem dX2_findStart_91 : decode cX2_findStart 91 = .ok (.ireturn, 1) := by decide +kernel
theorem dX2_firstFouledLine_0 : decode cX2_firstFouledLine 0 = .ok (.iconst 0, 1) := by decide +kernel
theorem dX2_firstFouledLine_1 : decode cX2_firstFouledLine 1 = .ok (.istore_n 2, 1) := by decide +kernel
theorem dX2_firstFouledLine_2 : decode cX2_firstFouledLine 2 = .ok (.iload_n 2, 1) := by decide +kernel
theorem dX2_firstFouledLine_3 : decode cX2_firstFouledLine 3 = .ok (.aload_n 0, 1) := by decide +kernel
theorem dX2_firstFouledLine_4 : decode cX2_firstFouledLine 4 = .ok (.getfield 20, 3) := by decide +kernel
theorem dX2_firstFouledLine_7 : decode cX2_firstFouledLine 7 = .ok (.iload_n 1, 1) := by decide +kernel
theorem dX2_firstFouledLine_8 : decode cX2_firstFouledLine 8 = .ok (.iconst 1, 1) := by decide +kernel
theorem dX2_firstFouledLine_9 : decode cX2_firstFouledLine 9 = .ok (.invokevirtual 46, 3) := by decide +kernel
theorem dX2_firstFouledLine_12 : decode cX2_firstFouledLine 12 = .ok (.if_icmp .ge 30, 3) := by decide +kernel
theorem dX2_firstFouledLine_15 : decode cX2_firstFouledLine 15 = .ok (.aload_n 0, 1) := by decide +kernel
theorem dX2_firstFouledLine_16 : decode cX2_firstFouledLine 16 = .ok (.getfield 26, 3) := by decide +kernel
theorem dX2_firstFouledLine_19 : decode cX2_firstFouledLine 19 = .ok (.iload_n 1, 1) := by decide +kernel
theorem dX2_firstFouledLine_20 : decode cX2_firstFouledLine 20 = .ok (.iload_n 2, 1) := by decide +kernel
theorem dX2_firstFouledLine_21 : decode cX2_firstFouledLine 21 = .ok (.invokevirtual 46, 3) := by decide +kernel
theorem dX2_firstFouledLine_24 : decode cX2_firstFouledLine 24 = .ok (.istore_n 3, 1) := by decide +kernel
theorem dX2_firstFouledLine_25 : decode cX2_firstFouledLine 25 = .ok (.aload_n 0, 1) := by decide +kernel
theorem dX2_firstFouledLine_26 : decode cX2_firstFouledLine 26 = .ok (.iload_n 1, 1) := by decide +kernel
theorem dX2_firstFouledLine_27 : decode cX2_firstFouledLine 27 = .ok (.iload_n 3, 1) := by decide +kernel
theorem dX2_firstFouledLine_28 : decode cX2_firstFouledLine 28 = .ok (.invokevirtual 90, 3) := by decide +kernel
theorem dX2_firstFouledLine_31 : decode cX2_firstFouledLine 31 = .ok (.ifCond .eq 5, 3) := by decide +kernel
theorem dX2_firstFouledLine_34 : decode cX2_firstFouledLine 34 = .ok (.iload_n 3, 1) := by decide +kernel
theorem dX2_firstFouledLine_35 : decode cX2_firstFouledLine 35 = .ok (.ireturn, 1) := by decide +kernel
theorem dX2_firstFouledLine_36 : decode cX2_firstFouledLine 36 = .ok (.iinc 2 1, 3) := by decide +kernel
theorem dX2_firstFouledLine_39 : decode cX2_firstFouledLine 39 = .ok (.goto (-37), 3) := by decide +kernel
theorem dX2_firstFouledLine_42 : decode cX2_firstFouledLine 42 = .ok (.iconst (-1), 1) := by decide +kernel
theorem dX2_firstFouledLine_43 : decode cX2_firstFouledLine 43 = .ok (.ireturn, 1) := by decide +kernel
theorem dX2_foulsOn_0 : decode cX2_foulsOn 0 = .ok (.aload_n 0, 1) := by decide +kernel
theorem dX2_foulsOn_1 : decode cX2_foulsOn 1 = .ok (.getfield 20, 3) := by decide +kernel
theorem dX2_foulsOn_4 : decode cX2_foulsOn 4 = .ok (.iload_n 1, 1) := by decide +kernel
theorem dX2_foulsOn_5 : decode cX2_foulsOn 5 = .ok (.iconst 0, 1) := by decide +kernel
theorem dX2_foulsOn_6 : decode cX2_foulsOn 6 = .ok (.invokevirtual 46, 3) := by decide +kernel
theorem dX2_foulsOn_9 : decode cX2_foulsOn 9 = .ok (.aload_n 0, 1) := by decide +kernel
theorem dX2_foulsOn_10 : decode cX2_foulsOn 10 = .ok (.getfield 29, 3) := by decide +kernel
theorem dX2_foulsOn_13 : decode cX2_foulsOn 13 = .ok (.iload_n 1, 1) := by decide +kernel
theorem dX2_foulsOn_14 : decode cX2_foulsOn 14 = .ok (.iload_n 2, 1) := by decide +kernel
theorem dX2_foulsOn_15 : decode cX2_foulsOn 15 = .ok (.invokevirtual 46, 3) := by decide +kernel
theorem dX2_foulsOn_18 : decode cX2_foulsOn 18 = .ok (.iadd, 1) := by decide +kernel
theorem dX2_foulsOn_19 : decode cX2_foulsOn 19 = .ok (.istore_n 3, 1) := by decide +kernel
theorem dX2_foulsOn_20 : decode cX2_foulsOn 20 = .ok (.aload_n 0, 1) := by decide +kernel
theorem dX2_foulsOn_21 : decode cX2_foulsOn 21 = .ok (.getfield 35, 3) := by decide +kernel
theorem dX2_foulsOn_24 : decode cX2_foulsOn 24 = .ok (.iload_n 2, 1) := by decide +kernel
theorem dX2_foulsOn_25 : decode cX2_foulsOn 25 = .ok (.iconst 0, 1) := by decide +kernel
theorem dX2_foulsOn_26 : decode cX2_foulsOn 26 = .ok (.invokevirtual 46, 3) := by decide +kernel
theorem dX2_foulsOn_29 : decode cX2_foulsOn 29 = .ok (.istore 4, 2) := by decide +kernel
theorem dX2_foulsOn_31 : decode cX2_foulsOn 31 = .ok (.aload_n 0, 1) := by decide +kernel
theorem dX2_foulsOn_32 : decode cX2_foulsOn 32 = .ok (.getfield 35, 3) := by decide +kernel
theorem dX2_foulsOn_35 : decode cX2_foulsOn 35 = .ok (.iload_n 2, 1) := by decide +kernel
theorem dX2_foulsOn_36 : decode cX2_foulsOn 36 = .ok (.iconst 2, 1) := by decide +kernel
theorem dX2_foulsOn_37 : decode cX2_foulsOn 37 = .ok (.invokevirtual 46, 3) := by decide +kernel
theorem dX2_foulsOn_40 : decode cX2_foulsOn 40 = .ok (.iconst 1, 1) := by decide +kernel
theorem dX2_foulsOn_41 : decode cX2_foulsOn 41 = .ok (.if_icmp .ne 7, 3) := by decide +kernel
theorem dX2_foulsOn_44 : decode cX2_foulsOn 44 = .ok (.iconst 0, 1) := by decide +kernel
theorem dX2_foulsOn_45 : decode cX2_foulsOn 45 = .ok (.goto 12, 3) := by decide +kernel
theorem dX2_foulsOn_48 : decode cX2_foulsOn 48 = .ok (.aload_n 0, 1) := by decide +kernel
theorem dX2_foulsOn_49 : decode cX2_foulsOn 49 = .ok (.getfield 35, 3) := by decide +kernel
theorem dX2_foulsOn_52 : decode cX2_foulsOn 52 = .ok (.iload_n 2, 1) := by decide +kernel
theorem dX2_foulsOn_53 : decode cX2_foulsOn 53 = .ok (.iconst 1, 1) := by decide +kernel
theorem dX2_foulsOn_54 : decode cX2_foulsOn 54 = .ok (.invokevirtual 46, 3) := by decide +kernel
theorem dX2_foulsOn_57 : decode cX2_foulsOn 57 = .ok (.istore 5, 2) := by decide +kernel
theorem dX2_foulsOn_59 : decode cX2_foulsOn 59 = .ok (.iconst 0, 1) := by decide +kernel
theorem dX2_foulsOn_60 : decode cX2_foulsOn 60 = .ok (.istore 6, 2) := by decide +kernel
theorem dX2_foulsOn_62 : decode cX2_foulsOn 62 = .ok (.iload 6, 2) := by decide +kernel
theorem dX2_foulsOn_64 : decode cX2_foulsOn 64 = .ok (.bipush 54, 2) := by decide +kernel
theorem dX2_foulsOn_66 : decode cX2_foulsOn 66 = .ok (.if_icmp .ge 115, 3) := by decide +kernel
theorem dX2_foulsOn_69 : decode cX2_foulsOn 69 = .ok (.aload_n 0, 1) := by decide +kernel
theorem dX2_foulsOn_70 : decode cX2_foulsOn 70 = .ok (.getfield 20, 3) := by decide +kernel
theorem dX2_foulsOn_73 : decode cX2_foulsOn 73 = .ok (.iload 6, 2) := by decide +kernel
theorem dX2_foulsOn_75 : decode cX2_foulsOn 75 = .ok (.iconst 0, 1) := by decide +kernel
theorem dX2_foulsOn_76 : decode cX2_foulsOn 76 = .ok (.invokevirtual 46, 3) := by decide +kernel
theorem dX2_foulsOn_79 : decode cX2_foulsOn 79 = .ok (.istore 7, 2) := by decide +kernel
theorem dX2_foulsOn_81 : decode cX2_foulsOn 81 = .ok (.iload 7, 2) := by decide +kernel
theorem dX2_foulsOn_83 : decode cX2_foulsOn 83 = .ok (.iconst (-1), 1) := by decide +kernel
theorem dX2_foulsOn_84 : decode cX2_foulsOn 84 = .ok (.if_icmp .eq 91, 3) := by decide +kernel
theorem dX2_foulsOn_87 : decode cX2_foulsOn 87 = .ok (.iload 6, 2) := by decide +kernel
theorem dX2_foulsOn_89 : decode cX2_foulsOn 89 = .ok (.iload_n 1, 1) := by decide +kernel
theorem dX2_foulsOn_90 : decode cX2_foulsOn 90 = .ok (.if_icmp .eq 85, 3) := by decide +kernel
theorem dX2_foulsOn_93 : decode cX2_foulsOn 93 = .ok (.aload_n 0, 1) := by decide +kernel
theorem dX2_foulsOn_94 : decode cX2_foulsOn 94 = .ok (.getfield 29, 3) := by decide +kernel
theorem dX2_foulsOn_97 : decode cX2_foulsOn 97 = .ok (.iload 6, 2) := by decide +kernel
theorem dX2_foulsOn_99 : decode cX2_foulsOn 99 = .ok (.iload_n 2, 1) := by decide +kernel
theorem dX2_foulsOn_100 : decode cX2_foulsOn 100 = .ok (.invokevirtual 46, 3) := by decide +kernel
theorem dX2_foulsOn_103 : decode cX2_foulsOn 103 = .ok (.iconst (-1), 1) := by decide +kernel
theorem dX2_foulsOn_104 : decode cX2_foulsOn 104 = .ok (.if_icmp .eq 71, 3) := by decide +kernel
theorem dX2_foulsOn_107 : decode cX2_foulsOn 107 = .ok (.aload_n 0, 1) := by decide +kernel
theorem dX2_foulsOn_108 : decode cX2_foulsOn 108 = .ok (.getfield 32, 3) := by decide +kernel
theorem dX2_foulsOn_111 : decode cX2_foulsOn 111 = .ok (.iload 6, 2) := by decide +kernel
theorem dX2_foulsOn_113 : decode cX2_foulsOn 113 = .ok (.iload_n 2, 1) := by decide +kernel
theorem dX2_foulsOn_114 : decode cX2_foulsOn 114 = .ok (.invokevirtual 46, 3) := by decide +kernel
theorem dX2_foulsOn_117 : decode cX2_foulsOn 117 = .ok (.aload_n 0, 1) := by decide +kernel
theorem dX2_foulsOn_118 : decode cX2_foulsOn 118 = .ok (.getfield 32, 3) := by decide +kernel
theorem dX2_foulsOn_121 : decode cX2_foulsOn 121 = .ok (.iload_n 1, 1) := by decide +kernel
theorem dX2_foulsOn_122 : decode cX2_foulsOn 122 = .ok (.iload_n 2, 1) := by decide +kernel
theorem dX2_foulsOn_123 : decode cX2_foulsOn 123 = .ok (.invokevirtual 46, 3) := by decide +kernel
theorem dX2_foulsOn_126 : decode cX2_foulsOn 126 = .ok (.if_icmp .ne 7, 3) := by decide +kernel
theorem dX2_foulsOn_129 : decode cX2_foulsOn 129 = .ok (.iconst 1, 1) := by decide +kernel
theorem dX2_foulsOn_130 : decode cX2_foulsOn 130 = .ok (.goto 4, 3) := by decide +kernel
theorem dX2_foulsOn_133 : decode cX2_foulsOn 133 = .ok (.iconst 0, 1) := by decide +kernel
theorem dX2_foulsOn_134 : decode cX2_foulsOn 134 = .ok (.istore 8, 2) := by decide +kernel
theorem dX2_foulsOn_136 : decode cX2_foulsOn 136 = .ok (.iload 7, 2) := by decide +kernel
theorem dX2_foulsOn_138 : decode cX2_foulsOn 138 = .ok (.aload_n 0, 1) := by decide +kernel
theorem dX2_foulsOn_139 : decode cX2_foulsOn 139 = .ok (.getfield 29, 3) := by decide +kernel
theorem dX2_foulsOn_142 : decode cX2_foulsOn 142 = .ok (.iload 6, 2) := by decide +kernel
theorem dX2_foulsOn_144 : decode cX2_foulsOn 144 = .ok (.iload_n 2, 1) := by decide +kernel
theorem dX2_foulsOn_145 : decode cX2_foulsOn 145 = .ok (.invokevirtual 46, 3) := by decide +kernel
theorem dX2_foulsOn_148 : decode cX2_foulsOn 148 = .ok (.iadd, 1) := by decide +kernel
theorem dX2_foulsOn_149 : decode cX2_foulsOn 149 = .ok (.iload_n 3, 1) := by decide +kernel
theorem dX2_foulsOn_150 : decode cX2_foulsOn 150 = .ok (.isub, 1) := by decide +kernel
theorem dX2_foulsOn_151 : decode cX2_foulsOn 151 = .ok (.invokestatic 94, 3) := by decide +kernel
theorem dX2_foulsOn_154 : decode cX2_foulsOn 154 = .ok (.istore 9, 2) := by decide +kernel
theorem dX2_foulsOn_156 : decode cX2_foulsOn 156 = .ok (.iload 9, 2) := by decide +kernel
theorem dX2_foulsOn_158 : decode cX2_foulsOn 158 = .ok (.iload 8, 2) := by decide +kernel
theorem dX2_foulsOn_160 : decode cX2_foulsOn 160 = .ok (.ifCond .eq 8, 3) := by decide +kernel
theorem dX2_foulsOn_163 : decode cX2_foulsOn 163 = .ok (.iload 4, 2) := by decide +kernel
theorem dX2_foulsOn_165 : decode cX2_foulsOn 165 = .ok (.goto 5, 3) := by decide +kernel
theorem dX2_foulsOn_168 : decode cX2_foulsOn 168 = .ok (.iload 5, 2) := by decide +kernel
theorem dX2_foulsOn_170 : decode cX2_foulsOn 170 = .ok (.if_icmp .ge 5, 3) := by decide +kernel
theorem dX2_foulsOn_173 : decode cX2_foulsOn 173 = .ok (.iconst 1, 1) := by decide +kernel
theorem dX2_foulsOn_174 : decode cX2_foulsOn 174 = .ok (.ireturn, 1) := by decide +kernel
theorem dX2_foulsOn_175 : decode cX2_foulsOn 175 = .ok (.iinc 6 1, 3) := by decide +kernel
theorem dX2_foulsOn_178 : decode cX2_foulsOn 178 = .ok (.goto (-116), 3) := by decide +kernel
theorem dX2_foulsOn_181 : decode cX2_foulsOn 181 = .ok (.iconst 0, 1) := by decide +kernel
theorem dX2_foulsOn_182 : decode cX2_foulsOn 182 = .ok (.ireturn, 1) := by decide +kernel
theorem dX2_foulsAtRamps_0 : decode cX2_foulsAtRamps 0 = .ok (.aload_n 0, 1) := by decide +kernel
theorem dX2_foulsAtRamps_1 : decode cX2_foulsAtRamps 1 = .ok (.iload_n 1, 1) := by decide +kernel
theorem dX2_foulsAtRamps_2 : decode cX2_foulsAtRamps 2 = .ok (.invokevirtual 54, 3) := by decide +kernel
theorem dX2_foulsAtRamps_5 : decode cX2_foulsAtRamps 5 = .ok (.iconst 1, 1) := by decide +kernel
theorem dX2_foulsAtRamps_6 : decode cX2_foulsAtRamps 6 = .ok (.iadd, 1) := by decide +kernel
theorem dX2_foulsAtRamps_7 : decode cX2_foulsAtRamps 7 = .ok (.istore_n 2, 1) := by decide +kernel
theorem dX2_foulsAtRamps_8 : decode cX2_foulsAtRamps 8 = .ok (.iload_n 2, 1) := by decide +kernel
theorem dX2_foulsAtRamps_9 : decode cX2_foulsAtRamps 9 = .ok (.istore_n 3, 1) := by decide +kernel
theorem dX2_foulsAtRamps_10 : decode cX2_foulsAtRamps 10 = .ok (.iload_n 3, 1) := by decide +kernel
theorem dX2_foulsAtRamps_11 : decode cX2_foulsAtRamps 11 = .ok (.iload_n 2, 1) := by decide +kernel
theorem dX2_foulsAtRamps_12 : decode cX2_foulsAtRamps 12 = .ok (.aload_n 0, 1) := by decide +kernel
theorem dX2_foulsAtRamps_13 : decode cX2_foulsAtRamps 13 = .ok (.getfield 20, 3) := by decide +kernel
theorem dX2_foulsAtRamps_16 : decode cX2_foulsAtRamps 16 = .ok (.iload_n 1, 1) := by decide +kernel
theorem dX2_foulsAtRamps_17 : decode cX2_foulsAtRamps 17 = .ok (.iconst 4, 1) := by decide +kernel
theorem dX2_foulsAtRamps_18 : decode cX2_foulsAtRamps 18 = .ok (.invokevirtual 46, 3) := by decide +kernel
theorem dX2_foulsAtRamps_21 : decode cX2_foulsAtRamps 21 = .ok (.iadd, 1) := by decide +kernel
theorem dX2_foulsAtRamps_22 : decode cX2_foulsAtRamps 22 = .ok (.if_icmp .ge 38, 3) := by decide +kernel
theorem dX2_foulsAtRamps_25 : decode cX2_foulsAtRamps 25 = .ok (.aload_n 0, 1) := by decide +kernel
theorem dX2_foulsAtRamps_26 : decode cX2_foulsAtRamps 26 = .ok (.aload_n 0, 1) := by decide +kernel
theorem dX2_foulsAtRamps_27 : decode cX2_foulsAtRamps 27 = .ok (.getfield 20, 3) := by decide +kernel
theorem dX2_foulsAtRamps_30 : decode cX2_foulsAtRamps 30 = .ok (.iload_n 1, 1) := by decide +kernel
theorem dX2_foulsAtRamps_31 : decode cX2_foulsAtRamps 31 = .ok (.iconst 3, 1) := by decide +kernel
theorem dX2_foulsAtRamps_32 : decode cX2_foulsAtRamps 32 = .ok (.invokevirtual 46, 3) := by decide +kernel
theorem dX2_foulsAtRamps_35 : decode cX2_foulsAtRamps 35 = .ok (.iload_n 3, 1) := by decide +kernel
theorem dX2_foulsAtRamps_36 : decode cX2_foulsAtRamps 36 = .ok (.invokevirtual 99, 3) := by decide +kernel
theorem dX2_foulsAtRamps_39 : decode cX2_foulsAtRamps 39 = .ok (.aload_n 0, 1) := by decide +kernel
theorem dX2_foulsAtRamps_40 : decode cX2_foulsAtRamps 40 = .ok (.getfield 20, 3) := by decide +kernel
theorem dX2_foulsAtRamps_43 : decode cX2_foulsAtRamps 43 = .ok (.iload_n 1, 1) := by decide +kernel
theorem dX2_foulsAtRamps_44 : decode cX2_foulsAtRamps 44 = .ok (.bipush 6, 2) := by decide +kernel
theorem dX2_foulsAtRamps_46 : decode cX2_foulsAtRamps 46 = .ok (.invokevirtual 46, 3) := by decide +kernel
theorem dX2_foulsAtRamps_49 : decode cX2_foulsAtRamps 49 = .ok (.if_icmp .le 5, 3) := by decide +kernel
theorem dX2_foulsAtRamps_52 : decode cX2_foulsAtRamps 52 = .ok (.iconst 1, 1) := by decide +kernel
theorem dX2_foulsAtRamps_53 : decode cX2_foulsAtRamps 53 = .ok (.ireturn, 1) := by decide +kernel
theorem dX2_foulsAtRamps_54 : decode cX2_foulsAtRamps 54 = .ok (.iinc 3 1, 3) := by decide +kernel
theorem dX2_foulsAtRamps_57 : decode cX2_foulsAtRamps 57 = .ok (.goto (-47), 3) := by decide +kernel
theorem dX2_foulsAtRamps_60 : decode cX2_foulsAtRamps 60 = .ok (.iconst 0, 1) := by decide +kernel
theorem dX2_foulsAtRamps_61 : decode cX2_foulsAtRamps 61 = .ok (.ireturn, 1) := by decide +kernel
theorem dX2_countAtRamps_0 : decode cX2_countAtRamps 0 = .ok (.iconst 0, 1) := by decide +kernel
theorem dX2_countAtRamps_1 : decode cX2_countAtRamps 1 = .ok (.istore_n 3, 1) := by decide +kernel
theorem dX2_countAtRamps_2 : decode cX2_countAtRamps 2 = .ok (.iconst 0, 1) := by decide +kernel
theorem dX2_countAtRamps_3 : decode cX2_countAtRamps 3 = .ok (.istore 4, 2) := by decide +kernel
theorem dX2_countAtRamps_5 : decode cX2_countAtRamps 5 = .ok (.iload 4, 2) := by decide +kernel
theorem dX2_countAtRamps_7 : decode cX2_countAtRamps 7 = .ok (.bipush 54, 2) := by decide +kernel
theorem dX2_countAtRamps_9 : decode cX2_countAtRamps 9 = .ok (.if_icmp .ge 87, 3) := by decide +kernel
theorem dX2_countAtRamps_12 : decode cX2_countAtRamps 12 = .ok (.aload_n 0, 1) := by decide +kernel
theorem dX2_countAtRamps_13 : decode cX2_countAtRamps 13 = .ok (.getfield 20, 3) := by decide +kernel
theorem dX2_countAtRamps_16 : decode cX2_countAtRamps 16 = .ok (.iload 4, 2) := by decide +kernel
theorem dX2_countAtRamps_18 : decode cX2_countAtRamps 18 = .ok (.iconst 0, 1) := by decide +kernel
theorem dX2_countAtRamps_19 : decode cX2_countAtRamps 19 = .ok (.invokevirtual 46, 3) := by decide +kernel
theorem dX2_countAtRamps_22 : decode cX2_countAtRamps 22 = .ok (.istore 5, 2) := by decide +kernel
theorem dX2_countAtRamps_24 : decode cX2_countAtRamps 24 = .ok (.iload 5, 2) := by decide +kernel
theorem dX2_countAtRamps_26 : decode cX2_countAtRamps 26 = .ok (.iconst (-1), 1) := by decide +kernel
theorem dX2_countAtRamps_27 : decode cX2_countAtRamps 27 = .ok (.if_icmp .eq 63, 3) := by decide +kernel
theorem dX2_countAtRamps_30 : decode cX2_countAtRamps 30 = .ok (.aload_n 0, 1) := by decide +kernel
theorem dX2_countAtRamps_31 : decode cX2_countAtRamps 31 = .ok (.getfield 20, 3) := by decide +kernel
theorem dX2_countAtRamps_34 : decode cX2_countAtRamps 34 = .ok (.iload 4, 2) := by decide +kernel
theorem dX2_countAtRamps_36 : decode cX2_countAtRamps 36 = .ok (.iconst 3, 1) := by decide +kernel
theorem dX2_countAtRamps_37 : decode cX2_countAtRamps 37 = .ok (.invokevirtual 46, 3) := by decide +kernel
theorem dX2_countAtRamps_40 : decode cX2_countAtRamps 40 = .ok (.iload_n 1, 1) := by decide +kernel
theorem dX2_countAtRamps_41 : decode cX2_countAtRamps 41 = .ok (.if_icmp .ne 49, 3) := by decide +kernel
theorem dX2_countAtRamps_44 : decode cX2_countAtRamps 44 = .ok (.iload 5, 2) := by decide +kernel
theorem dX2_countAtRamps_46 : decode cX2_countAtRamps 46 = .ok (.aload_n 0, 1) := by decide +kernel
theorem dX2_countAtRamps_47 : decode cX2_countAtRamps 47 = .ok (.getfield 20, 3) := by decide +kernel
theorem dX2_countAtRamps_50 : decode cX2_countAtRamps 50 = .ok (.iload 4, 2) := by decide +kernel
theorem dX2_countAtRamps_52 : decode cX2_countAtRamps 52 = .ok (.iconst 5, 1) := by decide +kernel
theorem dX2_countAtRamps_53 : decode cX2_countAtRamps 53 = .ok (.invokevirtual 46, 3) := by decide +kernel
theorem dX2_countAtRamps_56 : decode cX2_countAtRamps 56 = .ok (.iadd, 1) := by decide +kernel
theorem dX2_countAtRamps_57 : decode cX2_countAtRamps 57 = .ok (.istore 6, 2) := by decide +kernel
theorem dX2_countAtRamps_59 : decode cX2_countAtRamps 59 = .ok (.iload_n 3, 1) := by decide +kernel
theorem dX2_countAtRamps_60 : decode cX2_countAtRamps 60 = .ok (.iload_n 2, 1) := by decide +kernel
theorem dX2_countAtRamps_61 : decode cX2_countAtRamps 61 = .ok (.iload 6, 2) := by decide +kernel
theorem dX2_countAtRamps_63 : decode cX2_countAtRamps 63 = .ok (.if_icmp .le 24, 3) := by decide +kernel
theorem dX2_countAtRamps_66 : decode cX2_countAtRamps 66 = .ok (.iload_n 2, 1) := by decide +kernel
theorem dX2_countAtRamps_67 : decode cX2_countAtRamps 67 = .ok (.iload 6, 2) := by decide +kernel
theorem dX2_countAtRamps_69 : decode cX2_countAtRamps 69 = .ok (.aload_n 0, 1) := by decide +kernel
theorem dX2_countAtRamps_70 : decode cX2_countAtRamps 70 = .ok (.getfield 20, 3) := by decide +kernel
theorem dX2_countAtRamps_73 : decode cX2_countAtRamps 73 = .ok (.iload 4, 2) := by decide +kernel
theorem dX2_countAtRamps_75 : decode cX2_countAtRamps 75 = .ok (.iconst 4, 1) := by decide +kernel
theorem dX2_countAtRamps_76 : decode cX2_countAtRamps 76 = .ok (.invokevirtual 46, 3) := by decide +kernel
theorem dX2_countAtRamps_79 : decode cX2_countAtRamps 79 = .ok (.iadd, 1) := by decide +kernel
theorem dX2_countAtRamps_80 : decode cX2_countAtRamps 80 = .ok (.if_icmp .gt 7, 3) := by decide +kernel
theorem dX2_countAtRamps_83 : decode cX2_countAtRamps 83 = .ok (.iconst 1, 1) := by decide +kernel
theorem dX2_countAtRamps_84 : decode cX2_countAtRamps 84 = .ok (.goto 4, 3) := by decide +kernel
theorem dX2_countAtRamps_87 : decode cX2_countAtRamps 87 = .ok (.iconst 0, 1) := by decide +kernel
theorem dX2_countAtRamps_88 : decode cX2_countAtRamps 88 = .ok (.iadd, 1) := by decide +kernel
theorem dX2_countAtRamps_89 : decode cX2_countAtRamps 89 = .ok (.istore_n 3, 1) := by decide +kernel
theorem dX2_countAtRamps_90 : decode cX2_countAtRamps 90 = .ok (.iinc 4 1, 3) := by decide +kernel
theorem dX2_countAtRamps_93 : decode cX2_countAtRamps 93 = .ok (.goto (-88), 3) := by decide +kernel
theorem dX2_countAtRamps_96 : decode cX2_countAtRamps 96 = .ok (.iload_n 3, 1) := by decide +kernel
theorem dX2_countAtRamps_97 : decode cX2_countAtRamps 97 = .ok (.ireturn, 1) := by decide +kernel
theorem dX2_areApart_0 : decode cX2_areApart 0 = .ok (.iconst 0, 1) := by decide +kernel
theorem dX2_areApart_1 : decode cX2_areApart 1 = .ok (.istore_n 1, 1) := by decide +kernel
theorem dX2_areApart_2 : decode cX2_areApart 2 = .ok (.iload_n 1, 1) := by decide +kernel
theorem dX2_areApart_3 : decode cX2_areApart 3 = .ok (.bipush 54, 2) := by decide +kernel
theorem dX2_areApart_5 : decode cX2_areApart 5 = .ok (.if_icmp .ge 28, 3) := by decide +kernel
theorem dX2_areApart_8 : decode cX2_areApart 8 = .ok (.aload_n 0, 1) := by decide +kernel
theorem dX2_areApart_9 : decode cX2_areApart 9 = .ok (.iload_n 1, 1) := by decide +kernel
theorem dX2_areApart_10 : decode cX2_areApart 10 = .ok (.invokevirtual 50, 3) := by decide +kernel
theorem dX2_areApart_13 : decode cX2_areApart 13 = .ok (.ifCond .eq 14, 3) := by decide +kernel
theorem dX2_areApart_16 : decode cX2_areApart 16 = .ok (.aload_n 0, 1) := by decide +kernel
theorem dX2_areApart_17 : decode cX2_areApart 17 = .ok (.iload_n 1, 1) := by decide +kernel
theorem dX2_areApart_18 : decode cX2_areApart 18 = .ok (.invokevirtual 84, 3) := by decide +kernel
theorem dX2_areApart_21 : decode cX2_areApart 21 = .ok (.iconst (-1), 1) := by decide +kernel
theorem dX2_areApart_22 : decode cX2_areApart 22 = .ok (.if_icmp .eq 5, 3) := by decide +kernel
theorem dX2_areApart_25 : decode cX2_areApart 25 = .ok (.iconst 0, 1) := by decide +kernel
theorem dX2_areApart_26 : decode cX2_areApart 26 = .ok (.ireturn, 1) := by decide +kernel
theorem dX2_areApart_27 : decode cX2_areApart 27 = .ok (.iinc 1 1, 3) := by decide +kernel
theorem dX2_areApart_30 : decode cX2_areApart 30 = .ok (.goto (-28), 3) := by decide +kernel
theorem dX2_areApart_33 : decode cX2_areApart 33 = .ok (.iconst 1, 1) := by decide +kernel
theorem dX2_areApart_34 : decode cX2_areApart 34 = .ok (.ireturn, 1) := by decide +kernel
theorem dX7_init_0 : decode cX7_init 0 = .ok (.aload_n 0, 1) := by decide +kernel
theorem dX7_init_1 : decode cX7_init 1 = .ok (.invokespecial 3, 3) := by decide +kernel
theorem dX7_init_4 : decode cX7_init 4 = .ok (.aload_n 0, 1) := by decide +kernel
theorem dX7_init_5 : decode cX7_init 5 = .ok (.new 9, 3) := by decide +kernel
theorem dX7_init_8 : decode cX7_init 8 = .ok (.dup, 1) := by decide +kernel
theorem dX7_init_9 : decode cX7_init 9 = .ok (.bipush 6, 2) := by decide +kernel
theorem dX7_init_11 : decode cX7_init 11 = .ok (.bipush 13, 2) := by decide +kernel
theorem dX7_init_13 : decode cX7_init 13 = .ok (.invokespecial 13, 3) := by decide +kernel
theorem dX7_init_16 : decode cX7_init 16 = .ok (.putfield 16, 3) := by decide +kernel
theorem dX7_init_19 : decode cX7_init 19 = .ok (.aload_n 0, 1) := by decide +kernel
theorem dX7_init_20 : decode cX7_init 20 = .ok (.new 9, 3) := by decide +kernel
theorem dX7_init_23 : decode cX7_init 23 = .ok (.dup, 1) := by decide +kernel
theorem dX7_init_24 : decode cX7_init 24 = .ok (.bipush 48, 2) := by decide +kernel
theorem dX7_init_26 : decode cX7_init 26 = .ok (.iconst 3, 1) := by decide +kernel
theorem dX7_init_27 : decode cX7_init 27 = .ok (.invokespecial 13, 3) := by decide +kernel
theorem dX7_init_30 : decode cX7_init 30 = .ok (.putfield 20, 3) := by decide +kernel
theorem dX7_init_33 : decode cX7_init 33 = .ok (.aload_n 0, 1) := by decide +kernel
theorem dX7_init_34 : decode cX7_init 34 = .ok (.iconst 0, 1) := by decide +kernel
theorem dX7_init_35 : decode cX7_init 35 = .ok (.putfield 23, 3) := by decide +kernel
theorem dX7_init_38 : decode cX7_init 38 = .ok (.return_, 1) := by decide +kernel
theorem dX7_weightOf_0 : decode cX7_weightOf 0 = .ok (.iload_n 0, 1) := by decide +kernel
theorem dX7_weightOf_1 : decode cX7_weightOf 1 = .ok (.ifCond .lt 19, 3) := by decide +kernel
theorem dX7_weightOf_4 : decode cX7_weightOf 4 = .ok (.iload_n 0, 1) := by decide +kernel
theorem dX7_weightOf_5 : decode cX7_weightOf 5 = .ok (.getstatic 27, 3) := by decide +kernel
theorem dX7_weightOf_8 : decode cX7_weightOf 8 = .ok (.arraylength, 1) := by decide +kernel
theorem dX7_weightOf_9 : decode cX7_weightOf 9 = .ok (.if_icmp .ge 11, 3) := by decide +kernel
theorem dX7_weightOf_12 : decode cX7_weightOf 12 = .ok (.getstatic 27, 3) := by decide +kernel
theorem dX7_weightOf_15 : decode cX7_weightOf 15 = .ok (.iload_n 0, 1) := by decide +kernel
theorem dX7_weightOf_16 : decode cX7_weightOf 16 = .ok (.iaload, 1) := by decide +kernel
theorem dX7_weightOf_17 : decode cX7_weightOf 17 = .ok (.goto 4, 3) := by decide +kernel
theorem dX7_weightOf_20 : decode cX7_weightOf 20 = .ok (.iconst 0, 1) := by decide +kernel
theorem dX7_weightOf_21 : decode cX7_weightOf 21 = .ok (.ireturn, 1) := by decide +kernel
theorem dX7_unloadingOf_0 : decode cX7_unloadingOf 0 = .ok (.iload_n 0, 1) := by decide +kernel
theorem dX7_unloadingOf_1 : decode cX7_unloadingOf 1 = .ok (.ifCond .lt 19, 3) := by decide +kernel
theorem dX7_unloadingOf_4 : decode cX7_unloadingOf 4 = .ok (.iload_n 0, 1) := by decide +kernel
theorem dX7_unloadingOf_5 : decode cX7_unloadingOf 5 = .ok (.getstatic 31, 3) := by decide +kernel
theorem dX7_unloadingOf_8 : decode cX7_unloadingOf 8 = .ok (.arraylength, 1) := by decide +kernel
theorem dX7_unloadingOf_9 : decode cX7_unloadingOf 9 = .ok (.if_icmp .ge 11, 3) := by decide +kernel
theorem dX7_unloadingOf_12 : decode cX7_unloadingOf 12 = .ok (.getstatic 31, 3) := by decide +kernel
theorem dX7_unloadingOf_15 : decode cX7_unloadingOf 15 = .ok (.iload_n 0, 1) := by decide +kernel
theorem dX7_unloadingOf_16 : decode cX7_unloadingOf 16 = .ok (.iaload, 1) := by decide +kernel
theorem dX7_unloadingOf_17 : decode cX7_unloadingOf 17 = .ok (.goto 4, 3) := by decide +kernel
theorem dX7_unloadingOf_20 : decode cX7_unloadingOf 20 = .ok (.iconst 0, 1) := by decide +kernel
theorem dX7_unloadingOf_21 : decode cX7_unloadingOf 21 = .ok (.ireturn, 1) := by decide +kernel
theorem dX7_workOf_0 : decode cX7_workOf 0 = .ok (.iload_n 0, 1) := by decide +kernel
theorem dX7_workOf_1 : decode cX7_workOf 1 = .ok (.ifCond .lt 19, 3) := by decide +kernel
theorem dX7_workOf_4 : decode cX7_workOf 4 = .ok (.iload_n 0, 1) := by decide +kernel
theorem dX7_workOf_5 : decode cX7_workOf 5 = .ok (.getstatic 34, 3) := by decide +kernel
theorem dX7_workOf_8 : decode cX7_workOf 8 = .ok (.arraylength, 1) := by decide +kernel
theorem dX7_workOf_9 : decode cX7_workOf 9 = .ok (.if_icmp .ge 11, 3) := by decide +kernel
theorem dX7_workOf_12 : decode cX7_workOf 12 = .ok (.getstatic 34, 3) := by decide +kernel
theorem dX7_workOf_15 : decode cX7_workOf 15 = .ok (.iload_n 0, 1) := by decide +kernel
theorem dX7_workOf_16 : decode cX7_workOf 16 = .ok (.iaload, 1) := by decide +kernel
theorem dX7_workOf_17 : decode cX7_workOf 17 = .ok (.goto 4, 3) := by decide +kernel
theorem dX7_workOf_20 : decode cX7_workOf 20 = .ok (.iconst 0, 1) := by decide +kernel
theorem dX7_workOf_21 : decode cX7_workOf 21 = .ok (.ireturn, 1) := by decide +kernel
theorem dX7_count_0 : decode cX7_count 0 = .ok (.aload_n 0, 1) := by decide +kernel
theorem dX7_count_1 : decode cX7_count 1 = .ok (.getfield 23, 3) := by decide +kernel
theorem dX7_count_4 : decode cX7_count 4 = .ok (.ireturn, 1) := by decide +kernel
theorem dX7_has_0 : decode cX7_has 0 = .ok (.iload_n 1, 1) := by decide +kernel
theorem dX7_has_1 : decode cX7_has 1 = .ok (.ifCond .lt 15, 3) := by decide +kernel
theorem dX7_has_4 : decode cX7_has 4 = .ok (.iload_n 1, 1) := by decide +kernel
theorem dX7_has_5 : decode cX7_has 5 = .ok (.aload_n 0, 1) := by decide +kernel
theorem dX7_has_6 : decode cX7_has 6 = .ok (.getfield 23, 3) := by decide +kernel
theorem dX7_has_9 : decode cX7_has 9 = .ok (.if_icmp .ge 7, 3) := by decide +kernel
theorem dX7_has_12 : decode cX7_has 12 = .ok (.iconst 1, 1) := by decide +kernel
theorem dX7_has_13 : decode cX7_has 13 = .ok (.goto 4, 3) := by decide +kernel
theorem dX7_has_16 : decode cX7_has 16 = .ok (.iconst 0, 1) := by decide +kernel
theorem dX7_has_17 : decode cX7_has 17 = .ok (.ireturn, 1) := by decide +kernel
theorem dX7_get_0 : decode cX7_get 0 = .ok (.aload_n 0, 1) := by decide +kernel
theorem dX7_get_1 : decode cX7_get 1 = .ok (.getfield 16, 3) := by decide +kernel
theorem dX7_get_4 : decode cX7_get 4 = .ok (.iload_n 1, 1) := by decide +kernel
theorem dX7_get_5 : decode cX7_get 5 = .ok (.iload_n 2, 1) := by decide +kernel
theorem dX7_get_6 : decode cX7_get 6 = .ok (.invokevirtual 47, 3) := by decide +kernel
theorem dX7_get_9 : decode cX7_get 9 = .ok (.ireturn, 1) := by decide +kernel
theorem dX7_set_0 : decode cX7_set 0 = .ok (.aload_n 0, 1) := by decide +kernel
theorem dX7_set_1 : decode cX7_set 1 = .ok (.getfield 16, 3) := by decide +kernel
theorem dX7_set_4 : decode cX7_set 4 = .ok (.iload_n 1, 1) := by decide +kernel
theorem dX7_set_5 : decode cX7_set 5 = .ok (.iload_n 2, 1) := by decide +kernel
theorem dX7_set_6 : decode cX7_set 6 = .ok (.iload_n 3, 1) := by decide +kernel
theorem dX7_set_7 : decode cX7_set 7 = .ok (.invokevirtual 51, 3) := by decide +kernel
theorem dX7_set_10 : decode cX7_set 10 = .ok (.return_, 1) := by decide +kernel
theorem dX7_add_0 : decode cX7_add 0 = .ok (.aload_n 0, 1) := by decide +kernel
theorem dX7_add_1 : decode cX7_add 1 = .ok (.getfield 23, 3) := by decide +kernel
theorem dX7_add_4 : decode cX7_add 4 = .ok (.istore 5, 2) := by decide +kernel
theorem dX7_add_6 : decode cX7_add 6 = .ok (.aload_n 0, 1) := by decide +kernel
theorem dX7_add_7 : decode cX7_add 7 = .ok (.getfield 16, 3) := by decide +kernel
theorem dX7_add_10 : decode cX7_add 10 = .ok (.iload 5, 2) := by decide +kernel
theorem dX7_add_12 : decode cX7_add 12 = .ok (.iconst 0, 1) := by decide +kernel
theorem dX7_add_13 : decode cX7_add 13 = .ok (.iload_n 1, 1) := by decide +kernel
theorem dX7_add_14 : decode cX7_add 14 = .ok (.invokevirtual 51, 3) := by decide +kernel
theorem dX7_add_17 : decode cX7_add 17 = .ok (.aload_n 0, 1) := by decide +kernel
theorem dX7_add_18 : decode cX7_add 18 = .ok (.getfield 16, 3) := by decide +kernel
theorem dX7_add_21 : decode cX7_add 21 = .ok (.iload 5, 2) := by decide +kernel
theorem dX7_add_23 : decode cX7_add 23 = .ok (.iconst 1, 1) := by decide +kernel
theorem dX7_add_24 : decode cX7_add 24 = .ok (.iload_n 2, 1) := by decide +kernel
theorem dX7_add_25 : decode cX7_add 25 = .ok (.invokevirtual 51, 3) := by decide +kernel
theorem dX7_add_28 : decode cX7_add 28 = .ok (.aload_n 0, 1) := by decide +kernel
theorem dX7_add_29 : decode cX7_add 29 = .ok (.getfield 16, 3) := by decide +kernel
theorem dX7_add_32 : decode cX7_add 32 = .ok (.iload 5, 2) := by decide +kernel
theorem dX7_add_34 : decode cX7_add 34 = .ok (.iconst 2, 1) := by decide +kernel
theorem dX7_add_35 : decode cX7_add 35 = .ok (.iload_n 3, 1) := by decide +kernel
theorem dX7_add_36 : decode cX7_add 36 = .ok (.invokevirtual 51, 3) := by decide +kernel
theorem dX7_add_39 : decode cX7_add 39 = .ok (.aload_n 0, 1) := by decide +kernel
theorem dX7_add_40 : decode cX7_add 40 = .ok (.getfield 16, 3) := by decide +kernel
theorem dX7_add_43 : decode cX7_add 43 = .ok (.iload 5, 2) := by decide +kernel
theorem dX7_add_45 : decode cX7_add 45 = .ok (.iconst 3, 1) := by decide +kernel
theorem dX7_add_46 : decode cX7_add 46 = .ok (.iload 4, 2) := by decide +kernel
theorem dX7_add_48 : decode cX7_add 48 = .ok (.invokevirtual 51, 3) := by decide +kernel
theorem dX7_add_51 : decode cX7_add 51 = .ok (.aload_n 0, 1) := by decide +kernel
theorem dX7_add_52 : decode cX7_add 52 = .ok (.getfield 16, 3) := by decide +kernel
theorem dX7_add_55 : decode cX7_add 55 = .ok (.iload 5, 2) := by decide +kernel
theorem dX7_add_57 : decode cX7_add 57 = .ok (.iconst 5, 1) := by decide +kernel
theorem dX7_add_58 : decode cX7_add 58 = .ok (.iconst (-1), 1) := by decide +kernel
theorem dX7_add_59 : decode cX7_add 59 = .ok (.invokevirtual 51, 3) := by decide +kernel
theorem dX7_add_62 : decode cX7_add 62 = .ok (.aload_n 0, 1) := by decide +kernel
theorem dX7_add_63 : decode cX7_add 63 = .ok (.getfield 16, 3) := by decide +kernel
theorem dX7_add_66 : decode cX7_add 66 = .ok (.iload 5, 2) := by decide +kernel
theorem dX7_add_68 : decode cX7_add 68 = .ok (.bipush 10, 2) := by decide +kernel
theorem dX7_add_70 : decode cX7_add 70 = .ok (.iconst (-1), 1) := by decide +kernel
theorem dX7_add_71 : decode cX7_add 71 = .ok (.invokevirtual 51, 3) := by decide +kernel
theorem dX7_add_74 : decode cX7_add 74 = .ok (.aload_n 0, 1) := by decide +kernel
theorem dX7_add_75 : decode cX7_add 75 = .ok (.getfield 16, 3) := by decide +kernel
theorem dX7_add_78 : decode cX7_add 78 = .ok (.iload 5, 2) := by decide +kernel
theorem dX7_add_80 : decode cX7_add 80 = .ok (.bipush 11, 2) := by decide +kernel
theorem dX7_add_82 : decode cX7_add 82 = .ok (.iconst (-1), 1) := by decide +kernel
theorem dX7_add_83 : decode cX7_add 83 = .ok (.invokevirtual 51, 3) := by decide +kernel
theorem dX7_add_86 : decode cX7_add 86 = .ok (.aload_n 0, 1) := by decide +kernel
theorem dX7_add_87 : decode cX7_add 87 = .ok (.dup, 1) := by decide +kernel
theorem dX7_add_88 : decode cX7_add 88 = .ok (.getfield 23, 3) := by decide +kernel
theorem dX7_add_91 : decode cX7_add 91 = .ok (.iconst 1, 1) := by decide +kernel
theorem dX7_add_92 : decode cX7_add 92 = .ok (.iadd, 1) := by decide +kernel
theorem dX7_add_93 : decode cX7_add 93 = .ok (.putfield 23, 3) := by decide +kernel
theorem dX7_add_96 : decode cX7_add 96 = .ok (.iload 5, 2) := by decide +kernel
theorem dX7_add_98 : decode cX7_add 98 = .ok (.ireturn, 1) := by decide +kernel
theorem dX7_sumOf_0 : decode cX7_sumOf 0 = .ok (.iconst 0, 1) := by decide +kernel
theorem dX7_sumOf_1 : decode cX7_sumOf 1 = .ok (.istore_n 2, 1) := by decide +kernel
theorem dX7_sumOf_2 : decode cX7_sumOf 2 = .ok (.iconst 0, 1) := by decide +kernel
theorem dX7_sumOf_3 : decode cX7_sumOf 3 = .ok (.istore_n 3, 1) := by decide +kernel
theorem dX7_sumOf_4 : decode cX7_sumOf 4 = .ok (.iload_n 3, 1) := by decide +kernel
theorem dX7_sumOf_5 : decode cX7_sumOf 5 = .ok (.aload_n 0, 1) := by decide +kernel
theorem dX7_sumOf_6 : decode cX7_sumOf 6 = .ok (.getfield 23, 3) := by decide +kernel
theorem dX7_sumOf_9 : decode cX7_sumOf 9 = .ok (.if_icmp .ge 21, 3) := by decide +kernel
theorem dX7_sumOf_12 : decode cX7_sumOf 12 = .ok (.iload_n 2, 1) := by decide +kernel
theorem dX7_sumOf_13 : decode cX7_sumOf 13 = .ok (.aload_n 0, 1) := by decide +kernel
theorem dX7_sumOf_14 : decode cX7_sumOf 14 = .ok (.getfield 16, 3) := by decide +kernel
theorem dX7_sumOf_17 : decode cX7_sumOf 17 = .ok (.iload_n 3, 1) := by decide +kernel
theorem dX7_sumOf_18 : decode cX7_sumOf 18 = .ok (.iload_n 1, 1) := by decide +kernel
theorem dX7_sumOf_19 : decode cX7_sumOf 19 = .ok (.invokevirtual 47, 3) := by decide +kernel
theorem dX7_sumOf_22 : decode cX7_sumOf 22 = .ok (.iadd, 1) := by decide +kernel
theorem dX7_sumOf_23 : decode cX7_sumOf 23 = .ok (.istore_n 2, 1) := by decide +kernel
theorem dX7_sumOf_24 : decode cX7_sumOf 24 = .ok (.iinc 3 1, 3) := by decide +kernel
theorem dX7_sumOf_27 : decode cX7_sumOf 27 = .ok (.goto (-23), 3) := by decide +kernel
theorem dX7_sumOf_30 : decode cX7_sumOf 30 = .ok (.iload_n 2, 1) := by decide +kernel
theorem dX7_sumOf_31 : decode cX7_sumOf 31 = .ok (.ireturn, 1) := by decide +kernel
theorem dX7_countWires_0 : decode cX7_countWires 0 = .ok (.iconst 0, 1) := by decide +kernel
theorem dX7_countWires_1 : decode cX7_countWires 1 = .ok (.istore_n 1, 1) := by decide +kernel
theorem dX7_countWires_2 : decode cX7_countWires 2 = .ok (.iconst 0, 1) := by decide +kernel
theorem dX7_countWires_3 : decode cX7_countWires 3 = .ok (.istore_n 2, 1) := by decide +kernel
theorem dX7_countWires_4 : decode cX7_countWires 4 = .ok (.iload_n 2, 1) := by decide +kernel
theorem dX7_countWires_5 : decode cX7_countWires 5 = .ok (.aload_n 0, 1) := by decide +kernel
theorem dX7_countWires_6 : decode cX7_countWires 6 = .ok (.getfield 23, 3) := by decide +kernel
theorem dX7_countWires_9 : decode cX7_countWires 9 = .ok (.if_icmp .ge 53, 3) := by decide +kernel
theorem dX7_countWires_12 : decode cX7_countWires 12 = .ok (.iload_n 1, 1) := by decide +kernel
theorem dX7_countWires_13 : decode cX7_countWires 13 = .ok (.aload_n 0, 1) := by decide +kernel
theorem dX7_countWires_14 : decode cX7_countWires 14 = .ok (.getfield 16, 3) := by decide +kernel
theorem dX7_countWires_17 : decode cX7_countWires 17 = .ok (.iload_n 2, 1) := by decide +kernel
theorem dX7_countWires_18 : decode cX7_countWires 18 = .ok (.bipush 10, 2) := by decide +kernel
theorem dX7_countWires_20 : decode cX7_countWires 20 = .ok (.invokevirtual 47, 3) := by decide +kernel
theorem dX7_countWires_23 : decode cX7_countWires 23 = .ok (.iconst (-1), 1) := by decide +kernel
theorem dX7_countWires_24 : decode cX7_countWires 24 = .ok (.if_icmp .ne 7, 3) := by decide +kernel
theorem dX7_countWires_27 : decode cX7_countWires 27 = .ok (.iconst 0, 1) := by decide +kernel
theorem dX7_countWires_28 : decode cX7_countWires 28 = .ok (.goto 4, 3) := by decide +kernel
theorem dX7_countWires_31 : decode cX7_countWires 31 = .ok (.iconst 1, 1) := by decide +kernel
theorem dX7_countWires_32 : decode cX7_countWires 32 = .ok (.iadd, 1) := by decide +kernel
theorem dX7_countWires_33 : decode cX7_countWires 33 = .ok (.istore_n 1, 1) := by decide +kernel
theorem dX7_countWires_34 : decode cX7_countWires 34 = .ok (.iload_n 1, 1) := by decide +kernel
theorem dX7_countWires_35 : decode cX7_countWires 35 = .ok (.aload_n 0, 1) := by decide +kernel
theorem dX7_countWires_36 : decode cX7_countWires 36 = .ok (.getfield 16, 3) := by decide +kernel
theorem dX7_countWires_39 : decode cX7_countWires 39 = .ok (.iload_n 2, 1) := by decide +kernel
theorem dX7_countWires_40 : decode cX7_countWires 40 = .ok (.bipush 11, 2) := by decide +kernel
theorem dX7_countWires_42 : decode cX7_countWires 42 = .ok (.invokevirtual 47, 3) := by decide +kernel
theorem dX7_countWires_45 : decode cX7_countWires 45 = .ok (.iconst (-1), 1) := by decide +kernel
theorem dX7_countWires_46 : decode cX7_countWires 46 = .ok (.if_icmp .ne 7, 3) := by decide +kernel
theorem dX7_countWires_49 : decode cX7_countWires 49 = .ok (.iconst 0, 1) := by decide +kernel
theorem dX7_countWires_50 : decode cX7_countWires 50 = .ok (.goto 4, 3) := by decide +kernel
theorem dX7_countWires_53 : decode cX7_countWires 53 = .ok (.iconst 1, 1) := by decide +kernel
theorem dX7_countWires_54 : decode cX7_countWires 54 = .ok (.iadd, 1) := by decide +kernel
theorem dX7_countWires_55 : decode cX7_countWires 55 = .ok (.istore_n 1, 1) := by decide +kernel
theorem dX7_countWires_56 : decode cX7_countWires 56 = .ok (.iinc 2 1, 3) := by decide +kernel
theorem dX7_countWires_59 : decode cX7_countWires 59 = .ok (.goto (-55), 3) := by decide +kernel
theorem dX7_countWires_62 : decode cX7_countWires 62 = .ok (.iload_n 1, 1) := by decide +kernel
theorem dX7_countWires_63 : decode cX7_countWires 63 = .ok (.ireturn, 1) := by decide +kernel
theorem dX7_ticksToStop_0 : decode cX7_ticksToStop 0 = .ok (.aload_n 0, 1) := by decide +kernel
theorem dX7_ticksToStop_1 : decode cX7_ticksToStop 1 = .ok (.getfield 16, 3) := by decide +kernel
theorem dX7_ticksToStop_4 : decode cX7_ticksToStop 4 = .ok (.iload_n 1, 1) := by decide +kernel
theorem dX7_ticksToStop_5 : decode cX7_ticksToStop 5 = .ok (.iconst 4, 1) := by decide +kernel
theorem dX7_ticksToStop_6 : decode cX7_ticksToStop 6 = .ok (.invokevirtual 47, 3) := by decide +kernel
theorem dX7_ticksToStop_9 : decode cX7_ticksToStop 9 = .ok (.iconst 2, 1) := by decide +kernel
theorem dX7_ticksToStop_10 : decode cX7_ticksToStop 10 = .ok (.if_icmp .eq 5, 3) := by decide +kernel
theorem dX7_ticksToStop_13 : decode cX7_ticksToStop 13 = .ok (.iconst (-1), 1) := by decide +kernel
theorem dX7_ticksToStop_14 : decode cX7_ticksToStop 14 = .ok (.ireturn, 1) := by decide +kernel
theorem dX7_ticksToStop_15 : decode cX7_ticksToStop 15 = .ok (.iconst 0, 1) := by decide +kernel
theorem dX7_ticksToStop_16 : decode cX7_ticksToStop 16 = .ok (.bipush 36, 2) := by decide +kernel
theorem dX7_ticksToStop_18 : decode cX7_ticksToStop 18 = .ok (.iload_n 2, 1) := by decide +kernel
theorem dX7_ticksToStop_19 : decode cX7_ticksToStop 19 = .ok (.aload_n 0, 1) := by decide +kernel
theorem dX7_ticksToStop_20 : decode cX7_ticksToStop 20 = .ok (.getfield 16, 3) := by decide +kernel
theorem dX7_ticksToStop_23 : decode cX7_ticksToStop 23 = .ok (.iload_n 1, 1) := by decide +kernel
theorem dX7_ticksToStop_24 : decode cX7_ticksToStop 24 = .ok (.iconst 5, 1) := by decide +kernel
theorem dX7_ticksToStop_25 : decode cX7_ticksToStop 25 = .ok (.invokevirtual 47, 3) := by decide +kernel
theorem dX7_ticksToStop_28 : decode cX7_ticksToStop 28 = .ok (.isub, 1) := by decide +kernel
theorem dX7_ticksToStop_29 : decode cX7_ticksToStop 29 = .ok (.isub, 1) := by decide +kernel
theorem dX7_ticksToStop_30 : decode cX7_ticksToStop 30 = .ok (.invokestatic 55, 3) := by decide +kernel
theorem dX7_ticksToStop_33 : decode cX7_ticksToStop 33 = .ok (.ireturn, 1) := by decide +kernel
theorem dX7_takeOrders_0 : decode cX7_takeOrders 0 = .ok (.iconst 0, 1) := by decide +kernel
theorem dX7_takeOrders_1 : decode cX7_takeOrders 1 = .ok (.istore_n 2, 1) := by decide +kernel
theorem dX7_takeOrders_2 : decode cX7_takeOrders 2 = .ok (.iload_n 2, 1) := by decide +kernel
theorem dX7_takeOrders_3 : decode cX7_takeOrders 3 = .ok (.aload_n 0, 1) := by decide +kernel
theorem dX7_takeOrders_4 : decode cX7_takeOrders 4 = .ok (.getfield 23, 3) := by decide +kernel
theorem dX7_takeOrders_7 : decode cX7_takeOrders 7 = .ok (.if_icmp .ge 67, 3) := by decide +kernel
theorem dX7_takeOrders_10 : decode cX7_takeOrders 10 = .ok (.aload_n 0, 1) := by decide +kernel
theorem dX7_takeOrders_11 : decode cX7_takeOrders 11 = .ok (.getfield 16, 3) := by decide +kernel
theorem dX7_takeOrders_14 : decode cX7_takeOrders 14 = .ok (.iload_n 2, 1) := by decide +kernel
theorem dX7_takeOrders_15 : decode cX7_takeOrders 15 = .ok (.bipush 10, 2) := by decide +kernel
theorem dX7_takeOrders_17 : decode cX7_takeOrders 17 = .ok (.invokevirtual 47, 3) := by decide +kernel
theorem dX7_takeOrders_20 : decode cX7_takeOrders 20 = .ok (.iload_n 1, 1) := by decide +kernel
theorem dX7_takeOrders_21 : decode cX7_takeOrders 21 = .ok (.if_icmp .ne 47, 3) := by decide +kernel
theorem dX7_takeOrders_24 : decode cX7_takeOrders 24 = .ok (.aload_n 0, 1) := by decide +kernel
theorem dX7_takeOrders_25 : decode cX7_takeOrders 25 = .ok (.getfield 16, 3) := by decide +kernel
theorem dX7_takeOrders_28 : decode cX7_takeOrders 28 = .ok (.iload_n 2, 1) := by decide +kernel
theorem dX7_takeOrders_29 : decode cX7_takeOrders 29 = .ok (.bipush 10, 2) := by decide +kernel
theorem dX7_takeOrders_31 : decode cX7_takeOrders 31 = .ok (.iconst (-1), 1) := by decide +kernel
theorem dX7_takeOrders_32 : decode cX7_takeOrders 32 = .ok (.invokevirtual 51, 3) := by decide +kernel
theorem dX7_takeOrders_35 : decode cX7_takeOrders 35 = .ok (.aload_n 0, 1) := by decide +kernel
theorem dX7_takeOrders_36 : decode cX7_takeOrders 36 = .ok (.getfield 16, 3) := by decide +kernel
theorem dX7_takeOrders_39 : decode cX7_takeOrders 39 = .ok (.iload_n 2, 1) := by decide +kernel
theorem dX7_takeOrders_40 : decode cX7_takeOrders 40 = .ok (.iconst 4, 1) := by decide +kernel
theorem dX7_takeOrders_41 : decode cX7_takeOrders 41 = .ok (.invokevirtual 47, 3) := by decide +kernel
theorem dX7_takeOrders_44 : decode cX7_takeOrders 44 = .ok (.iconst 1, 1) := by decide +kernel
theorem dX7_takeOrders_45 : decode cX7_takeOrders 45 = .ok (.if_icmp .ne 23, 3) := by decide +kernel
theorem dX7_takeOrders_48 : decode cX7_takeOrders 48 = .ok (.aload_n 0, 1) := by decide +kernel
theorem dX7_takeOrders_49 : decode cX7_takeOrders 49 = .ok (.getfield 16, 3) := by decide +kernel
theorem dX7_takeOrders_52 : decode cX7_takeOrders 52 = .ok (.iload_n 2, 1) := by decide +kernel
theorem dX7_takeOrders_53 : decode cX7_takeOrders 53 = .ok (.iconst 4, 1) := by decide +kernel
theorem dX7_takeOrders_54 : decode cX7_takeOrders 54 = .ok (.iconst 2, 1) := by decide +kernel
theorem dX7_takeOrders_55 : decode cX7_takeOrders 55 = .ok (.invokevirtual 51, 3) := by decide +kernel
theorem dX7_takeOrders_58 : decode cX7_takeOrders 58 = .ok (.aload_n 0, 1) := by decide +kernel
theorem dX7_takeOrders_59 : decode cX7_takeOrders 59 = .ok (.getfield 16, 3) := by decide +kernel
theorem dX7_takeOrders_62 : decode cX7_takeOrders 62 = .ok (.iload_n 2, 1) := by decide +kernel
theorem dX7_takeOrders_63 : decode cX7_takeOrders 63 = .ok (.iconst 5, 1) := by decide +kernel
theorem dX7_takeOrders_64 : decode cX7_takeOrders 64 = .ok (.iload_n 1, 1) := by decide +kernel
theorem dX7_takeOrders_65 : decode cX7_takeOrders 65 = .ok (.invokevirtual 51, 3) := by decide +kernel
theorem dX7_takeOrders_68 : decode cX7_takeOrders 68 = .ok (.iinc 2 1, 3) := by decide +kernel
theorem dX7_takeOrders_71 : decode cX7_takeOrders 71 = .ok (.goto (-69), 3) := by decide +kernel
theorem dX7_takeOrders_74 : decode cX7_takeOrders 74 = .ok (.return_, 1) := by decide +kernel
theorem dX7_takeStop_0 : decode cX7_takeStop 0 = .ok (.aload_n 0, 1) := by decide +kernel
theorem dX7_takeStop_1 : decode cX7_takeStop 1 = .ok (.getfield 16, 3) := by decide +kernel
theorem dX7_takeStop_4 : decode cX7_takeStop 4 = .ok (.iload_n 1, 1) := by decide +kernel
theorem dX7_takeStop_5 : decode cX7_takeStop 5 = .ok (.bipush 11, 2) := by decide +kernel
theorem dX7_takeStop_7 : decode cX7_takeStop 7 = .ok (.invokevirtual 47, 3) := by decide +kernel
theorem dX7_takeStop_10 : decode cX7_takeStop 10 = .ok (.iload_n 2, 1) := by decide +kernel
theorem dX7_takeStop_11 : decode cX7_takeStop 11 = .ok (.if_icmp .eq 5, 3) := by decide +kernel
theorem dX7_takeStop_14 : decode cX7_takeStop 14 = .ok (.iconst 0, 1) := by decide +kernel
theorem dX7_takeStop_15 : decode cX7_takeStop 15 = .ok (.ireturn, 1) := by decide +kernel
theorem dX7_takeStop_16 : decode cX7_takeStop 16 = .ok (.aload_n 0, 1) := by decide +kernel
theorem dX7_takeStop_17 : decode cX7_takeStop 17 = .ok (.getfield 16, 3) := by decide +kernel
theorem dX7_takeStop_20 : decode cX7_takeStop 20 = .ok (.iload_n 1, 1) := by decide +kernel
theorem dX7_takeStop_21 : decode cX7_takeStop 21 = .ok (.bipush 11, 2) := by decide +kernel
theorem dX7_takeStop_23 : decode cX7_takeStop 23 = .ok (.iconst (-1), 1) := by decide +kernel
theorem dX7_takeStop_24 : decode cX7_takeStop 24 = .ok (.invokevirtual 51, 3) := by decide +kernel
theorem dX7_takeStop_27 : decode cX7_takeStop 27 = .ok (.aload_n 0, 1) := by decide +kernel
theorem dX7_takeStop_28 : decode cX7_takeStop 28 = .ok (.getfield 16, 3) := by decide +kernel
theorem dX7_takeStop_31 : decode cX7_takeStop 31 = .ok (.iload_n 1, 1) := by decide +kernel
theorem dX7_takeStop_32 : decode cX7_takeStop 32 = .ok (.iconst 4, 1) := by decide +kernel
theorem dX7_takeStop_33 : decode cX7_takeStop 33 = .ok (.invokevirtual 47, 3) := by decide +kernel
theorem dX7_takeStop_36 : decode cX7_takeStop 36 = .ok (.iconst 1, 1) := by decide +kernel
theorem dX7_takeStop_37 : decode cX7_takeStop 37 = .ok (.if_icmp .eq 12, 3) := by decide +kernel
theorem dX7_takeStop_40 : decode cX7_takeStop 40 = .ok (.aload_n 0, 1) := by decide +kernel
theorem dX7_takeStop_41 : decode cX7_takeStop 41 = .ok (.iload_n 1, 1) := by decide +kernel
theorem dX7_takeStop_42 : decode cX7_takeStop 42 = .ok (.iload_n 2, 1) := by decide +kernel
theorem dX7_takeStop_43 : decode cX7_takeStop 43 = .ok (.invokevirtual 60, 3) := by decide +kernel
theorem dX7_takeStop_46 : decode cX7_takeStop 46 = .ok (.ifCond .le 7, 3) := by decide +kernel
theorem dX7_takeStop_49 : decode cX7_takeStop 49 = .ok (.iconst 1, 1) := by decide +kernel
theorem dX7_takeStop_50 : decode cX7_takeStop 50 = .ok (.goto 4, 3) := by decide +kernel
theorem dX7_takeStop_53 : decode cX7_takeStop 53 = .ok (.iconst 0, 1) := by decide +kernel
theorem dX7_takeStop_54 : decode cX7_takeStop 54 = .ok (.istore_n 3, 1) := by decide +kernel
theorem dX7_takeStop_55 : decode cX7_takeStop 55 = .ok (.iload_n 3, 1) := by decide +kernel
theorem dX7_takeStop_56 : decode cX7_takeStop 56 = .ok (.ifCond .eq 13, 3) := by decide +kernel
theorem dX7_takeStop_59 : decode cX7_takeStop 59 = .ok (.aload_n 0, 1) := by decide +kernel
theorem dX7_takeStop_60 : decode cX7_takeStop 60 = .ok (.getfield 16, 3) := by decide +kernel
theorem dX7_takeStop_63 : decode cX7_takeStop 63 = .ok (.iload_n 1, 1) := by decide +kernel
theorem dX7_takeStop_64 : decode cX7_takeStop 64 = .ok (.iconst 4, 1) := by decide +kernel
theorem dX7_takeStop_65 : decode cX7_takeStop 65 = .ok (.iconst 3, 1) := by decide +kernel
theorem dX7_takeStop_66 : decode cX7_takeStop 66 = .ok (.invokevirtual 51, 3) := by decide +kernel
theorem dX7_takeStop_69 : decode cX7_takeStop 69 = .ok (.iload_n 3, 1) := by decide +kernel
theorem dX7_takeStop_70 : decode cX7_takeStop 70 = .ok (.ireturn, 1) := by decide +kernel
theorem dX7_workAt_0 : decode cX7_workAt 0 = .ok (.aload_n 0, 1) := by decide +kernel
theorem dX7_workAt_1 : decode cX7_workAt 1 = .ok (.iload_n 1, 1) := by decide +kernel
theorem dX7_workAt_2 : decode cX7_workAt 2 = .ok (.invokevirtual 63, 3) := by decide +kernel
theorem dX7_workAt_5 : decode cX7_workAt 5 = .ok (.istore_n 2, 1) := by decide +kernel
theorem dX7_workAt_6 : decode cX7_workAt 6 = .ok (.iload_n 2, 1) := by decide +kernel
theorem dX7_workAt_7 : decode cX7_workAt 7 = .ok (.iconst (-1), 1) := by decide +kernel
theorem dX7_workAt_8 : decode cX7_workAt 8 = .ok (.if_icmp .ne 4, 3) := by decide +kernel
theorem dX7_workAt_11 : decode cX7_workAt 11 = .ok (.return_, 1) := by decide +kernel
theorem dX7_workAt_12 : decode cX7_workAt 12 = .ok (.aload_n 0, 1) := by decide +kernel
theorem dX7_workAt_13 : decode cX7_workAt 13 = .ok (.getfield 16, 3) := by decide +kernel
theorem dX7_workAt_16 : decode cX7_workAt 16 = .ok (.iload_n 2, 1) := by decide +kernel
theorem dX7_workAt_17 : decode cX7_workAt 17 = .ok (.bipush 12, 2) := by decide +kernel
theorem dX7_workAt_19 : decode cX7_workAt 19 = .ok (.iconst 1, 1) := by decide +kernel
theorem dX7_workAt_20 : decode cX7_workAt 20 = .ok (.invokevirtual 67, 3) := by decide +kernel
theorem dX7_workAt_23 : decode cX7_workAt 23 = .ok (.aload_n 0, 1) := by decide +kernel
theorem dX7_workAt_24 : decode cX7_workAt 24 = .ok (.getfield 16, 3) := by decide +kernel
theorem dX7_workAt_27 : decode cX7_workAt 27 = .ok (.iload_n 2, 1) := by decide +kernel
theorem dX7_workAt_28 : decode cX7_workAt 28 = .ok (.bipush 12, 2) := by decide +kernel
theorem dX7_workAt_30 : decode cX7_workAt 30 = .ok (.invokevirtual 47, 3) := by decide +kernel
theorem dX7_workAt_33 : decode cX7_workAt 33 = .ok (.aload_n 0, 1) := by decide +kernel
theorem dX7_workAt_34 : decode cX7_workAt 34 = .ok (.getfield 16, 3) := by decide +kernel
theorem dX7_workAt_37 : decode cX7_workAt 37 = .ok (.iload_n 2, 1) := by decide +kernel
theorem dX7_workAt_38 : decode cX7_workAt 38 = .ok (.iconst 0, 1) := by decide +kernel
theorem dX7_workAt_39 : decode cX7_workAt 39 = .ok (.invokevirtual 47, 3) := by decide +kernel
theorem dX7_workAt_42 : decode cX7_workAt 42 = .ok (.invokestatic 70, 3) := by decide +kernel
theorem dX7_workAt_45 : decode cX7_workAt 45 = .ok (.if_icmp .lt 25, 3) := by decide +kernel
theorem dX7_workAt_48 : decode cX7_workAt 48 = .ok (.aload_n 0, 1) := by decide +kernel
theorem dX7_workAt_49 : decode cX7_workAt 49 = .ok (.getfield 16, 3) := by decide +kernel
theorem dX7_workAt_52 : decode cX7_workAt 52 = .ok (.iload_n 2, 1) := by decide +kernel
theorem dX7_workAt_53 : decode cX7_workAt 53 = .ok (.bipush 12, 2) := by decide +kernel
theorem dX7_workAt_55 : decode cX7_workAt 55 = .ok (.iconst 0, 1) := by decide +kernel
theorem dX7_workAt_56 : decode cX7_workAt 56 = .ok (.invokevirtual 51, 3) := by decide +kernel
theorem dX7_workAt_59 : decode cX7_workAt 59 = .ok (.aload_n 0, 1) := by decide +kernel
theorem dX7_workAt_60 : decode cX7_workAt 60 = .ok (.getfield 16, 3) := by decide +kernel
theorem dX7_workAt_63 : decode cX7_workAt 63 = .ok (.iload_n 2, 1) := by decide +kernel
theorem dX7_workAt_64 : decode cX7_workAt 64 = .ok (.bipush 6, 2) := by decide +kernel
theorem dX7_workAt_66 : decode cX7_workAt 66 = .ok (.iconst 1, 1) := by decide +kernel
theorem dX7_workAt_67 : decode cX7_workAt 67 = .ok (.invokevirtual 67, 3) := by decide +kernel
theorem dX7_workAt_70 : decode cX7_workAt 70 = .ok (.return_, 1) := by decide +kernel
theorem dX7_nextOf_0 : decode cX7_nextOf 0 = .ok (.iconst (-1), 1) := by decide +kernel
theorem dX7_nextOf_1 : decode cX7_nextOf 1 = .ok (.istore_n 2, 1) := by decide +kernel
theorem dX7_nextOf_2 : decode cX7_nextOf 2 = .ok (.iconst 0, 1) := by decide +kernel
theorem dX7_nextOf_3 : decode cX7_nextOf 3 = .ok (.istore_n 3, 1) := by decide +kernel
theorem dX7_nextOf_4 : decode cX7_nextOf 4 = .ok (.iload_n 3, 1) := by decide +kernel
theorem dX7_nextOf_5 : decode cX7_nextOf 5 = .ok (.aload_n 0, 1) := by decide +kernel
theorem dX7_nextOf_6 : decode cX7_nextOf 6 = .ok (.getfield 23, 3) := by decide +kernel
theorem dX7_nextOf_9 : decode cX7_nextOf 9 = .ok (.if_icmp .ge 97, 3) := by decide +kernel
theorem dX7_nextOf_12 : decode cX7_nextOf 12 = .ok (.aload_n 0, 1) := by decide +kernel
theorem dX7_nextOf_13 : decode cX7_nextOf 13 = .ok (.getfield 16, 3) := by decide +kernel
theorem dX7_nextOf_16 : decode cX7_nextOf 16 = .ok (.iload_n 3, 1) := by decide +kernel
theorem dX7_nextOf_17 : decode cX7_nextOf 17 = .ok (.iconst 2, 1) := by decide +kernel
theorem dX7_nextOf_18 : decode cX7_nextOf 18 = .ok (.invokevirtual 47, 3) := by decide +kernel
theorem dX7_nextOf_21 : decode cX7_nextOf 21 = .ok (.iload_n 1, 1) := by decide +kernel
theorem dX7_nextOf_22 : decode cX7_nextOf 22 = .ok (.if_icmp .ne 42, 3) := by decide +kernel
theorem dX7_nextOf_25 : decode cX7_nextOf 25 = .ok (.aload_n 0, 1) := by decide +kernel
theorem dX7_nextOf_26 : decode cX7_nextOf 26 = .ok (.getfield 16, 3) := by decide +kernel
theorem dX7_nextOf_29 : decode cX7_nextOf 29 = .ok (.iload_n 3, 1) := by decide +kernel
theorem dX7_nextOf_30 : decode cX7_nextOf 30 = .ok (.iconst 4, 1) := by decide +kernel
theorem dX7_nextOf_31 : decode cX7_nextOf 31 = .ok (.invokevirtual 47, 3) := by decide +kernel
theorem dX7_nextOf_34 : decode cX7_nextOf 34 = .ok (.iconst 2, 1) := by decide +kernel
theorem dX7_nextOf_35 : decode cX7_nextOf 35 = .ok (.if_icmp .ne 29, 3) := by decide +kernel
theorem dX7_nextOf_38 : decode cX7_nextOf 38 = .ok (.aload_n 0, 1) := by decide +kernel
theorem dX7_nextOf_39 : decode cX7_nextOf 39 = .ok (.getfield 16, 3) := by decide +kernel
theorem dX7_nextOf_42 : decode cX7_nextOf 42 = .ok (.iload_n 3, 1) := by decide +kernel
theorem dX7_nextOf_43 : decode cX7_nextOf 43 = .ok (.bipush 6, 2) := by decide +kernel
theorem dX7_nextOf_45 : decode cX7_nextOf 45 = .ok (.invokevirtual 47, 3) := by decide +kernel
theorem dX7_nextOf_48 : decode cX7_nextOf 48 = .ok (.aload_n 0, 1) := by decide +kernel
theorem dX7_nextOf_49 : decode cX7_nextOf 49 = .ok (.getfield 16, 3) := by decide +kernel
theorem dX7_nextOf_52 : decode cX7_nextOf 52 = .ok (.iload_n 3, 1) := by decide +kernel
theorem dX7_nextOf_53 : decode cX7_nextOf 53 = .ok (.iconst 1, 1) := by decide +kernel
theorem dX7_nextOf_54 : decode cX7_nextOf 54 = .ok (.invokevirtual 47, 3) := by decide +kernel
theorem dX7_nextOf_57 : decode cX7_nextOf 57 = .ok (.if_icmp .ge 7, 3) := by decide +kernel
theorem dX7_nextOf_60 : decode cX7_nextOf 60 = .ok (.iconst 1, 1) := by decide +kernel
theorem dX7_nextOf_61 : decode cX7_nextOf 61 = .ok (.goto 4, 3) := by decide +kernel
theorem dX7_nextOf_64 : decode cX7_nextOf 64 = .ok (.iconst 0, 1) := by decide +kernel
theorem dX7_nextOf_65 : decode cX7_nextOf 65 = .ok (.istore 4, 2) := by decide +kernel
theorem dX7_nextOf_67 : decode cX7_nextOf 67 = .ok (.iload 4, 2) := by decide +kernel
theorem dX7_nextOf_69 : decode cX7_nextOf 69 = .ok (.ifCond .eq 31, 3) := by decide +kernel
theorem dX7_nextOf_72 : decode cX7_nextOf 72 = .ok (.iload_n 2, 1) := by decide +kernel
theorem dX7_nextOf_73 : decode cX7_nextOf 73 = .ok (.iconst (-1), 1) := by decide +kernel
theorem dX7_nextOf_74 : decode cX7_nextOf 74 = .ok (.if_icmp .eq 24, 3) := by decide +kernel
theorem dX7_nextOf_77 : decode cX7_nextOf 77 = .ok (.aload_n 0, 1) := by decide +kernel
theorem dX7_nextOf_78 : decode cX7_nextOf 78 = .ok (.getfield 16, 3) := by decide +kernel
theorem dX7_nextOf_81 : decode cX7_nextOf 81 = .ok (.iload_n 3, 1) := by decide +kernel
theorem dX7_nextOf_82 : decode cX7_nextOf 82 = .ok (.iconst 5, 1) := by decide +kernel
theorem dX7_nextOf_83 : decode cX7_nextOf 83 = .ok (.invokevirtual 47, 3) := by decide +kernel
theorem dX7_nextOf_86 : decode cX7_nextOf 86 = .ok (.aload_n 0, 1) := by decide +kernel
theorem dX7_nextOf_87 : decode cX7_nextOf 87 = .ok (.getfield 16, 3) := by decide +kernel
theorem dX7_nextOf_90 : decode cX7_nextOf 90 = .ok (.iload_n 2, 1) := by decide +kernel
theorem dX7_nextOf_91 : decode cX7_nextOf 91 = .ok (.iconst 5, 1) := by decide +kernel
theorem dX7_nextOf_92 : decode cX7_nextOf 92 = .ok (.invokevirtual 47, 3) := by decide +kernel
theorem dX7_nextOf_95 : decode cX7_nextOf 95 = .ok (.if_icmp .ge 5, 3) := by decide +kernel
theorem dX7_nextOf_98 : decode cX7_nextOf 98 = .ok (.iload_n 3, 1) := by decide +kernel
theorem dX7_nextOf_99 : decode cX7_nextOf 99 = .ok (.istore_n 2, 1) := by decide +kernel
theorem dX7_nextOf_100 : decode cX7_nextOf 100 = .ok (.iinc 3 1, 3) := by decide +kernel
theorem dX7_nextOf_103 : decode cX7_nextOf 103 = .ok (.goto (-99), 3) := by decide +kernel
theorem dX7_nextOf_106 : decode cX7_nextOf 106 = .ok (.iload_n 2, 1) := by decide +kernel
theorem dX7_nextOf_107 : decode cX7_nextOf 107 = .ok (.ireturn, 1) := by decide +kernel
theorem dX7_leave_0 : decode cX7_leave 0 = .ok (.aload_n 0, 1) := by decide +kernel
theorem dX7_leave_1 : decode cX7_leave 1 = .ok (.getfield 20, 3) := by decide +kernel
theorem dX7_leave_4 : decode cX7_leave 4 = .ok (.iload_n 2, 1) := by decide +kernel
theorem dX7_leave_5 : decode cX7_leave 5 = .ok (.iconst 1, 1) := by decide +kernel
theorem dX7_leave_6 : decode cX7_leave 6 = .ok (.iload_n 3, 1) := by decide +kernel
theorem dX7_leave_7 : decode cX7_leave 7 = .ok (.invokevirtual 51, 3) := by decide +kernel
theorem dX7_leave_10 : decode cX7_leave 10 = .ok (.aload_n 0, 1) := by decide +kernel
theorem dX7_leave_11 : decode cX7_leave 11 = .ok (.getfield 16, 3) := by decide +kernel
theorem dX7_leave_14 : decode cX7_leave 14 = .ok (.iload_n 1, 1) := by decide +kernel
theorem dX7_leave_15 : decode cX7_leave 15 = .ok (.bipush 7, 2) := by decide +kernel
theorem dX7_leave_17 : decode cX7_leave 17 = .ok (.iconst 1, 1) := by decide +kernel
theorem dX7_leave_18 : decode cX7_leave 18 = .ok (.invokevirtual 67, 3) := by decide +kernel
theorem dX7_leave_21 : decode cX7_leave 21 = .ok (.return_, 1) := by decide +kernel
theorem dX7_march_0 : decode cX7_march 0 = .ok (.aload_n 0, 1) := by decide +kernel
theorem dX7_march_1 : decode cX7_march 1 = .ok (.getfield 20, 3) := by decide +kernel
theorem dX7_march_4 : decode cX7_march 4 = .ok (.iload_n 2, 1) := by decide +kernel
theorem dX7_march_5 : decode cX7_march 5 = .ok (.iconst 0, 1) := by decide +kernel
theorem dX7_march_6 : decode cX7_march 6 = .ok (.iconst 1, 1) := by decide +kernel
theorem dX7_march_7 : decode cX7_march 7 = .ok (.invokevirtual 51, 3) := by decide +kernel
theorem dX7_march_10 : decode cX7_march 10 = .ok (.aload_n 0, 1) := by decide +kernel
theorem dX7_march_11 : decode cX7_march 11 = .ok (.getfield 20, 3) := by decide +kernel
theorem dX7_march_14 : decode cX7_march 14 = .ok (.iload_n 2, 1) := by decide +kernel
theorem dX7_march_15 : decode cX7_march 15 = .ok (.iconst 2, 1) := by decide +kernel
theorem dX7_march_16 : decode cX7_march 16 = .ok (.iload_n 3, 1) := by decide +kernel
theorem dX7_march_17 : decode cX7_march 17 = .ok (.invokevirtual 51, 3) := by decide +kernel
theorem dX7_march_20 : decode cX7_march 20 = .ok (.aload_n 0, 1) := by decide +kernel
theorem dX7_march_21 : decode cX7_march 21 = .ok (.getfield 16, 3) := by decide +kernel
theorem dX7_march_24 : decode cX7_march 24 = .ok (.iload_n 1, 1) := by decide +kernel
theorem dX7_march_25 : decode cX7_march 25 = .ok (.bipush 8, 2) := by decide +kernel
theorem dX7_march_27 : decode cX7_march 27 = .ok (.iconst 1, 1) := by decide +kernel
theorem dX7_march_28 : decode cX7_march 28 = .ok (.invokevirtual 67, 3) := by decide +kernel
theorem dX7_march_31 : decode cX7_march 31 = .ok (.return_, 1) := by decide +kernel
theorem dX7_come_0 : decode cX7_come 0 = .ok (.iconst 0, 1) := by decide +kernel
theorem dX7_come_1 : decode cX7_come 1 = .ok (.istore_n 2, 1) := by decide +kernel
theorem dX7_come_2 : decode cX7_come 2 = .ok (.iload_n 2, 1) := by decide +kernel
theorem dX7_come_3 : decode cX7_come 3 = .ok (.aload_n 0, 1) := by decide +kernel
theorem dX7_come_4 : decode cX7_come 4 = .ok (.getfield 23, 3) := by decide +kernel
theorem dX7_come_7 : decode cX7_come 7 = .ok (.if_icmp .ge 87, 3) := by decide +kernel
theorem dX7_come_10 : decode cX7_come 10 = .ok (.iconst 0, 1) := by decide +kernel
theorem dX7_come_11 : decode cX7_come 11 = .ok (.istore_n 3, 1) := by decide +kernel
theorem dX7_come_12 : decode cX7_come 12 = .ok (.iload_n 3, 1) := by decide +kernel
theorem dX7_come_13 : decode cX7_come 13 = .ok (.aload_n 0, 1) := by decide +kernel
theorem dX7_come_14 : decode cX7_come 14 = .ok (.getfield 16, 3) := by decide +kernel
theorem dX7_come_17 : decode cX7_come 17 = .ok (.iload_n 2, 1) := by decide +kernel
theorem dX7_come_18 : decode cX7_come 18 = .ok (.iconst 1, 1) := by decide +kernel
theorem dX7_come_19 : decode cX7_come 19 = .ok (.invokevirtual 47, 3) := by decide +kernel
theorem dX7_come_22 : decode cX7_come 22 = .ok (.if_icmp .ge 66, 3) := by decide +kernel
theorem dX7_come_25 : decode cX7_come 25 = .ok (.iload_n 2, 1) := by decide +kernel
theorem dX7_come_26 : decode cX7_come 26 = .ok (.iload_n 3, 1) := by decide +kernel
theorem dX7_come_27 : decode cX7_come 27 = .ok (.invokestatic 73, 3) := by decide +kernel
theorem dX7_come_30 : decode cX7_come 30 = .ok (.istore 4, 2) := by decide +kernel
theorem dX7_come_32 : decode cX7_come 32 = .ok (.aload_n 0, 1) := by decide +kernel
theorem dX7_come_33 : decode cX7_come 33 = .ok (.getfield 20, 3) := by decide +kernel
theorem dX7_come_36 : decode cX7_come 36 = .ok (.iload 4, 2) := by decide +kernel
theorem dX7_come_38 : decode cX7_come 38 = .ok (.iconst 0, 1) := by decide +kernel
theorem dX7_come_39 : decode cX7_come 39 = .ok (.invokevirtual 47, 3) := by decide +kernel
theorem dX7_come_42 : decode cX7_come 42 = .ok (.iconst 1, 1) := by decide +kernel
theorem dX7_come_43 : decode cX7_come 43 = .ok (.if_icmp .ne 39, 3) := by decide +kernel
theorem dX7_come_46 : decode cX7_come 46 = .ok (.aload_n 0, 1) := by decide +kernel
theorem dX7_come_47 : decode cX7_come 47 = .ok (.getfield 20, 3) := by decide +kernel
theorem dX7_come_50 : decode cX7_come 50 = .ok (.iload 4, 2) := by decide +kernel
theorem dX7_come_52 : decode cX7_come 52 = .ok (.iconst 2, 1) := by decide +kernel
theorem dX7_come_53 : decode cX7_come 53 = .ok (.invokevirtual 47, 3) := by decide +kernel
theorem dX7_come_56 : decode cX7_come 56 = .ok (.iload_n 1, 1) := by decide +kernel
theorem dX7_come_57 : decode cX7_come 57 = .ok (.if_icmp .gt 25, 3) := by decide +kernel
theorem dX7_come_60 : decode cX7_come 60 = .ok (.aload_n 0, 1) := by decide +kernel
theorem dX7_come_61 : decode cX7_come 61 = .ok (.getfield 20, 3) := by decide +kernel
theorem dX7_come_64 : decode cX7_come 64 = .ok (.iload 4, 2) := by decide +kernel
theorem dX7_come_66 : decode cX7_come 66 = .ok (.iconst 0, 1) := by decide +kernel
theorem dX7_come_67 : decode cX7_come 67 = .ok (.iconst 2, 1) := by decide +kernel
theorem dX7_come_68 : decode cX7_come 68 = .ok (.invokevirtual 51, 3) := by decide +kernel
theorem dX7_come_71 : decode cX7_come 71 = .ok (.aload_n 0, 1) := by decide +kernel
theorem dX7_come_72 : decode cX7_come 72 = .ok (.getfield 16, 3) := by decide +kernel
theorem dX7_come_75 : decode cX7_come 75 = .ok (.iload_n 2, 1) := by decide +kernel
theorem dX7_come_76 : decode cX7_come 76 = .ok (.bipush 9, 2) := by decide +kernel
theorem dX7_come_78 : decode cX7_come 78 = .ok (.iconst 1, 1) := by decide +kernel
theorem dX7_come_79 : decode cX7_come 79 = .ok (.invokevirtual 67, 3) := by decide +kernel
theorem dX7_come_82 : decode cX7_come 82 = .ok (.iinc 3 1, 3) := by decide +kernel
theorem dX7_come_85 : decode cX7_come 85 = .ok (.goto (-73), 3) := by decide +kernel
theorem dX7_come_88 : decode cX7_come 88 = .ok (.iinc 2 1, 3) := by decide +kernel
theorem dX7_come_91 : decode cX7_come 91 = .ok (.goto (-89), 3) := by decide +kernel
theorem dX7_come_94 : decode cX7_come 94 = .ok (.return_, 1) := by decide +kernel
theorem dX7_isAtBy_0 : decode cX7_isAtBy 0 = .ok (.aload_n 0, 1) := by decide +kernel
theorem dX7_isAtBy_1 : decode cX7_isAtBy 1 = .ok (.getfield 20, 3) := by decide +kernel
theorem dX7_isAtBy_4 : decode cX7_isAtBy 4 = .ok (.iload_n 1, 1) := by decide +kernel
theorem dX7_isAtBy_5 : decode cX7_isAtBy 5 = .ok (.iconst 0, 1) := by decide +kernel
theorem dX7_isAtBy_6 : decode cX7_isAtBy 6 = .ok (.invokevirtual 47, 3) := by decide +kernel
theorem dX7_isAtBy_9 : decode cX7_isAtBy 9 = .ok (.istore 4, 2) := by decide +kernel
theorem dX7_isAtBy_11 : decode cX7_isAtBy 11 = .ok (.aload_n 0, 1) := by decide +kernel
theorem dX7_isAtBy_12 : decode cX7_isAtBy 12 = .ok (.getfield 20, 3) := by decide +kernel
theorem dX7_isAtBy_15 : decode cX7_isAtBy 15 = .ok (.iload_n 1, 1) := by decide +kernel
theorem dX7_isAtBy_16 : decode cX7_isAtBy 16 = .ok (.iconst 1, 1) := by decide +kernel
theorem dX7_isAtBy_17 : decode cX7_isAtBy 17 = .ok (.invokevirtual 47, 3) := by decide +kernel
theorem dX7_isAtBy_20 : decode cX7_isAtBy 20 = .ok (.iload_n 2, 1) := by decide +kernel
theorem dX7_isAtBy_21 : decode cX7_isAtBy 21 = .ok (.if_icmp .ne 32, 3) := by decide +kernel
theorem dX7_isAtBy_24 : decode cX7_isAtBy 24 = .ok (.iload 4, 2) := by decide +kernel
theorem dX7_isAtBy_26 : decode cX7_isAtBy 26 = .ok (.iconst 2, 1) := by decide +kernel
theorem dX7_isAtBy_27 : decode cX7_isAtBy 27 = .ok (.if_icmp .eq 22, 3) := by decide +kernel
theorem dX7_isAtBy_30 : decode cX7_isAtBy 30 = .ok (.iload 4, 2) := by decide +kernel
theorem dX7_isAtBy_32 : decode cX7_isAtBy 32 = .ok (.iconst 1, 1) := by decide +kernel
theorem dX7_isAtBy_33 : decode cX7_isAtBy 33 = .ok (.if_icmp .ne 20, 3) := by decide +kernel
theorem dX7_isAtBy_36 : decode cX7_isAtBy 36 = .ok (.aload_n 0, 1) := by decide +kernel
theorem dX7_isAtBy_37 : decode cX7_isAtBy 37 = .ok (.getfield 20, 3) := by decide +kernel
theorem dX7_isAtBy_40 : decode cX7_isAtBy 40 = .ok (.iload_n 1, 1) := by decide +kernel
theorem dX7_isAtBy_41 : decode cX7_isAtBy 41 = .ok (.iconst 2, 1) := by decide +kernel
theorem dX7_isAtBy_42 : decode cX7_isAtBy 42 = .ok (.invokevirtual 47, 3) := by decide +kernel
theorem dX7_isAtBy_45 : decode cX7_isAtBy 45 = .ok (.iload_n 3, 1) := by decide +kernel
theorem dX7_isAtBy_46 : decode cX7_isAtBy 46 = .ok (.if_icmp .gt 7, 3) := by decide +kernel
theorem dX7_isAtBy_49 : decode cX7_isAtBy 49 = .ok (.iconst 1, 1) := by decide +kernel
theorem dX7_isAtBy_50 : decode cX7_isAtBy 50 = .ok (.goto 4, 3) := by decide +kernel
theorem dX7_isAtBy_53 : decode cX7_isAtBy 53 = .ok (.iconst 0, 1) := by decide +kernel
theorem dX7_isAtBy_54 : decode cX7_isAtBy 54 = .ok (.ireturn, 1) := by decide +kernel
theorem dX7_countAt_0 : decode cX7_countAt 0 = .ok (.iconst 0, 1) := by decide +kernel
theorem dX7_countAt_1 : decode cX7_countAt 1 = .ok (.istore_n 3, 1) := by decide +kernel
theorem dX7_countAt_2 : decode cX7_countAt 2 = .ok (.iconst 0, 1) := by decide +kernel
theorem dX7_countAt_3 : decode cX7_countAt 3 = .ok (.istore 4, 2) := by decide +kernel
theorem dX7_countAt_5 : decode cX7_countAt 5 = .ok (.iload 4, 2) := by decide +kernel
theorem dX7_countAt_7 : decode cX7_countAt 7 = .ok (.aload_n 0, 1) := by decide +kernel
theorem dX7_countAt_8 : decode cX7_countAt 8 = .ok (.getfield 23, 3) := by decide +kernel
theorem dX7_countAt_11 : decode cX7_countAt 11 = .ok (.if_icmp .ge 37, 3) := by decide +kernel
theorem dX7_countAt_14 : decode cX7_countAt 14 = .ok (.iload_n 2, 1) := by decide +kernel
theorem dX7_countAt_15 : decode cX7_countAt 15 = .ok (.ifCond .eq 17, 3) := by decide +kernel
theorem dX7_countAt_18 : decode cX7_countAt 18 = .ok (.aload_n 0, 1) := by decide +kernel
theorem dX7_countAt_19 : decode cX7_countAt 19 = .ok (.getfield 16, 3) := by decide +kernel
theorem dX7_countAt_22 : decode cX7_countAt 22 = .ok (.iload 4, 2) := by decide +kernel
theorem dX7_countAt_24 : decode cX7_countAt 24 = .ok (.iconst 0, 1) := by decide +kernel
theorem dX7_countAt_25 : decode cX7_countAt 25 = .ok (.invokevirtual 47, 3) := by decide +kernel
theorem dX7_countAt_28 : decode cX7_countAt 28 = .ok (.iconst 4, 1) := by decide +kernel
theorem dX7_countAt_29 : decode cX7_countAt 29 = .ok (.if_icmp .ne 13, 3) := by decide +kernel
theorem dX7_countAt_32 : decode cX7_countAt 32 = .ok (.iload_n 3, 1) := by decide +kernel
theorem dX7_countAt_33 : decode cX7_countAt 33 = .ok (.aload_n 0, 1) := by decide +kernel
theorem dX7_countAt_34 : decode cX7_countAt 34 = .ok (.iload 4, 2) := by decide +kernel
theorem dX7_countAt_36 : decode cX7_countAt 36 = .ok (.iload_n 1, 1) := by decide +kernel
theorem dX7_countAt_37 : decode cX7_countAt 37 = .ok (.invokevirtual 78, 3) := by decide +kernel
theorem dX7_countAt_40 : decode cX7_countAt 40 = .ok (.iadd, 1) := by decide +kernel
theorem dX7_countAt_41 : decode cX7_countAt 41 = .ok (.istore_n 3, 1) := by decide +kernel
theorem dX7_countAt_42 : decode cX7_countAt 42 = .ok (.iinc 4 1, 3) := by decide +kernel
theorem dX7_countAt_45 : decode cX7_countAt 45 = .ok (.goto (-40), 3) := by decide +kernel
theorem dX7_countAt_48 : decode cX7_countAt 48 = .ok (.iload_n 3, 1) := by decide +kernel
theorem dX7_countAt_49 : decode cX7_countAt 49 = .ok (.ireturn, 1) := by decide +kernel
theorem dX7_weightAt_0 : decode cX7_weightAt 0 = .ok (.iconst 0, 1) := by decide +kernel
theorem dX7_weightAt_1 : decode cX7_weightAt 1 = .ok (.istore_n 2, 1) := by decide +kernel
theorem dX7_weightAt_2 : decode cX7_weightAt 2 = .ok (.iconst 0, 1) := by decide +kernel
theorem dX7_weightAt_3 : decode cX7_weightAt 3 = .ok (.istore_n 3, 1) := by decide +kernel
theorem dX7_weightAt_4 : decode cX7_weightAt 4 = .ok (.iload_n 3, 1) := by decide +kernel
theorem dX7_weightAt_5 : decode cX7_weightAt 5 = .ok (.aload_n 0, 1) := by decide +kernel
theorem dX7_weightAt_6 : decode cX7_weightAt 6 = .ok (.getfield 23, 3) := by decide +kernel
theorem dX7_weightAt_9 : decode cX7_weightAt 9 = .ok (.if_icmp .ge 31, 3) := by decide +kernel
theorem dX7_weightAt_12 : decode cX7_weightAt 12 = .ok (.iload_n 2, 1) := by decide +kernel
theorem dX7_weightAt_13 : decode cX7_weightAt 13 = .ok (.aload_n 0, 1) := by decide +kernel
theorem dX7_weightAt_14 : decode cX7_weightAt 14 = .ok (.iload_n 3, 1) := by decide +kernel
theorem dX7_weightAt_15 : decode cX7_weightAt 15 = .ok (.iload_n 1, 1) := by decide +kernel
theorem dX7_weightAt_16 : decode cX7_weightAt 16 = .ok (.invokevirtual 78, 3) := by decide +kernel
theorem dX7_weightAt_19 : decode cX7_weightAt 19 = .ok (.aload_n 0, 1) := by decide +kernel
theorem dX7_weightAt_20 : decode cX7_weightAt 20 = .ok (.getfield 16, 3) := by decide +kernel
theorem dX7_weightAt_23 : decode cX7_weightAt 23 = .ok (.iload_n 3, 1) := by decide +kernel
theorem dX7_weightAt_24 : decode cX7_weightAt 24 = .ok (.iconst 0, 1) := by decide +kernel
theorem dX7_weightAt_25 : decode cX7_weightAt 25 = .ok (.invokevirtual 47, 3) := by decide +kernel
theorem dX7_weightAt_28 : decode cX7_weightAt 28 = .ok (.invokestatic 81, 3) := by decide +kernel
theorem dX7_weightAt_31 : decode cX7_weightAt 31 = .ok (.imul, 1) := by decide +kernel
theorem dX7_weightAt_32 : decode cX7_weightAt 32 = .ok (.iadd, 1) := by decide +kernel
theorem dX7_weightAt_33 : decode cX7_weightAt 33 = .ok (.istore_n 2, 1) := by decide +kernel
theorem dX7_weightAt_34 : decode cX7_weightAt 34 = .ok (.iinc 3 1, 3) := by decide +kernel
theorem dX7_weightAt_37 : decode cX7_weightAt 37 = .ok (.goto (-33), 3) := by decide +kernel
theorem dX7_weightAt_40 : decode cX7_weightAt 40 = .ok (.iload_n 2, 1) := by decide +kernel
theorem dX7_weightAt_41 : decode cX7_weightAt 41 = .ok (.ireturn, 1) := by decide +kernel
theorem dX7_countLoadsAt_0 : decode cX7_countLoadsAt 0 = .ok (.iconst 0, 1) := by decide +kernel
theorem dX7_countLoadsAt_1 : decode cX7_countLoadsAt 1 = .ok (.istore_n 3, 1) := by decide +kernel
theorem dX7_countLoadsAt_2 : decode cX7_countLoadsAt 2 = .ok (.iconst 0, 1) := by decide +kernel
theorem dX7_countLoadsAt_3 : decode cX7_countLoadsAt 3 = .ok (.istore 4, 2) := by decide +kernel
theorem dX7_countLoadsAt_5 : decode cX7_countLoadsAt 5 = .ok (.iload 4, 2) := by decide +kernel
theorem dX7_countLoadsAt_7 : decode cX7_countLoadsAt 7 = .ok (.aload_n 0, 1) := by decide +kernel
theorem dX7_countLoadsAt_8 : decode cX7_countLoadsAt 8 = .ok (.getfield 16, 3) := by decide +kernel
theorem dX7_countLoadsAt_11 : decode cX7_countLoadsAt 11 = .ok (.iload_n 1, 1) := by decide +kernel
theorem dX7_countLoadsAt_12 : decode cX7_countLoadsAt 12 = .ok (.iconst 1, 1) := by decide +kernel
theorem dX7_countLoadsAt_13 : decode cX7_countLoadsAt 13 = .ok (.invokevirtual 47, 3) := by decide +kernel
theorem dX7_countLoadsAt_16 : decode cX7_countLoadsAt 16 = .ok (.if_icmp .ge 65, 3) := by decide +kernel
theorem dX7_countLoadsAt_19 : decode cX7_countLoadsAt 19 = .ok (.iload_n 1, 1) := by decide +kernel
theorem dX7_countLoadsAt_20 : decode cX7_countLoadsAt 20 = .ok (.iload 4, 2) := by decide +kernel
theorem dX7_countLoadsAt_22 : decode cX7_countLoadsAt 22 = .ok (.invokestatic 73, 3) := by decide +kernel
theorem dX7_countLoadsAt_25 : decode cX7_countLoadsAt 25 = .ok (.istore 5, 2) := by decide +kernel
theorem dX7_countLoadsAt_27 : decode cX7_countLoadsAt 27 = .ok (.aload_n 0, 1) := by decide +kernel
theorem dX7_countLoadsAt_28 : decode cX7_countLoadsAt 28 = .ok (.getfield 20, 3) := by decide +kernel
theorem dX7_countLoadsAt_31 : decode cX7_countLoadsAt 31 = .ok (.iload 5, 2) := by decide +kernel
theorem dX7_countLoadsAt_33 : decode cX7_countLoadsAt 33 = .ok (.iconst 0, 1) := by decide +kernel
theorem dX7_countLoadsAt_34 : decode cX7_countLoadsAt 34 = .ok (.invokevirtual 47, 3) := by decide +kernel
theorem dX7_countLoadsAt_37 : decode cX7_countLoadsAt 37 = .ok (.iconst 2, 1) := by decide +kernel
theorem dX7_countLoadsAt_38 : decode cX7_countLoadsAt 38 = .ok (.if_icmp .ne 21, 3) := by decide +kernel
theorem dX7_countLoadsAt_41 : decode cX7_countLoadsAt 41 = .ok (.aload_n 0, 1) := by decide +kernel
theorem dX7_countLoadsAt_42 : decode cX7_countLoadsAt 42 = .ok (.getfield 20, 3) := by decide +kernel
theorem dX7_countLoadsAt_45 : decode cX7_countLoadsAt 45 = .ok (.iload 5, 2) := by decide +kernel
theorem dX7_countLoadsAt_47 : decode cX7_countLoadsAt 47 = .ok (.iconst 1, 1) := by decide +kernel
theorem dX7_countLoadsAt_48 : decode cX7_countLoadsAt 48 = .ok (.invokevirtual 47, 3) := by decide +kernel
theorem dX7_countLoadsAt_51 : decode cX7_countLoadsAt 51 = .ok (.iload_n 2, 1) := by decide +kernel
theorem dX7_countLoadsAt_52 : decode cX7_countLoadsAt 52 = .ok (.if_icmp .ne 7, 3) := by decide +kernel
theorem dX7_countLoadsAt_55 : decode cX7_countLoadsAt 55 = .ok (.iconst 1, 1) := by decide +kernel
theorem dX7_countLoadsAt_56 : decode cX7_countLoadsAt 56 = .ok (.goto 4, 3) := by decide +kernel
theorem dX7_countLoadsAt_59 : decode cX7_countLoadsAt 59 = .ok (.iconst 0, 1) := by decide +kernel
theorem dX7_countLoadsAt_60 : decode cX7_countLoadsAt 60 = .ok (.istore 6, 2) := by decide +kernel
theorem dX7_countLoadsAt_62 : decode cX7_countLoadsAt 62 = .ok (.iload_n 3, 1) := by decide +kernel
theorem dX7_countLoadsAt_63 : decode cX7_countLoadsAt 63 = .ok (.iload 6, 2) := by decide +kernel
theorem dX7_countLoadsAt_65 : decode cX7_countLoadsAt 65 = .ok (.ifCond .eq 7, 3) := by decide +kernel
theorem dX7_countLoadsAt_68 : decode cX7_countLoadsAt 68 = .ok (.iconst 1, 1) := by decide +kernel
theorem dX7_countLoadsAt_69 : decode cX7_countLoadsAt 69 = .ok (.goto 4, 3) := by decide +kernel
theorem dX7_countLoadsAt_72 : decode cX7_countLoadsAt 72 = .ok (.iconst 0, 1) := by decide +kernel
theorem dX7_countLoadsAt_73 : decode cX7_countLoadsAt 73 = .ok (.iadd, 1) := by decide +kernel
theorem dX7_countLoadsAt_74 : decode cX7_countLoadsAt 74 = .ok (.istore_n 3, 1) := by decide +kernel
theorem dX7_countLoadsAt_75 : decode cX7_countLoadsAt 75 = .ok (.iinc 4 1, 3) := by decide +kernel
theorem dX7_countLoadsAt_78 : decode cX7_countLoadsAt 78 = .ok (.goto (-73), 3) := by decide +kernel
theorem dX7_countLoadsAt_81 : decode cX7_countLoadsAt 81 = .ok (.iload_n 3, 1) := by decide +kernel
theorem dX7_countLoadsAt_82 : decode cX7_countLoadsAt 82 = .ok (.ireturn, 1) := by decide +kernel
theorem dX7_areSound_0 : decode cX7_areSound 0 = .ok (.iconst 0, 1) := by decide +kernel
theorem dX7_areSound_1 : decode cX7_areSound 1 = .ok (.istore_n 1, 1) := by decide +kernel
theorem dX7_areSound_2 : decode cX7_areSound 2 = .ok (.iload_n 1, 1) := by decide +kernel
theorem dX7_areSound_3 : decode cX7_areSound 3 = .ok (.aload_n 0, 1) := by decide +kernel
theorem dX7_areSound_4 : decode cX7_areSound 4 = .ok (.getfield 23, 3) := by decide +kernel
theorem dX7_areSound_7 : decode cX7_areSound 7 = .ok (.if_icmp .ge 90, 3) := by decide +kernel
theorem dX7_areSound_10 : decode cX7_areSound 10 = .ok (.aload_n 0, 1) := by decide +kernel
theorem dX7_areSound_11 : decode cX7_areSound 11 = .ok (.getfield 16, 3) := by decide +kernel
theorem dX7_areSound_14 : decode cX7_areSound 14 = .ok (.iload_n 1, 1) := by decide +kernel
theorem dX7_areSound_15 : decode cX7_areSound 15 = .ok (.bipush 9, 2) := by decide +kernel
theorem dX7_areSound_17 : decode cX7_areSound 17 = .ok (.invokevirtual 47, 3) := by decide +kernel
theorem dX7_areSound_20 : decode cX7_areSound 20 = .ok (.aload_n 0, 1) := by decide +kernel
theorem dX7_areSound_21 : decode cX7_areSound 21 = .ok (.getfield 16, 3) := by decide +kernel
theorem dX7_areSound_24 : decode cX7_areSound 24 = .ok (.iload_n 1, 1) := by decide +kernel
theorem dX7_areSound_25 : decode cX7_areSound 25 = .ok (.bipush 8, 2) := by decide +kernel
theorem dX7_areSound_27 : decode cX7_areSound 27 = .ok (.invokevirtual 47, 3) := by decide +kernel
theorem dX7_areSound_30 : decode cX7_areSound 30 = .ok (.if_icmp .gt 53, 3) := by decide +kernel
theorem dX7_areSound_33 : decode cX7_areSound 33 = .ok (.aload_n 0, 1) := by decide +kernel
theorem dX7_areSound_34 : decode cX7_areSound 34 = .ok (.getfield 16, 3) := by decide +kernel
theorem dX7_areSound_37 : decode cX7_areSound 37 = .ok (.iload_n 1, 1) := by decide +kernel
theorem dX7_areSound_38 : decode cX7_areSound 38 = .ok (.bipush 8, 2) := by decide +kernel
theorem dX7_areSound_40 : decode cX7_areSound 40 = .ok (.invokevirtual 47, 3) := by decide +kernel
theorem dX7_areSound_43 : decode cX7_areSound 43 = .ok (.aload_n 0, 1) := by decide +kernel
theorem dX7_areSound_44 : decode cX7_areSound 44 = .ok (.getfield 16, 3) := by decide +kernel
theorem dX7_areSound_47 : decode cX7_areSound 47 = .ok (.iload_n 1, 1) := by decide +kernel
theorem dX7_areSound_48 : decode cX7_areSound 48 = .ok (.bipush 7, 2) := by decide +kernel
theorem dX7_areSound_50 : decode cX7_areSound 50 = .ok (.invokevirtual 47, 3) := by decide +kernel
theorem dX7_areSound_53 : decode cX7_areSound 53 = .ok (.if_icmp .gt 30, 3) := by decide +kernel
theorem dX7_areSound_56 : decode cX7_areSound 56 = .ok (.aload_n 0, 1) := by decide +kernel
theorem dX7_areSound_57 : decode cX7_areSound 57 = .ok (.getfield 16, 3) := by decide +kernel
theorem dX7_areSound_60 : decode cX7_areSound 60 = .ok (.iload_n 1, 1) := by decide +kernel
theorem dX7_areSound_61 : decode cX7_areSound 61 = .ok (.bipush 7, 2) := by decide +kernel
theorem dX7_areSound_63 : decode cX7_areSound 63 = .ok (.invokevirtual 47, 3) := by decide +kernel
theorem dX7_areSound_66 : decode cX7_areSound 66 = .ok (.aload_n 0, 1) := by decide +kernel
theorem dX7_areSound_67 : decode cX7_areSound 67 = .ok (.getfield 16, 3) := by decide +kernel
theorem dX7_areSound_70 : decode cX7_areSound 70 = .ok (.iload_n 1, 1) := by decide +kernel
theorem dX7_areSound_71 : decode cX7_areSound 71 = .ok (.bipush 6, 2) := by decide +kernel
theorem dX7_areSound_73 : decode cX7_areSound 73 = .ok (.invokevirtual 47, 3) := by decide +kernel
theorem dX7_areSound_76 : decode cX7_areSound 76 = .ok (.if_icmp .gt 7, 3) := by decide +kernel
theorem dX7_areSound_79 : decode cX7_areSound 79 = .ok (.iconst 1, 1) := by decide +kernel
theorem dX7_areSound_80 : decode cX7_areSound 80 = .ok (.goto 4, 3) := by decide +kernel
theorem dX7_areSound_83 : decode cX7_areSound 83 = .ok (.iconst 0, 1) := by decide +kernel
theorem dX7_areSound_84 : decode cX7_areSound 84 = .ok (.istore_n 2, 1) := by decide +kernel
theorem dX7_areSound_85 : decode cX7_areSound 85 = .ok (.iload_n 2, 1) := by decide +kernel
theorem dX7_areSound_86 : decode cX7_areSound 86 = .ok (.ifCond .ne 5, 3) := by decide +kernel
theorem dX7_areSound_89 : decode cX7_areSound 89 = .ok (.iconst 0, 1) := by decide +kernel
theorem dX7_areSound_90 : decode cX7_areSound 90 = .ok (.ireturn, 1) := by decide +kernel
theorem dX7_areSound_91 : decode cX7_areSound 91 = .ok (.iinc 1 1, 3) := by decide +kernel
theorem dX7_areSound_94 : decode cX7_areSound 94 = .ok (.goto (-92), 3) := by decide +kernel
theorem dX7_areSound_97 : decode cX7_areSound 97 = .ok (.iconst 1, 1) := by decide +kernel
theorem dX7_areSound_98 : decode cX7_areSound 98 = .ok (.ireturn, 1) := by decide +kernel
