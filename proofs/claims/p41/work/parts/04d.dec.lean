theorem dX8_init_0 : decode cX8_init 0 = .ok (.aload_n 0, 1) := by decide +kernel
theorem dX8_init_1 : decode cX8_init 1 = .ok (.invokespecial 1, 3) := by decide +kernel
theorem dX8_init_4 : decode cX8_init 4 = .ok (.aload_n 0, 1) := by decide +kernel
theorem dX8_init_5 : decode cX8_init 5 = .ok (.new 7, 3) := by decide +kernel
theorem dX8_init_8 : decode cX8_init 8 = .ok (.dup, 1) := by decide +kernel
theorem dX8_init_9 : decode cX8_init 9 = .ok (.invokespecial 9, 3) := by decide +kernel
theorem dX8_init_12 : decode cX8_init 12 = .ok (.putfield 10, 3) := by decide +kernel
theorem dX8_init_15 : decode cX8_init 15 = .ok (.aload_n 0, 1) := by decide +kernel
theorem dX8_init_16 : decode cX8_init 16 = .ok (.new 16, 3) := by decide +kernel
theorem dX8_init_19 : decode cX8_init 19 = .ok (.dup, 1) := by decide +kernel
theorem dX8_init_20 : decode cX8_init 20 = .ok (.invokespecial 18, 3) := by decide +kernel
theorem dX8_init_23 : decode cX8_init 23 = .ok (.putfield 19, 3) := by decide +kernel
theorem dX8_init_26 : decode cX8_init 26 = .ok (.aload_n 0, 1) := by decide +kernel
theorem dX8_init_27 : decode cX8_init 27 = .ok (.new 23, 3) := by decide +kernel
theorem dX8_init_30 : decode cX8_init 30 = .ok (.dup, 1) := by decide +kernel
theorem dX8_init_31 : decode cX8_init 31 = .ok (.invokespecial 25, 3) := by decide +kernel
theorem dX8_init_34 : decode cX8_init 34 = .ok (.putfield 26, 3) := by decide +kernel
theorem dX8_init_37 : decode cX8_init 37 = .ok (.aload_n 0, 1) := by decide +kernel
theorem dX8_init_38 : decode cX8_init 38 = .ok (.new 23, 3) := by decide +kernel
theorem dX8_init_41 : decode cX8_init 41 = .ok (.dup, 1) := by decide +kernel
theorem dX8_init_42 : decode cX8_init 42 = .ok (.invokespecial 25, 3) := by decide +kernel
theorem dX8_init_45 : decode cX8_init 45 = .ok (.putfield 30, 3) := by decide +kernel
theorem dX8_init_48 : decode cX8_init 48 = .ok (.aload_n 0, 1) := by decide +kernel
theorem dX8_init_49 : decode cX8_init 49 = .ok (.new 33, 3) := by decide +kernel
theorem dX8_init_52 : decode cX8_init 52 = .ok (.dup, 1) := by decide +kernel
theorem dX8_init_53 : decode cX8_init 53 = .ok (.invokespecial 35, 3) := by decide +kernel
theorem dX8_init_56 : decode cX8_init 56 = .ok (.putfield 36, 3) := by decide +kernel
theorem dX8_init_59 : decode cX8_init 59 = .ok (.aload_n 0, 1) := by decide +kernel
theorem dX8_init_60 : decode cX8_init 60 = .ok (.new 40, 3) := by decide +kernel
theorem dX8_init_63 : decode cX8_init 63 = .ok (.dup, 1) := by decide +kernel
theorem dX8_init_64 : decode cX8_init 64 = .ok (.invokespecial 42, 3) := by decide +kernel
theorem dX8_init_67 : decode cX8_init 67 = .ok (.putfield 43, 3) := by decide +kernel
theorem dX8_init_70 : decode cX8_init 70 = .ok (.aload_n 0, 1) := by decide +kernel
theorem dX8_init_71 : decode cX8_init 71 = .ok (.new 47, 3) := by decide +kernel
theorem dX8_init_74 : decode cX8_init 74 = .ok (.dup, 1) := by decide +kernel
theorem dX8_init_75 : decode cX8_init 75 = .ok (.invokespecial 49, 3) := by decide +kernel
theorem dX8_init_78 : decode cX8_init 78 = .ok (.putfield 50, 3) := by decide +kernel
theorem dX8_init_81 : decode cX8_init 81 = .ok (.aload_n 0, 1) := by decide +kernel
theorem dX8_init_82 : decode cX8_init 82 = .ok (.new 54, 3) := by decide +kernel
theorem dX8_init_85 : decode cX8_init 85 = .ok (.dup, 1) := by decide +kernel
theorem dX8_init_86 : decode cX8_init 86 = .ok (.invokespecial 56, 3) := by decide +kernel
theorem dX8_init_89 : decode cX8_init 89 = .ok (.putfield 57, 3) := by decide +kernel
theorem dX8_init_92 : decode cX8_init 92 = .ok (.aload_n 0, 1) := by decide +kernel
theorem dX8_init_93 : decode cX8_init 93 = .ok (.new 61, 3) := by decide +kernel
theorem dX8_init_96 : decode cX8_init 96 = .ok (.dup, 1) := by decide +kernel
theorem dX8_init_97 : decode cX8_init 97 = .ok (.iconst 4, 1) := by decide +kernel
theorem dX8_init_98 : decode cX8_init 98 = .ok (.bipush 6, 2) := by decide +kernel
theorem dX8_init_100 : decode cX8_init 100 = .ok (.invokespecial 63, 3) := by decide +kernel
theorem dX8_init_103 : decode cX8_init 103 = .ok (.putfield 66, 3) := by decide +kernel
theorem dX8_init_106 : decode cX8_init 106 = .ok (.aload_n 0, 1) := by decide +kernel
theorem dX8_init_107 : decode cX8_init 107 = .ok (.iconst 0, 1) := by decide +kernel
theorem dX8_init_108 : decode cX8_init 108 = .ok (.putfield 70, 3) := by decide +kernel
theorem dX8_init_111 : decode cX8_init 111 = .ok (.aload_n 0, 1) := by decide +kernel
theorem dX8_init_112 : decode cX8_init 112 = .ok (.iconst 0, 1) := by decide +kernel
theorem dX8_init_113 : decode cX8_init 113 = .ok (.putfield 74, 3) := by decide +kernel
theorem dX8_init_116 : decode cX8_init 116 = .ok (.return_, 1) := by decide +kernel
theorem dX8_land_0 : decode cX8_land 0 = .ok (.iload_n 1, 1) := by decide +kernel
theorem dX8_land_1 : decode cX8_land 1 = .ok (.iload_n 2, 1) := by decide +kernel
theorem dX8_land_2 : decode cX8_land 2 = .ok (.invokestatic 112, 3) := by decide +kernel
theorem dX8_land_5 : decode cX8_land 5 = .ok (.ifCond .eq 13, 3) := by decide +kernel
theorem dX8_land_8 : decode cX8_land 8 = .ok (.new 77, 3) := by decide +kernel
theorem dX8_land_11 : decode cX8_land 11 = .ok (.dup, 1) := by decide +kernel
theorem dX8_land_12 : decode cX8_land 12 = .ok (.ldc 116, 2) := by decide +kernel
theorem dX8_land_14 : decode cX8_land 14 = .ok (.invokespecial 81, 3) := by decide +kernel
theorem dX8_land_17 : decode cX8_land 17 = .ok (.athrow, 1) := by decide +kernel
theorem dX8_land_18 : decode cX8_land 18 = .ok (.aload_n 0, 1) := by decide +kernel
theorem dX8_land_19 : decode cX8_land 19 = .ok (.getfield 10, 3) := by decide +kernel
theorem dX8_land_22 : decode cX8_land 22 = .ok (.invokevirtual 88, 3) := by decide +kernel
theorem dX8_land_25 : decode cX8_land 25 = .ok (.ifCond .le 13, 3) := by decide +kernel
theorem dX8_land_28 : decode cX8_land 28 = .ok (.new 92, 3) := by decide +kernel
theorem dX8_land_31 : decode cX8_land 31 = .ok (.dup, 1) := by decide +kernel
theorem dX8_land_32 : decode cX8_land 32 = .ok (.ldc 127, 2) := by decide +kernel
theorem dX8_land_34 : decode cX8_land 34 = .ok (.invokespecial 96, 3) := by decide +kernel
theorem dX8_land_37 : decode cX8_land 37 = .ok (.athrow, 1) := by decide +kernel
theorem dX8_land_38 : decode cX8_land 38 = .ok (.aload_n 0, 1) := by decide +kernel
theorem dX8_land_39 : decode cX8_land 39 = .ok (.getfield 10, 3) := by decide +kernel
theorem dX8_land_42 : decode cX8_land 42 = .ok (.iload_n 1, 1) := by decide +kernel
theorem dX8_land_43 : decode cX8_land 43 = .ok (.iload_n 2, 1) := by decide +kernel
theorem dX8_land_44 : decode cX8_land 44 = .ok (.invokevirtual 129, 3) := by decide +kernel
theorem dX8_land_47 : decode cX8_land 47 = .ok (.aload_n 0, 1) := by decide +kernel
theorem dX8_land_48 : decode cX8_land 48 = .ok (.getfield 10, 3) := by decide +kernel
theorem dX8_land_51 : decode cX8_land 51 = .ok (.invokevirtual 118, 3) := by decide +kernel
theorem dX8_land_54 : decode cX8_land 54 = .ok (.ireturn, 1) := by decide +kernel
theorem dX8_bridge_0 : decode cX8_bridge 0 = .ok (.aload_n 0, 1) := by decide +kernel
theorem dX8_bridge_1 : decode cX8_bridge 1 = .ok (.getfield 10, 3) := by decide +kernel
theorem dX8_bridge_4 : decode cX8_bridge 4 = .ok (.iload_n 1, 1) := by decide +kernel
theorem dX8_bridge_5 : decode cX8_bridge 5 = .ok (.invokevirtual 132, 3) := by decide +kernel
theorem dX8_bridge_8 : decode cX8_bridge 8 = .ok (.ifCond .ne 13, 3) := by decide +kernel
theorem dX8_bridge_11 : decode cX8_bridge 11 = .ok (.new 105, 3) := by decide +kernel
theorem dX8_bridge_14 : decode cX8_bridge 14 = .ok (.dup, 1) := by decide +kernel
theorem dX8_bridge_15 : decode cX8_bridge 15 = .ok (.ldc 135, 2) := by decide +kernel
theorem dX8_bridge_17 : decode cX8_bridge 17 = .ok (.invokespecial 109, 3) := by decide +kernel
theorem dX8_bridge_20 : decode cX8_bridge 20 = .ok (.athrow, 1) := by decide +kernel
theorem dX8_bridge_21 : decode cX8_bridge 21 = .ok (.aload_n 0, 1) := by decide +kernel
theorem dX8_bridge_22 : decode cX8_bridge 22 = .ok (.getfield 10, 3) := by decide +kernel
theorem dX8_bridge_25 : decode cX8_bridge 25 = .ok (.iload_n 1, 1) := by decide +kernel
theorem dX8_bridge_26 : decode cX8_bridge 26 = .ok (.invokevirtual 137, 3) := by decide +kernel
theorem dX8_bridge_29 : decode cX8_bridge 29 = .ok (.ireturn, 1) := by decide +kernel
theorem dX8_ofStation_0 : decode cX8_ofStation 0 = .ok (.aload_n 0, 1) := by decide +kernel
theorem dX8_ofStation_1 : decode cX8_ofStation 1 = .ok (.getfield 10, 3) := by decide +kernel
theorem dX8_ofStation_4 : decode cX8_ofStation 4 = .ok (.iload_n 1, 1) := by decide +kernel
theorem dX8_ofStation_5 : decode cX8_ofStation 5 = .ok (.invokevirtual 101, 3) := by decide +kernel
theorem dX8_ofStation_8 : decode cX8_ofStation 8 = .ok (.ifCond .ne 13, 3) := by decide +kernel
theorem dX8_ofStation_11 : decode cX8_ofStation 11 = .ok (.new 105, 3) := by decide +kernel
theorem dX8_ofStation_14 : decode cX8_ofStation 14 = .ok (.dup, 1) := by decide +kernel
theorem dX8_ofStation_15 : decode cX8_ofStation 15 = .ok (.ldc 107, 2) := by decide +kernel
theorem dX8_ofStation_17 : decode cX8_ofStation 17 = .ok (.invokespecial 109, 3) := by decide +kernel
theorem dX8_ofStation_20 : decode cX8_ofStation 20 = .ok (.athrow, 1) := by decide +kernel
theorem dX8_ofStation_21 : decode cX8_ofStation 21 = .ok (.iload_n 2, 1) := by decide +kernel
theorem dX8_ofStation_22 : decode cX8_ofStation 22 = .ok (.ifCond .lt 8, 3) := by decide +kernel
theorem dX8_ofStation_25 : decode cX8_ofStation 25 = .ok (.iload_n 2, 1) := by decide +kernel
theorem dX8_ofStation_26 : decode cX8_ofStation 26 = .ok (.iconst 5, 1) := by decide +kernel
theorem dX8_ofStation_27 : decode cX8_ofStation 27 = .ok (.if_icmp .le 13, 3) := by decide +kernel
theorem dX8_ofStation_30 : decode cX8_ofStation 30 = .ok (.new 77, 3) := by decide +kernel
theorem dX8_ofStation_33 : decode cX8_ofStation 33 = .ok (.dup, 1) := by decide +kernel
theorem dX8_ofStation_34 : decode cX8_ofStation 34 = .ok (.ldc 152, 2) := by decide +kernel
theorem dX8_ofStation_36 : decode cX8_ofStation 36 = .ok (.invokespecial 81, 3) := by decide +kernel
theorem dX8_ofStation_39 : decode cX8_ofStation 39 = .ok (.athrow, 1) := by decide +kernel
theorem dX8_ofStation_40 : decode cX8_ofStation 40 = .ok (.aload_n 0, 1) := by decide +kernel
theorem dX8_ofStation_41 : decode cX8_ofStation 41 = .ok (.iload_n 1, 1) := by decide +kernel
theorem dX8_ofStation_42 : decode cX8_ofStation 42 = .ok (.iload_n 2, 1) := by decide +kernel
theorem dX8_ofStation_43 : decode cX8_ofStation 43 = .ok (.invokevirtual 154, 3) := by decide +kernel
theorem dX8_ofStation_46 : decode cX8_ofStation 46 = .ok (.ireturn, 1) := by decide +kernel
theorem dX8_ofLine_0 : decode cX8_ofLine 0 = .ok (.aload_n 0, 1) := by decide +kernel
theorem dX8_ofLine_1 : decode cX8_ofLine 1 = .ok (.getfield 10, 3) := by decide +kernel
theorem dX8_ofLine_4 : decode cX8_ofLine 4 = .ok (.iload_n 1, 1) := by decide +kernel
theorem dX8_ofLine_5 : decode cX8_ofLine 5 = .ok (.invokevirtual 132, 3) := by decide +kernel
theorem dX8_ofLine_8 : decode cX8_ofLine 8 = .ok (.ifCond .ne 13, 3) := by decide +kernel
theorem dX8_ofLine_11 : decode cX8_ofLine 11 = .ok (.new 105, 3) := by decide +kernel
theorem dX8_ofLine_14 : decode cX8_ofLine 14 = .ok (.dup, 1) := by decide +kernel
theorem dX8_ofLine_15 : decode cX8_ofLine 15 = .ok (.ldc 135, 2) := by decide +kernel
theorem dX8_ofLine_17 : decode cX8_ofLine 17 = .ok (.invokespecial 109, 3) := by decide +kernel
theorem dX8_ofLine_20 : decode cX8_ofLine 20 = .ok (.athrow, 1) := by decide +kernel
theorem dX8_ofLine_21 : decode cX8_ofLine 21 = .ok (.iload_n 2, 1) := by decide +kernel
theorem dX8_ofLine_22 : decode cX8_ofLine 22 = .ok (.ifCond .lt 9, 3) := by decide +kernel
theorem dX8_ofLine_25 : decode cX8_ofLine 25 = .ok (.iload_n 2, 1) := by decide +kernel
theorem dX8_ofLine_26 : decode cX8_ofLine 26 = .ok (.bipush 6, 2) := by decide +kernel
theorem dX8_ofLine_28 : decode cX8_ofLine 28 = .ok (.if_icmp .le 13, 3) := by decide +kernel
theorem dX8_ofLine_31 : decode cX8_ofLine 31 = .ok (.new 77, 3) := by decide +kernel
theorem dX8_ofLine_34 : decode cX8_ofLine 34 = .ok (.dup, 1) := by decide +kernel
theorem dX8_ofLine_35 : decode cX8_ofLine 35 = .ok (.ldc 157, 2) := by decide +kernel
theorem dX8_ofLine_37 : decode cX8_ofLine 37 = .ok (.invokespecial 81, 3) := by decide +kernel
theorem dX8_ofLine_40 : decode cX8_ofLine 40 = .ok (.athrow, 1) := by decide +kernel
theorem dX8_ofLine_41 : decode cX8_ofLine 41 = .ok (.aload_n 0, 1) := by decide +kernel
theorem dX8_ofLine_42 : decode cX8_ofLine 42 = .ok (.iload_n 1, 1) := by decide +kernel
theorem dX8_ofLine_43 : decode cX8_ofLine 43 = .ok (.iload_n 2, 1) := by decide +kernel
theorem dX8_ofLine_44 : decode cX8_ofLine 44 = .ok (.invokevirtual 159, 3) := by decide +kernel
theorem dX8_ofLine_47 : decode cX8_ofLine 47 = .ok (.ireturn, 1) := by decide +kernel
theorem dX8_unit_0 : decode cX8_unit 0 = .ok (.aload_n 0, 1) := by decide +kernel
theorem dX8_unit_1 : decode cX8_unit 1 = .ok (.getfield 10, 3) := by decide +kernel
theorem dX8_unit_4 : decode cX8_unit 4 = .ok (.iload_n 3, 1) := by decide +kernel
theorem dX8_unit_5 : decode cX8_unit 5 = .ok (.invokevirtual 101, 3) := by decide +kernel
theorem dX8_unit_8 : decode cX8_unit 8 = .ok (.ifCond .ne 13, 3) := by decide +kernel
theorem dX8_unit_11 : decode cX8_unit 11 = .ok (.new 105, 3) := by decide +kernel
theorem dX8_unit_14 : decode cX8_unit 14 = .ok (.dup, 1) := by decide +kernel
theorem dX8_unit_15 : decode cX8_unit 15 = .ok (.ldc 107, 2) := by decide +kernel
theorem dX8_unit_17 : decode cX8_unit 17 = .ok (.invokespecial 109, 3) := by decide +kernel
theorem dX8_unit_20 : decode cX8_unit 20 = .ok (.athrow, 1) := by decide +kernel
theorem dX8_unit_21 : decode cX8_unit 21 = .ok (.iload 4, 2) := by decide +kernel
theorem dX8_unit_23 : decode cX8_unit 23 = .ok (.invokestatic 162, 3) := by decide +kernel
theorem dX8_unit_26 : decode cX8_unit 26 = .ok (.ifCond .eq 13, 3) := by decide +kernel
theorem dX8_unit_29 : decode cX8_unit 29 = .ok (.new 105, 3) := by decide +kernel
theorem dX8_unit_32 : decode cX8_unit 32 = .ok (.dup, 1) := by decide +kernel
theorem dX8_unit_33 : decode cX8_unit 33 = .ok (.ldc 165, 2) := by decide +kernel
theorem dX8_unit_35 : decode cX8_unit 35 = .ok (.invokespecial 109, 3) := by decide +kernel
theorem dX8_unit_38 : decode cX8_unit 38 = .ok (.athrow, 1) := by decide +kernel
theorem dX8_unit_39 : decode cX8_unit 39 = .ok (.iload_n 1, 1) := by decide +kernel
theorem dX8_unit_40 : decode cX8_unit 40 = .ok (.ifCond .lt 8, 3) := by decide +kernel
theorem dX8_unit_43 : decode cX8_unit 43 = .ok (.iload_n 1, 1) := by decide +kernel
theorem dX8_unit_44 : decode cX8_unit 44 = .ok (.iconst 4, 1) := by decide +kernel
theorem dX8_unit_45 : decode cX8_unit 45 = .ok (.if_icmp .le 13, 3) := by decide +kernel
theorem dX8_unit_48 : decode cX8_unit 48 = .ok (.new 77, 3) := by decide +kernel
theorem dX8_unit_51 : decode cX8_unit 51 = .ok (.dup, 1) := by decide +kernel
theorem dX8_unit_52 : decode cX8_unit 52 = .ok (.ldc 167, 2) := by decide +kernel
theorem dX8_unit_54 : decode cX8_unit 54 = .ok (.invokespecial 81, 3) := by decide +kernel
theorem dX8_unit_57 : decode cX8_unit 57 = .ok (.athrow, 1) := by decide +kernel
theorem dX8_unit_58 : decode cX8_unit 58 = .ok (.iload_n 2, 1) := by decide +kernel
theorem dX8_unit_59 : decode cX8_unit 59 = .ok (.iconst 1, 1) := by decide +kernel
theorem dX8_unit_60 : decode cX8_unit 60 = .ok (.if_icmp .lt 9, 3) := by decide +kernel
theorem dX8_unit_63 : decode cX8_unit 63 = .ok (.iload_n 2, 1) := by decide +kernel
theorem dX8_unit_64 : decode cX8_unit 64 = .ok (.bipush 8, 2) := by decide +kernel
theorem dX8_unit_66 : decode cX8_unit 66 = .ok (.if_icmp .le 13, 3) := by decide +kernel
theorem dX8_unit_69 : decode cX8_unit 69 = .ok (.new 77, 3) := by decide +kernel
theorem dX8_unit_72 : decode cX8_unit 72 = .ok (.dup, 1) := by decide +kernel
theorem dX8_unit_73 : decode cX8_unit 73 = .ok (.ldc 169, 2) := by decide +kernel
theorem dX8_unit_75 : decode cX8_unit 75 = .ok (.invokespecial 81, 3) := by decide +kernel
theorem dX8_unit_78 : decode cX8_unit 78 = .ok (.athrow, 1) := by decide +kernel
theorem dX8_unit_79 : decode cX8_unit 79 = .ok (.aload_n 0, 1) := by decide +kernel
theorem dX8_unit_80 : decode cX8_unit 80 = .ok (.getfield 19, 3) := by decide +kernel
theorem dX8_unit_83 : decode cX8_unit 83 = .ok (.invokevirtual 171, 3) := by decide +kernel
theorem dX8_unit_86 : decode cX8_unit 86 = .ok (.bipush 6, 2) := by decide +kernel
theorem dX8_unit_88 : decode cX8_unit 88 = .ok (.if_icmp .lt 13, 3) := by decide +kernel
theorem dX8_unit_91 : decode cX8_unit 91 = .ok (.new 92, 3) := by decide +kernel
theorem dX8_unit_94 : decode cX8_unit 94 = .ok (.dup, 1) := by decide +kernel
theorem dX8_unit_95 : decode cX8_unit 95 = .ok (.ldc 174, 2) := by decide +kernel
theorem dX8_unit_97 : decode cX8_unit 97 = .ok (.invokespecial 96, 3) := by decide +kernel
theorem dX8_unit_100 : decode cX8_unit 100 = .ok (.athrow, 1) := by decide +kernel
theorem dX8_unit_101 : decode cX8_unit 101 = .ok (.aload_n 0, 1) := by decide +kernel
theorem dX8_unit_102 : decode cX8_unit 102 = .ok (.getfield 19, 3) := by decide +kernel
theorem dX8_unit_105 : decode cX8_unit 105 = .ok (.iload_n 1, 1) := by decide +kernel
theorem dX8_unit_106 : decode cX8_unit 106 = .ok (.iload_n 2, 1) := by decide +kernel
theorem dX8_unit_107 : decode cX8_unit 107 = .ok (.iload_n 3, 1) := by decide +kernel
theorem dX8_unit_108 : decode cX8_unit 108 = .ok (.iload 4, 2) := by decide +kernel
theorem dX8_unit_110 : decode cX8_unit 110 = .ok (.invokevirtual 176, 3) := by decide +kernel
theorem dX8_unit_113 : decode cX8_unit 113 = .ok (.istore 5, 2) := by decide +kernel
theorem dX8_unit_115 : decode cX8_unit 115 = .ok (.iconst 0, 1) := by decide +kernel
theorem dX8_unit_116 : decode cX8_unit 116 = .ok (.istore 6, 2) := by decide +kernel
theorem dX8_unit_118 : decode cX8_unit 118 = .ok (.iload 6, 2) := by decide +kernel
theorem dX8_unit_120 : decode cX8_unit 120 = .ok (.iconst 4, 1) := by decide +kernel
theorem dX8_unit_121 : decode cX8_unit 121 = .ok (.if_icmp .ge 22, 3) := by decide +kernel
theorem dX8_unit_124 : decode cX8_unit 124 = .ok (.aload_n 0, 1) := by decide +kernel
theorem dX8_unit_125 : decode cX8_unit 125 = .ok (.getfield 66, 3) := by decide +kernel
theorem dX8_unit_128 : decode cX8_unit 128 = .ok (.iload 6, 2) := by decide +kernel
theorem dX8_unit_130 : decode cX8_unit 130 = .ok (.iload 5, 2) := by decide +kernel
theorem dX8_unit_132 : decode cX8_unit 132 = .ok (.iload 4, 2) := by decide +kernel
theorem dX8_unit_134 : decode cX8_unit 134 = .ok (.invokevirtual 180, 3) := by decide +kernel
theorem dX8_unit_137 : decode cX8_unit 137 = .ok (.iinc 6 1, 3) := by decide +kernel
theorem dX8_unit_140 : decode cX8_unit 140 = .ok (.goto (-22), 3) := by decide +kernel
theorem dX8_unit_143 : decode cX8_unit 143 = .ok (.iload 5, 2) := by decide +kernel
theorem dX8_unit_145 : decode cX8_unit 145 = .ok (.ireturn, 1) := by decide +kernel
theorem dX8_railhead_0 : decode cX8_railhead 0 = .ok (.iload_n 1, 1) := by decide +kernel
theorem dX8_railhead_1 : decode cX8_railhead 1 = .ok (.invokestatic 162, 3) := by decide +kernel
theorem dX8_railhead_4 : decode cX8_railhead 4 = .ok (.ifCond .eq 13, 3) := by decide +kernel
theorem dX8_railhead_7 : decode cX8_railhead 7 = .ok (.new 105, 3) := by decide +kernel
theorem dX8_railhead_10 : decode cX8_railhead 10 = .ok (.dup, 1) := by decide +kernel
theorem dX8_railhead_11 : decode cX8_railhead 11 = .ok (.ldc 165, 2) := by decide +kernel
theorem dX8_railhead_13 : decode cX8_railhead 13 = .ok (.invokespecial 109, 3) := by decide +kernel
theorem dX8_railhead_16 : decode cX8_railhead 16 = .ok (.athrow, 1) := by decide +kernel
theorem dX8_railhead_17 : decode cX8_railhead 17 = .ok (.aload_n 0, 1) := by decide +kernel
theorem dX8_railhead_18 : decode cX8_railhead 18 = .ok (.getfield 10, 3) := by decide +kernel
theorem dX8_railhead_21 : decode cX8_railhead 21 = .ok (.iload_n 2, 1) := by decide +kernel
theorem dX8_railhead_22 : decode cX8_railhead 22 = .ok (.invokevirtual 101, 3) := by decide +kernel
theorem dX8_railhead_25 : decode cX8_railhead 25 = .ok (.ifCond .ne 13, 3) := by decide +kernel
theorem dX8_railhead_28 : decode cX8_railhead 28 = .ok (.new 105, 3) := by decide +kernel
theorem dX8_railhead_31 : decode cX8_railhead 31 = .ok (.dup, 1) := by decide +kernel
theorem dX8_railhead_32 : decode cX8_railhead 32 = .ok (.ldc 107, 2) := by decide +kernel
theorem dX8_railhead_34 : decode cX8_railhead 34 = .ok (.invokespecial 109, 3) := by decide +kernel
theorem dX8_railhead_37 : decode cX8_railhead 37 = .ok (.athrow, 1) := by decide +kernel
theorem dX8_railhead_38 : decode cX8_railhead 38 = .ok (.iload_n 3, 1) := by decide +kernel
theorem dX8_railhead_39 : decode cX8_railhead 39 = .ok (.bipush 6, 2) := by decide +kernel
theorem dX8_railhead_41 : decode cX8_railhead 41 = .ok (.if_icmp .lt 10, 3) := by decide +kernel
theorem dX8_railhead_44 : decode cX8_railhead 44 = .ok (.iload_n 3, 1) := by decide +kernel
theorem dX8_railhead_45 : decode cX8_railhead 45 = .ok (.sipush 144, 3) := by decide +kernel
theorem dX8_railhead_48 : decode cX8_railhead 48 = .ok (.if_icmp .le 13, 3) := by decide +kernel
theorem dX8_railhead_51 : decode cX8_railhead 51 = .ok (.new 77, 3) := by decide +kernel
theorem dX8_railhead_54 : decode cX8_railhead 54 = .ok (.dup, 1) := by decide +kernel
theorem dX8_railhead_55 : decode cX8_railhead 55 = .ok (.ldc 184, 2) := by decide +kernel
theorem dX8_railhead_57 : decode cX8_railhead 57 = .ok (.invokespecial 81, 3) := by decide +kernel
theorem dX8_railhead_60 : decode cX8_railhead 60 = .ok (.athrow, 1) := by decide +kernel
theorem dX8_railhead_61 : decode cX8_railhead 61 = .ok (.aload_n 0, 1) := by decide +kernel
theorem dX8_railhead_62 : decode cX8_railhead 62 = .ok (.getfield 26, 3) := by decide +kernel
theorem dX8_railhead_65 : decode cX8_railhead 65 = .ok (.iload_n 1, 1) := by decide +kernel
theorem dX8_railhead_66 : decode cX8_railhead 66 = .ok (.invokevirtual 186, 3) := by decide +kernel
theorem dX8_railhead_69 : decode cX8_railhead 69 = .ok (.ifCond .ne 14, 3) := by decide +kernel
theorem dX8_railhead_72 : decode cX8_railhead 72 = .ok (.aload_n 0, 1) := by decide +kernel
theorem dX8_railhead_73 : decode cX8_railhead 73 = .ok (.getfield 36, 3) := by decide +kernel
theorem dX8_railhead_76 : decode cX8_railhead 76 = .ok (.iload_n 1, 1) := by decide +kernel
theorem dX8_railhead_77 : decode cX8_railhead 77 = .ok (.invokevirtual 189, 3) := by decide +kernel
theorem dX8_railhead_80 : decode cX8_railhead 80 = .ok (.ifCond .eq 13, 3) := by decide +kernel
theorem dX8_railhead_83 : decode cX8_railhead 83 = .ok (.new 92, 3) := by decide +kernel
theorem dX8_railhead_86 : decode cX8_railhead 86 = .ok (.dup, 1) := by decide +kernel
theorem dX8_railhead_87 : decode cX8_railhead 87 = .ok (.ldc 190, 2) := by decide +kernel
theorem dX8_railhead_89 : decode cX8_railhead 89 = .ok (.invokespecial 96, 3) := by decide +kernel
theorem dX8_railhead_92 : decode cX8_railhead 92 = .ok (.athrow, 1) := by decide +kernel
theorem dX8_railhead_93 : decode cX8_railhead 93 = .ok (.aload_n 0, 1) := by decide +kernel
theorem dX8_railhead_94 : decode cX8_railhead 94 = .ok (.getfield 50, 3) := by decide +kernel
theorem dX8_railhead_97 : decode cX8_railhead 97 = .ok (.iload_n 1, 1) := by decide +kernel
theorem dX8_railhead_98 : decode cX8_railhead 98 = .ok (.iconst 0, 1) := by decide +kernel
theorem dX8_railhead_99 : decode cX8_railhead 99 = .ok (.invokevirtual 192, 3) := by decide +kernel
theorem dX8_railhead_102 : decode cX8_railhead 102 = .ok (.istore 4, 2) := by decide +kernel
theorem dX8_railhead_104 : decode cX8_railhead 104 = .ok (.aload_n 0, 1) := by decide +kernel
theorem dX8_railhead_105 : decode cX8_railhead 105 = .ok (.getfield 50, 3) := by decide +kernel
theorem dX8_railhead_108 : decode cX8_railhead 108 = .ok (.iload_n 1, 1) := by decide +kernel
theorem dX8_railhead_109 : decode cX8_railhead 109 = .ok (.iconst 0, 1) := by decide +kernel
theorem dX8_railhead_110 : decode cX8_railhead 110 = .ok (.iload_n 2, 1) := by decide +kernel
theorem dX8_railhead_111 : decode cX8_railhead 111 = .ok (.invokevirtual 195, 3) := by decide +kernel
theorem dX8_railhead_114 : decode cX8_railhead 114 = .ok (.aload_n 0, 1) := by decide +kernel
theorem dX8_railhead_115 : decode cX8_railhead 115 = .ok (.getfield 50, 3) := by decide +kernel
theorem dX8_railhead_118 : decode cX8_railhead 118 = .ok (.iload_n 1, 1) := by decide +kernel
theorem dX8_railhead_119 : decode cX8_railhead 119 = .ok (.iconst 1, 1) := by decide +kernel
theorem dX8_railhead_120 : decode cX8_railhead 120 = .ok (.iload_n 3, 1) := by decide +kernel
theorem dX8_railhead_121 : decode cX8_railhead 121 = .ok (.invokevirtual 195, 3) := by decide +kernel
theorem dX8_railhead_124 : decode cX8_railhead 124 = .ok (.iload 4, 2) := by decide +kernel
theorem dX8_railhead_126 : decode cX8_railhead 126 = .ok (.ireturn, 1) := by decide +kernel
theorem dX8_order_0 : decode cX8_order 0 = .ok (.iload_n 1, 1) := by decide +kernel
theorem dX8_order_1 : decode cX8_order 1 = .ok (.ifCond .lt 15, 3) := by decide +kernel
theorem dX8_order_4 : decode cX8_order 4 = .ok (.iload_n 1, 1) := by decide +kernel
theorem dX8_order_5 : decode cX8_order 5 = .ok (.aload_n 0, 1) := by decide +kernel
theorem dX8_order_6 : decode cX8_order 6 = .ok (.getfield 19, 3) := by decide +kernel
theorem dX8_order_9 : decode cX8_order 9 = .ok (.invokevirtual 171, 3) := by decide +kernel
theorem dX8_order_12 : decode cX8_order 12 = .ok (.ishr, 1) := by decide +kernel
theorem dX8_order_13 : decode cX8_order 13 = .ok (.ifCond .eq 13, 3) := by decide +kernel
theorem dX8_order_16 : decode cX8_order 16 = .ok (.new 77, 3) := by decide +kernel
theorem dX8_order_19 : decode cX8_order 19 = .ok (.dup, 1) := by decide +kernel
theorem dX8_order_20 : decode cX8_order 20 = .ok (.ldc 196, 2) := by decide +kernel
theorem dX8_order_22 : decode cX8_order 22 = .ok (.invokespecial 81, 3) := by decide +kernel
theorem dX8_order_25 : decode cX8_order 25 = .ok (.athrow, 1) := by decide +kernel
theorem dX8_order_26 : decode cX8_order 26 = .ok (.aload_n 0, 1) := by decide +kernel
theorem dX8_order_27 : decode cX8_order 27 = .ok (.getfield 10, 3) := by decide +kernel
theorem dX8_order_30 : decode cX8_order 30 = .ok (.invokevirtual 88, 3) := by decide +kernel
theorem dX8_order_33 : decode cX8_order 33 = .ok (.ifCond .ne 13, 3) := by decide +kernel
theorem dX8_order_36 : decode cX8_order 36 = .ok (.new 92, 3) := by decide +kernel
theorem dX8_order_39 : decode cX8_order 39 = .ok (.dup, 1) := by decide +kernel
theorem dX8_order_40 : decode cX8_order 40 = .ok (.ldc 198, 2) := by decide +kernel
theorem dX8_order_42 : decode cX8_order 42 = .ok (.invokespecial 96, 3) := by decide +kernel
theorem dX8_order_45 : decode cX8_order 45 = .ok (.athrow, 1) := by decide +kernel
theorem dX8_order_46 : decode cX8_order 46 = .ok (.iconst 0, 1) := by decide +kernel
theorem dX8_order_47 : decode cX8_order 47 = .ok (.istore_n 2, 1) := by decide +kernel
theorem dX8_order_48 : decode cX8_order 48 = .ok (.iconst 0, 1) := by decide +kernel
theorem dX8_order_49 : decode cX8_order 49 = .ok (.istore_n 3, 1) := by decide +kernel
theorem dX8_order_50 : decode cX8_order 50 = .ok (.iload_n 3, 1) := by decide +kernel
theorem dX8_order_51 : decode cX8_order 51 = .ok (.aload_n 0, 1) := by decide +kernel
theorem dX8_order_52 : decode cX8_order 52 = .ok (.getfield 19, 3) := by decide +kernel
theorem dX8_order_55 : decode cX8_order 55 = .ok (.invokevirtual 171, 3) := by decide +kernel
theorem dX8_order_58 : decode cX8_order 58 = .ok (.if_icmp .ge 63, 3) := by decide +kernel
theorem dX8_order_61 : decode cX8_order 61 = .ok (.iload_n 1, 1) := by decide +kernel
theorem dX8_order_62 : decode cX8_order 62 = .ok (.iload_n 3, 1) := by decide +kernel
theorem dX8_order_63 : decode cX8_order 63 = .ok (.ishr, 1) := by decide +kernel
theorem dX8_order_64 : decode cX8_order 64 = .ok (.iconst 1, 1) := by decide +kernel
theorem dX8_order_65 : decode cX8_order 65 = .ok (.iand, 1) := by decide +kernel
theorem dX8_order_66 : decode cX8_order 66 = .ok (.iconst 1, 1) := by decide +kernel
theorem dX8_order_67 : decode cX8_order 67 = .ok (.if_icmp .ne 48, 3) := by decide +kernel
theorem dX8_order_70 : decode cX8_order 70 = .ok (.aload_n 0, 1) := by decide +kernel
theorem dX8_order_71 : decode cX8_order 71 = .ok (.getfield 19, 3) := by decide +kernel
theorem dX8_order_74 : decode cX8_order 74 = .ok (.iload_n 3, 1) := by decide +kernel
theorem dX8_order_75 : decode cX8_order 75 = .ok (.iconst 4, 1) := by decide +kernel
theorem dX8_order_76 : decode cX8_order 76 = .ok (.invokevirtual 200, 3) := by decide +kernel
theorem dX8_order_79 : decode cX8_order 79 = .ok (.ifCond .ne 36, 3) := by decide +kernel
theorem dX8_order_82 : decode cX8_order 82 = .ok (.aload_n 0, 1) := by decide +kernel
theorem dX8_order_83 : decode cX8_order 83 = .ok (.getfield 19, 3) := by decide +kernel
theorem dX8_order_86 : decode cX8_order 86 = .ok (.iload_n 3, 1) := by decide +kernel
theorem dX8_order_87 : decode cX8_order 87 = .ok (.iconst 4, 1) := by decide +kernel
theorem dX8_order_88 : decode cX8_order 88 = .ok (.iconst 1, 1) := by decide +kernel
theorem dX8_order_89 : decode cX8_order 89 = .ok (.invokevirtual 201, 3) := by decide +kernel
theorem dX8_order_92 : decode cX8_order 92 = .ok (.aload_n 0, 1) := by decide +kernel
theorem dX8_order_93 : decode cX8_order 93 = .ok (.getfield 19, 3) := by decide +kernel
theorem dX8_order_96 : decode cX8_order 96 = .ok (.iload_n 3, 1) := by decide +kernel
theorem dX8_order_97 : decode cX8_order 97 = .ok (.bipush 10, 2) := by decide +kernel
theorem dX8_order_99 : decode cX8_order 99 = .ok (.aload_n 0, 1) := by decide +kernel
theorem dX8_order_100 : decode cX8_order 100 = .ok (.getfield 70, 3) := by decide +kernel
theorem dX8_order_103 : decode cX8_order 103 = .ok (.aload_n 0, 1) := by decide +kernel
theorem dX8_order_104 : decode cX8_order 104 = .ok (.iload_n 3, 1) := by decide +kernel
theorem dX8_order_105 : decode cX8_order 105 = .ok (.invokevirtual 202, 3) := by decide +kernel
theorem dX8_order_108 : decode cX8_order 108 = .ok (.iadd, 1) := by decide +kernel
theorem dX8_order_109 : decode cX8_order 109 = .ok (.invokevirtual 201, 3) := by decide +kernel
theorem dX8_order_112 : decode cX8_order 112 = .ok (.iinc 2 1, 3) := by decide +kernel
theorem dX8_order_115 : decode cX8_order 115 = .ok (.iinc 3 1, 3) := by decide +kernel
theorem dX8_order_118 : decode cX8_order 118 = .ok (.goto (-68), 3) := by decide +kernel
theorem dX8_order_121 : decode cX8_order 121 = .ok (.iload_n 2, 1) := by decide +kernel
theorem dX8_order_122 : decode cX8_order 122 = .ok (.ireturn, 1) := by decide +kernel
theorem dX8_stop_0 : decode cX8_stop 0 = .ok (.aload_n 0, 1) := by decide +kernel
theorem dX8_stop_1 : decode cX8_stop 1 = .ok (.getfield 19, 3) := by decide +kernel
theorem dX8_stop_4 : decode cX8_stop 4 = .ok (.iload_n 1, 1) := by decide +kernel
theorem dX8_stop_5 : decode cX8_stop 5 = .ok (.invokevirtual 206, 3) := by decide +kernel
theorem dX8_stop_8 : decode cX8_stop 8 = .ok (.ifCond .ne 13, 3) := by decide +kernel
theorem dX8_stop_11 : decode cX8_stop 11 = .ok (.new 105, 3) := by decide +kernel
theorem dX8_stop_14 : decode cX8_stop 14 = .ok (.dup, 1) := by decide +kernel
theorem dX8_stop_15 : decode cX8_stop 15 = .ok (.ldc 209, 2) := by decide +kernel
theorem dX8_stop_17 : decode cX8_stop 17 = .ok (.invokespecial 109, 3) := by decide +kernel
theorem dX8_stop_20 : decode cX8_stop 20 = .ok (.athrow, 1) := by decide +kernel
theorem dX8_stop_21 : decode cX8_stop 21 = .ok (.aload_n 0, 1) := by decide +kernel
theorem dX8_stop_22 : decode cX8_stop 22 = .ok (.getfield 19, 3) := by decide +kernel
theorem dX8_stop_25 : decode cX8_stop 25 = .ok (.iload_n 1, 1) := by decide +kernel
theorem dX8_stop_26 : decode cX8_stop 26 = .ok (.iconst 4, 1) := by decide +kernel
theorem dX8_stop_27 : decode cX8_stop 27 = .ok (.invokevirtual 200, 3) := by decide +kernel
theorem dX8_stop_30 : decode cX8_stop 30 = .ok (.istore_n 2, 1) := by decide +kernel
theorem dX8_stop_31 : decode cX8_stop 31 = .ok (.iload_n 2, 1) := by decide +kernel
theorem dX8_stop_32 : decode cX8_stop 32 = .ok (.ifCond .eq 8, 3) := by decide +kernel
theorem dX8_stop_35 : decode cX8_stop 35 = .ok (.iload_n 2, 1) := by decide +kernel
theorem dX8_stop_36 : decode cX8_stop 36 = .ok (.iconst 3, 1) := by decide +kernel
theorem dX8_stop_37 : decode cX8_stop 37 = .ok (.if_icmp .ne 13, 3) := by decide +kernel
theorem dX8_stop_40 : decode cX8_stop 40 = .ok (.new 92, 3) := by decide +kernel
theorem dX8_stop_43 : decode cX8_stop 43 = .ok (.dup, 1) := by decide +kernel
theorem dX8_stop_44 : decode cX8_stop 44 = .ok (.ldc 211, 2) := by decide +kernel
theorem dX8_stop_46 : decode cX8_stop 46 = .ok (.invokespecial 96, 3) := by decide +kernel
theorem dX8_stop_49 : decode cX8_stop 49 = .ok (.athrow, 1) := by decide +kernel
theorem dX8_stop_50 : decode cX8_stop 50 = .ok (.aload_n 0, 1) := by decide +kernel
theorem dX8_stop_51 : decode cX8_stop 51 = .ok (.getfield 19, 3) := by decide +kernel
theorem dX8_stop_54 : decode cX8_stop 54 = .ok (.iload_n 1, 1) := by decide +kernel
theorem dX8_stop_55 : decode cX8_stop 55 = .ok (.bipush 11, 2) := by decide +kernel
theorem dX8_stop_57 : decode cX8_stop 57 = .ok (.invokevirtual 200, 3) := by decide +kernel
theorem dX8_stop_60 : decode cX8_stop 60 = .ok (.iconst (-1), 1) := by decide +kernel
theorem dX8_stop_61 : decode cX8_stop 61 = .ok (.if_icmp .eq 13, 3) := by decide +kernel
theorem dX8_stop_64 : decode cX8_stop 64 = .ok (.new 92, 3) := by decide +kernel
theorem dX8_stop_67 : decode cX8_stop 67 = .ok (.dup, 1) := by decide +kernel
theorem dX8_stop_68 : decode cX8_stop 68 = .ok (.ldc 213, 2) := by decide +kernel
theorem dX8_stop_70 : decode cX8_stop 70 = .ok (.invokespecial 96, 3) := by decide +kernel
theorem dX8_stop_73 : decode cX8_stop 73 = .ok (.athrow, 1) := by decide +kernel
theorem dX8_stop_74 : decode cX8_stop 74 = .ok (.aload_n 0, 1) := by decide +kernel
theorem dX8_stop_75 : decode cX8_stop 75 = .ok (.getfield 70, 3) := by decide +kernel
theorem dX8_stop_78 : decode cX8_stop 78 = .ok (.aload_n 0, 1) := by decide +kernel
theorem dX8_stop_79 : decode cX8_stop 79 = .ok (.iload_n 1, 1) := by decide +kernel
theorem dX8_stop_80 : decode cX8_stop 80 = .ok (.invokevirtual 202, 3) := by decide +kernel
theorem dX8_stop_83 : decode cX8_stop 83 = .ok (.iadd, 1) := by decide +kernel
theorem dX8_stop_84 : decode cX8_stop 84 = .ok (.istore_n 3, 1) := by decide +kernel
theorem dX8_stop_85 : decode cX8_stop 85 = .ok (.aload_n 0, 1) := by decide +kernel
theorem dX8_stop_86 : decode cX8_stop 86 = .ok (.getfield 19, 3) := by decide +kernel
theorem dX8_stop_89 : decode cX8_stop 89 = .ok (.iload_n 1, 1) := by decide +kernel
theorem dX8_stop_90 : decode cX8_stop 90 = .ok (.bipush 11, 2) := by decide +kernel
theorem dX8_stop_92 : decode cX8_stop 92 = .ok (.iload_n 3, 1) := by decide +kernel
theorem dX8_stop_93 : decode cX8_stop 93 = .ok (.invokevirtual 201, 3) := by decide +kernel
theorem dX8_stop_96 : decode cX8_stop 96 = .ok (.iload_n 3, 1) := by decide +kernel
theorem dX8_stop_97 : decode cX8_stop 97 = .ok (.ireturn, 1) := by decide +kernel
theorem dX8_ofUnit_0 : decode cX8_ofUnit 0 = .ok (.aload_n 0, 1) := by decide +kernel
theorem dX8_ofUnit_1 : decode cX8_ofUnit 1 = .ok (.getfield 19, 3) := by decide +kernel
theorem dX8_ofUnit_4 : decode cX8_ofUnit 4 = .ok (.iload_n 1, 1) := by decide +kernel
theorem dX8_ofUnit_5 : decode cX8_ofUnit 5 = .ok (.invokevirtual 206, 3) := by decide +kernel
theorem dX8_ofUnit_8 : decode cX8_ofUnit 8 = .ok (.ifCond .ne 13, 3) := by decide +kernel
theorem dX8_ofUnit_11 : decode cX8_ofUnit 11 = .ok (.new 105, 3) := by decide +kernel
theorem dX8_ofUnit_14 : decode cX8_ofUnit 14 = .ok (.dup, 1) := by decide +kernel
theorem dX8_ofUnit_15 : decode cX8_ofUnit 15 = .ok (.ldc 209, 2) := by decide +kernel
theorem dX8_ofUnit_17 : decode cX8_ofUnit 17 = .ok (.invokespecial 109, 3) := by decide +kernel
theorem dX8_ofUnit_20 : decode cX8_ofUnit 20 = .ok (.athrow, 1) := by decide +kernel
theorem dX8_ofUnit_21 : decode cX8_ofUnit 21 = .ok (.iload_n 2, 1) := by decide +kernel
theorem dX8_ofUnit_22 : decode cX8_ofUnit 22 = .ok (.ifCond .lt 9, 3) := by decide +kernel
theorem dX8_ofUnit_25 : decode cX8_ofUnit 25 = .ok (.iload_n 2, 1) := by decide +kernel
theorem dX8_ofUnit_26 : decode cX8_ofUnit 26 = .ok (.bipush 12, 2) := by decide +kernel
theorem dX8_ofUnit_28 : decode cX8_ofUnit 28 = .ok (.if_icmp .le 13, 3) := by decide +kernel
theorem dX8_ofUnit_31 : decode cX8_ofUnit 31 = .ok (.new 77, 3) := by decide +kernel
theorem dX8_ofUnit_34 : decode cX8_ofUnit 34 = .ok (.dup, 1) := by decide +kernel
theorem dX8_ofUnit_35 : decode cX8_ofUnit 35 = .ok (.ldc 215, 2) := by decide +kernel
theorem dX8_ofUnit_37 : decode cX8_ofUnit 37 = .ok (.invokespecial 81, 3) := by decide +kernel
theorem dX8_ofUnit_40 : decode cX8_ofUnit 40 = .ok (.athrow, 1) := by decide +kernel
theorem dX8_ofUnit_41 : decode cX8_ofUnit 41 = .ok (.aload_n 0, 1) := by decide +kernel
theorem dX8_ofUnit_42 : decode cX8_ofUnit 42 = .ok (.iload_n 1, 1) := by decide +kernel
theorem dX8_ofUnit_43 : decode cX8_ofUnit 43 = .ok (.iload_n 2, 1) := by decide +kernel
theorem dX8_ofUnit_44 : decode cX8_ofUnit 44 = .ok (.invokevirtual 217, 3) := by decide +kernel
theorem dX8_ofUnit_47 : decode cX8_ofUnit 47 = .ok (.ireturn, 1) := by decide +kernel
theorem dX8_plan_0 : decode cX8_plan 0 = .ok (.aload_n 0, 1) := by decide +kernel
theorem dX8_plan_1 : decode cX8_plan 1 = .ok (.getfield 19, 3) := by decide +kernel
theorem dX8_plan_4 : decode cX8_plan 4 = .ok (.iload_n 1, 1) := by decide +kernel
theorem dX8_plan_5 : decode cX8_plan 5 = .ok (.invokevirtual 206, 3) := by decide +kernel
theorem dX8_plan_8 : decode cX8_plan 8 = .ok (.ifCond .ne 13, 3) := by decide +kernel
theorem dX8_plan_11 : decode cX8_plan 11 = .ok (.new 105, 3) := by decide +kernel
theorem dX8_plan_14 : decode cX8_plan 14 = .ok (.dup, 1) := by decide +kernel
theorem dX8_plan_15 : decode cX8_plan 15 = .ok (.ldc 209, 2) := by decide +kernel
theorem dX8_plan_17 : decode cX8_plan 17 = .ok (.invokespecial 109, 3) := by decide +kernel
theorem dX8_plan_20 : decode cX8_plan 20 = .ok (.athrow, 1) := by decide +kernel
theorem dX8_plan_21 : decode cX8_plan 21 = .ok (.aload_n 0, 1) := by decide +kernel
theorem dX8_plan_22 : decode cX8_plan 22 = .ok (.iload_n 2, 1) := by decide +kernel
theorem dX8_plan_23 : decode cX8_plan 23 = .ok (.invokevirtual 220, 3) := by decide +kernel
theorem dX8_plan_26 : decode cX8_plan 26 = .ok (.ifCond .eq 13, 3) := by decide +kernel
theorem dX8_plan_29 : decode cX8_plan 29 = .ok (.new 77, 3) := by decide +kernel
theorem dX8_plan_32 : decode cX8_plan 32 = .ok (.dup, 1) := by decide +kernel
theorem dX8_plan_33 : decode cX8_plan 33 = .ok (.ldc 223, 2) := by decide +kernel
theorem dX8_plan_35 : decode cX8_plan 35 = .ok (.invokespecial 81, 3) := by decide +kernel
theorem dX8_plan_38 : decode cX8_plan 38 = .ok (.athrow, 1) := by decide +kernel
theorem dX8_plan_39 : decode cX8_plan 39 = .ok (.aload_n 0, 1) := by decide +kernel
theorem dX8_plan_40 : decode cX8_plan 40 = .ok (.iload_n 1, 1) := by decide +kernel
theorem dX8_plan_41 : decode cX8_plan 41 = .ok (.invokevirtual 225, 3) := by decide +kernel
theorem dX8_plan_44 : decode cX8_plan 44 = .ok (.ifCond .le 13, 3) := by decide +kernel
theorem dX8_plan_47 : decode cX8_plan 47 = .ok (.new 92, 3) := by decide +kernel
theorem dX8_plan_50 : decode cX8_plan 50 = .ok (.dup, 1) := by decide +kernel
theorem dX8_plan_51 : decode cX8_plan 51 = .ok (.ldc 228, 2) := by decide +kernel
theorem dX8_plan_53 : decode cX8_plan 53 = .ok (.invokespecial 96, 3) := by decide +kernel
theorem dX8_plan_56 : decode cX8_plan 56 = .ok (.athrow, 1) := by decide +kernel
theorem dX8_plan_57 : decode cX8_plan 57 = .ok (.aload_n 0, 1) := by decide +kernel
theorem dX8_plan_58 : decode cX8_plan 58 = .ok (.iload_n 1, 1) := by decide +kernel
theorem dX8_plan_59 : decode cX8_plan 59 = .ok (.invokevirtual 230, 3) := by decide +kernel
theorem dX8_plan_62 : decode cX8_plan 62 = .ok (.ifCond .eq 13, 3) := by decide +kernel
theorem dX8_plan_65 : decode cX8_plan 65 = .ok (.new 92, 3) := by decide +kernel
theorem dX8_plan_68 : decode cX8_plan 68 = .ok (.dup, 1) := by decide +kernel
theorem dX8_plan_69 : decode cX8_plan 69 = .ok (.ldc 233, 2) := by decide +kernel
theorem dX8_plan_71 : decode cX8_plan 71 = .ok (.invokespecial 96, 3) := by decide +kernel
theorem dX8_plan_74 : decode cX8_plan 74 = .ok (.athrow, 1) := by decide +kernel
theorem dX8_plan_75 : decode cX8_plan 75 = .ok (.aload_n 0, 1) := by decide +kernel
theorem dX8_plan_76 : decode cX8_plan 76 = .ok (.getfield 30, 3) := by decide +kernel
theorem dX8_plan_79 : decode cX8_plan 79 = .ok (.aload_n 0, 1) := by decide +kernel
theorem dX8_plan_80 : decode cX8_plan 80 = .ok (.getfield 26, 3) := by decide +kernel
theorem dX8_plan_83 : decode cX8_plan 83 = .ok (.invokevirtual 235, 3) := by decide +kernel
theorem dX8_plan_86 : decode cX8_plan 86 = .ok (.aload_n 0, 1) := by decide +kernel
theorem dX8_plan_87 : decode cX8_plan 87 = .ok (.iload_n 1, 1) := by decide +kernel
theorem dX8_plan_88 : decode cX8_plan 88 = .ok (.aload_n 0, 1) := by decide +kernel
theorem dX8_plan_89 : decode cX8_plan 89 = .ok (.getfield 19, 3) := by decide +kernel
theorem dX8_plan_92 : decode cX8_plan 92 = .ok (.iload_n 1, 1) := by decide +kernel
theorem dX8_plan_93 : decode cX8_plan 93 = .ok (.iconst 3, 1) := by decide +kernel
theorem dX8_plan_94 : decode cX8_plan 94 = .ok (.invokevirtual 200, 3) := by decide +kernel
theorem dX8_plan_97 : decode cX8_plan 97 = .ok (.iload_n 2, 1) := by decide +kernel
theorem dX8_plan_98 : decode cX8_plan 98 = .ok (.invokevirtual 239, 3) := by decide +kernel
theorem dX8_plan_101 : decode cX8_plan 101 = .ok (.istore_n 3, 1) := by decide +kernel
theorem dX8_plan_102 : decode cX8_plan 102 = .ok (.iload_n 3, 1) := by decide +kernel
theorem dX8_plan_103 : decode cX8_plan 103 = .ok (.ifCond .lt 14, 3) := by decide +kernel
theorem dX8_plan_106 : decode cX8_plan 106 = .ok (.aload_n 0, 1) := by decide +kernel
theorem dX8_plan_107 : decode cX8_plan 107 = .ok (.getfield 26, 3) := by decide +kernel
theorem dX8_plan_110 : decode cX8_plan 110 = .ok (.aload_n 0, 1) := by decide +kernel
theorem dX8_plan_111 : decode cX8_plan 111 = .ok (.getfield 30, 3) := by decide +kernel
theorem dX8_plan_114 : decode cX8_plan 114 = .ok (.invokevirtual 235, 3) := by decide +kernel
theorem dX8_plan_117 : decode cX8_plan 117 = .ok (.iload_n 3, 1) := by decide +kernel
theorem dX8_plan_118 : decode cX8_plan 118 = .ok (.ireturn, 1) := by decide +kernel
theorem dX8_could_0 : decode cX8_could 0 = .ok (.aload_n 0, 1) := by decide +kernel
theorem dX8_could_1 : decode cX8_could 1 = .ok (.getfield 19, 3) := by decide +kernel
theorem dX8_could_4 : decode cX8_could 4 = .ok (.iload_n 1, 1) := by decide +kernel
theorem dX8_could_5 : decode cX8_could 5 = .ok (.invokevirtual 206, 3) := by decide +kernel
theorem dX8_could_8 : decode cX8_could 8 = .ok (.ifCond .ne 13, 3) := by decide +kernel
theorem dX8_could_11 : decode cX8_could 11 = .ok (.new 105, 3) := by decide +kernel
theorem dX8_could_14 : decode cX8_could 14 = .ok (.dup, 1) := by decide +kernel
theorem dX8_could_15 : decode cX8_could 15 = .ok (.ldc 209, 2) := by decide +kernel
theorem dX8_could_17 : decode cX8_could 17 = .ok (.invokespecial 109, 3) := by decide +kernel
theorem dX8_could_20 : decode cX8_could 20 = .ok (.athrow, 1) := by decide +kernel
theorem dX8_could_21 : decode cX8_could 21 = .ok (.aload_n 0, 1) := by decide +kernel
theorem dX8_could_22 : decode cX8_could 22 = .ok (.iload_n 2, 1) := by decide +kernel
theorem dX8_could_23 : decode cX8_could 23 = .ok (.invokevirtual 220, 3) := by decide +kernel
theorem dX8_could_26 : decode cX8_could 26 = .ok (.ifCond .eq 13, 3) := by decide +kernel
theorem dX8_could_29 : decode cX8_could 29 = .ok (.new 77, 3) := by decide +kernel
theorem dX8_could_32 : decode cX8_could 32 = .ok (.dup, 1) := by decide +kernel
theorem dX8_could_33 : decode cX8_could 33 = .ok (.ldc 223, 2) := by decide +kernel
theorem dX8_could_35 : decode cX8_could 35 = .ok (.invokespecial 81, 3) := by decide +kernel
theorem dX8_could_38 : decode cX8_could 38 = .ok (.athrow, 1) := by decide +kernel
theorem dX8_could_39 : decode cX8_could 39 = .ok (.aload_n 0, 1) := by decide +kernel
theorem dX8_could_40 : decode cX8_could 40 = .ok (.iload_n 1, 1) := by decide +kernel
theorem dX8_could_41 : decode cX8_could 41 = .ok (.invokevirtual 230, 3) := by decide +kernel
theorem dX8_could_44 : decode cX8_could 44 = .ok (.ifCond .eq 13, 3) := by decide +kernel
theorem dX8_could_47 : decode cX8_could 47 = .ok (.new 92, 3) := by decide +kernel
theorem dX8_could_50 : decode cX8_could 50 = .ok (.dup, 1) := by decide +kernel
theorem dX8_could_51 : decode cX8_could 51 = .ok (.ldc 233, 2) := by decide +kernel
theorem dX8_could_53 : decode cX8_could 53 = .ok (.invokespecial 96, 3) := by decide +kernel
theorem dX8_could_56 : decode cX8_could 56 = .ok (.athrow, 1) := by decide +kernel
theorem dX8_could_57 : decode cX8_could 57 = .ok (.aload_n 0, 1) := by decide +kernel
theorem dX8_could_58 : decode cX8_could 58 = .ok (.getfield 30, 3) := by decide +kernel
theorem dX8_could_61 : decode cX8_could 61 = .ok (.aload_n 0, 1) := by decide +kernel
theorem dX8_could_62 : decode cX8_could 62 = .ok (.getfield 26, 3) := by decide +kernel
theorem dX8_could_65 : decode cX8_could 65 = .ok (.invokevirtual 235, 3) := by decide +kernel
theorem dX8_could_68 : decode cX8_could 68 = .ok (.aload_n 0, 1) := by decide +kernel
theorem dX8_could_69 : decode cX8_could 69 = .ok (.aload_n 0, 1) := by decide +kernel
theorem dX8_could_70 : decode cX8_could 70 = .ok (.getfield 30, 3) := by decide +kernel
theorem dX8_could_73 : decode cX8_could 73 = .ok (.iload_n 1, 1) := by decide +kernel
theorem dX8_could_74 : decode cX8_could 74 = .ok (.invokevirtual 243, 3) := by decide +kernel
theorem dX8_could_77 : decode cX8_could 77 = .ok (.pop, 1) := by decide +kernel
theorem dX8_could_78 : decode cX8_could 78 = .ok (.aload_n 0, 1) := by decide +kernel
theorem dX8_could_79 : decode cX8_could 79 = .ok (.iload_n 1, 1) := by decide +kernel
theorem dX8_could_80 : decode cX8_could 80 = .ok (.aload_n 0, 1) := by decide +kernel
theorem dX8_could_81 : decode cX8_could 81 = .ok (.getfield 19, 3) := by decide +kernel
theorem dX8_could_84 : decode cX8_could 84 = .ok (.iload_n 1, 1) := by decide +kernel
theorem dX8_could_85 : decode cX8_could 85 = .ok (.iconst 3, 1) := by decide +kernel
theorem dX8_could_86 : decode cX8_could 86 = .ok (.invokevirtual 200, 3) := by decide +kernel
theorem dX8_could_89 : decode cX8_could 89 = .ok (.iload_n 2, 1) := by decide +kernel
theorem dX8_could_90 : decode cX8_could 90 = .ok (.invokevirtual 239, 3) := by decide +kernel
theorem dX8_could_93 : decode cX8_could 93 = .ok (.ireturn, 1) := by decide +kernel
theorem dX8_aim_0 : decode cX8_aim 0 = .ok (.iload_n 1, 1) := by decide +kernel
theorem dX8_aim_1 : decode cX8_aim 1 = .ok (.ifCond .lt 8, 3) := by decide +kernel
theorem dX8_aim_4 : decode cX8_aim 4 = .ok (.iload_n 1, 1) := by decide +kernel
theorem dX8_aim_5 : decode cX8_aim 5 = .ok (.iconst 4, 1) := by decide +kernel
theorem dX8_aim_6 : decode cX8_aim 6 = .ok (.if_icmp .lt 14, 3) := by decide +kernel
theorem dX8_aim_9 : decode cX8_aim 9 = .ok (.new 105, 3) := by decide +kernel
theorem dX8_aim_12 : decode cX8_aim 12 = .ok (.dup, 1) := by decide +kernel
theorem dX8_aim_13 : decode cX8_aim 13 = .ok (.ldc_w 258, 3) := by decide +kernel
theorem dX8_aim_16 : decode cX8_aim 16 = .ok (.invokespecial 109, 3) := by decide +kernel
theorem dX8_aim_19 : decode cX8_aim 19 = .ok (.athrow, 1) := by decide +kernel
theorem dX8_aim_20 : decode cX8_aim 20 = .ok (.aload_n 0, 1) := by decide +kernel
theorem dX8_aim_21 : decode cX8_aim 21 = .ok (.getfield 19, 3) := by decide +kernel
theorem dX8_aim_24 : decode cX8_aim 24 = .ok (.iload_n 2, 1) := by decide +kernel
theorem dX8_aim_25 : decode cX8_aim 25 = .ok (.invokevirtual 206, 3) := by decide +kernel
theorem dX8_aim_28 : decode cX8_aim 28 = .ok (.ifCond .ne 13, 3) := by decide +kernel
theorem dX8_aim_31 : decode cX8_aim 31 = .ok (.new 105, 3) := by decide +kernel
theorem dX8_aim_34 : decode cX8_aim 34 = .ok (.dup, 1) := by decide +kernel
theorem dX8_aim_35 : decode cX8_aim 35 = .ok (.ldc 209, 2) := by decide +kernel
theorem dX8_aim_37 : decode cX8_aim 37 = .ok (.invokespecial 109, 3) := by decide +kernel
theorem dX8_aim_40 : decode cX8_aim 40 = .ok (.athrow, 1) := by decide +kernel
theorem dX8_aim_41 : decode cX8_aim 41 = .ok (.iload_n 3, 1) := by decide +kernel
theorem dX8_aim_42 : decode cX8_aim 42 = .ok (.invokestatic 162, 3) := by decide +kernel
theorem dX8_aim_45 : decode cX8_aim 45 = .ok (.ifCond .eq 13, 3) := by decide +kernel
theorem dX8_aim_48 : decode cX8_aim 48 = .ok (.new 105, 3) := by decide +kernel
theorem dX8_aim_51 : decode cX8_aim 51 = .ok (.dup, 1) := by decide +kernel
theorem dX8_aim_52 : decode cX8_aim 52 = .ok (.ldc 165, 2) := by decide +kernel
theorem dX8_aim_54 : decode cX8_aim 54 = .ok (.invokespecial 109, 3) := by decide +kernel
theorem dX8_aim_57 : decode cX8_aim 57 = .ok (.athrow, 1) := by decide +kernel
theorem dX8_aim_58 : decode cX8_aim 58 = .ok (.aload_n 0, 1) := by decide +kernel
theorem dX8_aim_59 : decode cX8_aim 59 = .ok (.getfield 66, 3) := by decide +kernel
theorem dX8_aim_62 : decode cX8_aim 62 = .ok (.iload_n 1, 1) := by decide +kernel
theorem dX8_aim_63 : decode cX8_aim 63 = .ok (.iload_n 2, 1) := by decide +kernel
theorem dX8_aim_64 : decode cX8_aim 64 = .ok (.invokevirtual 260, 3) := by decide +kernel
theorem dX8_aim_67 : decode cX8_aim 67 = .ok (.istore 4, 2) := by decide +kernel
theorem dX8_aim_69 : decode cX8_aim 69 = .ok (.aload_n 0, 1) := by decide +kernel
theorem dX8_aim_70 : decode cX8_aim 70 = .ok (.getfield 66, 3) := by decide +kernel
theorem dX8_aim_73 : decode cX8_aim 73 = .ok (.iload_n 1, 1) := by decide +kernel
theorem dX8_aim_74 : decode cX8_aim 74 = .ok (.iload_n 2, 1) := by decide +kernel
theorem dX8_aim_75 : decode cX8_aim 75 = .ok (.iload_n 3, 1) := by decide +kernel
theorem dX8_aim_76 : decode cX8_aim 76 = .ok (.invokevirtual 180, 3) := by decide +kernel
theorem dX8_aim_79 : decode cX8_aim 79 = .ok (.iload 4, 2) := by decide +kernel
theorem dX8_aim_81 : decode cX8_aim 81 = .ok (.ireturn, 1) := by decide +kernel
theorem dX8_change_0 : decode cX8_change 0 = .ok (.iload_n 1, 1) := by decide +kernel
theorem dX8_change_1 : decode cX8_change 1 = .ok (.ifCond .lt 8, 3) := by decide +kernel
theorem dX8_change_4 : decode cX8_change 4 = .ok (.iload_n 1, 1) := by decide +kernel
theorem dX8_change_5 : decode cX8_change 5 = .ok (.iconst 4, 1) := by decide +kernel
theorem dX8_change_6 : decode cX8_change 6 = .ok (.if_icmp .lt 14, 3) := by decide +kernel
theorem dX8_change_9 : decode cX8_change 9 = .ok (.new 105, 3) := by decide +kernel
theorem dX8_change_12 : decode cX8_change 12 = .ok (.dup, 1) := by decide +kernel
theorem dX8_change_13 : decode cX8_change 13 = .ok (.ldc_w 258, 3) := by decide +kernel
theorem dX8_change_16 : decode cX8_change 16 = .ok (.invokespecial 109, 3) := by decide +kernel
theorem dX8_change_19 : decode cX8_change 19 = .ok (.athrow, 1) := by decide +kernel
theorem dX8_change_20 : decode cX8_change 20 = .ok (.aload_n 0, 1) := by decide +kernel
theorem dX8_change_21 : decode cX8_change 21 = .ok (.getfield 70, 3) := by decide +kernel
theorem dX8_change_24 : decode cX8_change 24 = .ok (.sipush 2808, 3) := by decide +kernel
theorem dX8_change_27 : decode cX8_change 27 = .ok (.if_icmp .le 14, 3) := by decide +kernel
theorem dX8_change_30 : decode cX8_change 30 = .ok (.new 92, 3) := by decide +kernel
theorem dX8_change_33 : decode cX8_change 33 = .ok (.dup, 1) := by decide +kernel
theorem dX8_change_34 : decode cX8_change 34 = .ok (.ldc_w 261, 3) := by decide +kernel
theorem dX8_change_37 : decode cX8_change 37 = .ok (.invokespecial 96, 3) := by decide +kernel
theorem dX8_change_40 : decode cX8_change 40 = .ok (.athrow, 1) := by decide +kernel
theorem dX8_change_41 : decode cX8_change 41 = .ok (.aload_n 0, 1) := by decide +kernel
theorem dX8_change_42 : decode cX8_change 42 = .ok (.iload_n 1, 1) := by decide +kernel
theorem dX8_change_43 : decode cX8_change 43 = .ok (.invokevirtual 263, 3) := by decide +kernel
theorem dX8_change_46 : decode cX8_change 46 = .ok (.istore_n 2, 1) := by decide +kernel
theorem dX8_change_47 : decode cX8_change 47 = .ok (.iload_n 2, 1) := by decide +kernel
theorem dX8_change_48 : decode cX8_change 48 = .ok (.ifCond .lt 19, 3) := by decide +kernel
theorem dX8_change_51 : decode cX8_change 51 = .ok (.aload_n 0, 1) := by decide +kernel
theorem dX8_change_52 : decode cX8_change 52 = .ok (.getfield 26, 3) := by decide +kernel
theorem dX8_change_55 : decode cX8_change 55 = .ok (.aload_n 0, 1) := by decide +kernel
theorem dX8_change_56 : decode cX8_change 56 = .ok (.getfield 30, 3) := by decide +kernel
theorem dX8_change_59 : decode cX8_change 59 = .ok (.invokevirtual 235, 3) := by decide +kernel
theorem dX8_change_62 : decode cX8_change 62 = .ok (.aload_n 0, 1) := by decide +kernel
theorem dX8_change_63 : decode cX8_change 63 = .ok (.iload_n 1, 1) := by decide +kernel
theorem dX8_change_64 : decode cX8_change 64 = .ok (.invokevirtual 266, 3) := by decide +kernel
theorem dX8_change_67 : decode cX8_change 67 = .ok (.iload_n 2, 1) := by decide +kernel
theorem dX8_change_68 : decode cX8_change 68 = .ok (.ireturn, 1) := by decide +kernel
theorem dX8_box_0 : decode cX8_box 0 = .ok (.aload_n 0, 1) := by decide +kernel
theorem dX8_box_1 : decode cX8_box 1 = .ok (.getfield 36, 3) := by decide +kernel
theorem dX8_box_4 : decode cX8_box 4 = .ok (.iload_n 1, 1) := by decide +kernel
theorem dX8_box_5 : decode cX8_box 5 = .ok (.invokevirtual 275, 3) := by decide +kernel
theorem dX8_box_8 : decode cX8_box 8 = .ok (.ifCond .ne 14, 3) := by decide +kernel
theorem dX8_box_11 : decode cX8_box 11 = .ok (.new 105, 3) := by decide +kernel
theorem dX8_box_14 : decode cX8_box 14 = .ok (.dup, 1) := by decide +kernel
theorem dX8_box_15 : decode cX8_box 15 = .ok (.ldc_w 276, 3) := by decide +kernel
theorem dX8_box_18 : decode cX8_box 18 = .ok (.invokespecial 109, 3) := by decide +kernel
theorem dX8_box_21 : decode cX8_box 21 = .ok (.athrow, 1) := by decide +kernel
theorem dX8_box_22 : decode cX8_box 22 = .ok (.iload_n 2, 1) := by decide +kernel
theorem dX8_box_23 : decode cX8_box 23 = .ok (.iconst 1, 1) := by decide +kernel
theorem dX8_box_24 : decode cX8_box 24 = .ok (.if_icmp .lt 9, 3) := by decide +kernel
theorem dX8_box_27 : decode cX8_box 27 = .ok (.iload_n 2, 1) := by decide +kernel
theorem dX8_box_28 : decode cX8_box 28 = .ok (.bipush 72, 2) := by decide +kernel
theorem dX8_box_30 : decode cX8_box 30 = .ok (.if_icmp .le 14, 3) := by decide +kernel
theorem dX8_box_33 : decode cX8_box 33 = .ok (.new 77, 3) := by decide +kernel
theorem dX8_box_36 : decode cX8_box 36 = .ok (.dup, 1) := by decide +kernel
theorem dX8_box_37 : decode cX8_box 37 = .ok (.ldc_w 278, 3) := by decide +kernel
theorem dX8_box_40 : decode cX8_box 40 = .ok (.invokespecial 81, 3) := by decide +kernel
theorem dX8_box_43 : decode cX8_box 43 = .ok (.athrow, 1) := by decide +kernel
theorem dX8_box_44 : decode cX8_box 44 = .ok (.aload_n 0, 1) := by decide +kernel
theorem dX8_box_45 : decode cX8_box 45 = .ok (.getfield 36, 3) := by decide +kernel
theorem dX8_box_48 : decode cX8_box 48 = .ok (.iload_n 1, 1) := by decide +kernel
theorem dX8_box_49 : decode cX8_box 49 = .ok (.iconst 2, 1) := by decide +kernel
theorem dX8_box_50 : decode cX8_box 50 = .ok (.invokevirtual 280, 3) := by decide +kernel
theorem dX8_box_53 : decode cX8_box 53 = .ok (.istore_n 3, 1) := by decide +kernel
theorem dX8_box_54 : decode cX8_box 54 = .ok (.iload_n 3, 1) := by decide +kernel
theorem dX8_box_55 : decode cX8_box 55 = .ok (.ifCond .eq 19, 3) := by decide +kernel
theorem dX8_box_58 : decode cX8_box 58 = .ok (.iload_n 3, 1) := by decide +kernel
theorem dX8_box_59 : decode cX8_box 59 = .ok (.iconst 1, 1) := by decide +kernel
theorem dX8_box_60 : decode cX8_box 60 = .ok (.if_icmp .eq 14, 3) := by decide +kernel
theorem dX8_box_63 : decode cX8_box 63 = .ok (.new 92, 3) := by decide +kernel
theorem dX8_box_66 : decode cX8_box 66 = .ok (.dup, 1) := by decide +kernel
theorem dX8_box_67 : decode cX8_box 67 = .ok (.ldc_w 281, 3) := by decide +kernel
theorem dX8_box_70 : decode cX8_box 70 = .ok (.invokespecial 96, 3) := by decide +kernel
theorem dX8_box_73 : decode cX8_box 73 = .ok (.athrow, 1) := by decide +kernel
theorem dX8_box_74 : decode cX8_box 74 = .ok (.aload_n 0, 1) := by decide +kernel
theorem dX8_box_75 : decode cX8_box 75 = .ok (.getfield 36, 3) := by decide +kernel
theorem dX8_box_78 : decode cX8_box 78 = .ok (.iload_n 1, 1) := by decide +kernel
theorem dX8_box_79 : decode cX8_box 79 = .ok (.iload_n 3, 1) := by decide +kernel
theorem dX8_box_80 : decode cX8_box 80 = .ok (.iconst 1, 1) := by decide +kernel
theorem dX8_box_81 : decode cX8_box 81 = .ok (.if_icmp .ne 7, 3) := by decide +kernel
theorem dX8_box_84 : decode cX8_box 84 = .ok (.iconst 5, 1) := by decide +kernel
theorem dX8_box_85 : decode cX8_box 85 = .ok (.goto 5, 3) := by decide +kernel
theorem dX8_box_88 : decode cX8_box 88 = .ok (.bipush 6, 2) := by decide +kernel
theorem dX8_box_90 : decode cX8_box 90 = .ok (.iload_n 2, 1) := by decide +kernel
theorem dX8_box_91 : decode cX8_box 91 = .ok (.invokevirtual 283, 3) := by decide +kernel
theorem dX8_box_94 : decode cX8_box 94 = .ok (.aload_n 0, 1) := by decide +kernel
theorem dX8_box_95 : decode cX8_box 95 = .ok (.getfield 36, 3) := by decide +kernel
theorem dX8_box_98 : decode cX8_box 98 = .ok (.iload_n 1, 1) := by decide +kernel
theorem dX8_box_99 : decode cX8_box 99 = .ok (.aload_n 0, 1) := by decide +kernel
theorem dX8_box_100 : decode cX8_box 100 = .ok (.getfield 70, 3) := by decide +kernel
theorem dX8_box_103 : decode cX8_box 103 = .ok (.invokevirtual 285, 3) := by decide +kernel
theorem dX8_box_106 : decode cX8_box 106 = .ok (.ireturn, 1) := by decide +kernel
theorem dX8_foul_0 : decode cX8_foul 0 = .ok (.aload_n 0, 1) := by decide +kernel
theorem dX8_foul_1 : decode cX8_foul 1 = .ok (.getfield 10, 3) := by decide +kernel
theorem dX8_foul_4 : decode cX8_foul 4 = .ok (.iload_n 1, 1) := by decide +kernel
theorem dX8_foul_5 : decode cX8_foul 5 = .ok (.invokevirtual 101, 3) := by decide +kernel
theorem dX8_foul_8 : decode cX8_foul 8 = .ok (.ifCond .ne 13, 3) := by decide +kernel
theorem dX8_foul_11 : decode cX8_foul 11 = .ok (.new 105, 3) := by decide +kernel
theorem dX8_foul_14 : decode cX8_foul 14 = .ok (.dup, 1) := by decide +kernel
theorem dX8_foul_15 : decode cX8_foul 15 = .ok (.ldc 107, 2) := by decide +kernel
theorem dX8_foul_17 : decode cX8_foul 17 = .ok (.invokespecial 109, 3) := by decide +kernel
theorem dX8_foul_20 : decode cX8_foul 20 = .ok (.athrow, 1) := by decide +kernel
theorem dX8_foul_21 : decode cX8_foul 21 = .ok (.iload_n 2, 1) := by decide +kernel
theorem dX8_foul_22 : decode cX8_foul 22 = .ok (.ifCond .lt 10, 3) := by decide +kernel
theorem dX8_foul_25 : decode cX8_foul 25 = .ok (.iload_n 2, 1) := by decide +kernel
theorem dX8_foul_26 : decode cX8_foul 26 = .ok (.sipush 144, 3) := by decide +kernel
theorem dX8_foul_29 : decode cX8_foul 29 = .ok (.if_icmp .le 14, 3) := by decide +kernel
theorem dX8_foul_32 : decode cX8_foul 32 = .ok (.new 77, 3) := by decide +kernel
theorem dX8_foul_35 : decode cX8_foul 35 = .ok (.dup, 1) := by decide +kernel
theorem dX8_foul_36 : decode cX8_foul 36 = .ok (.ldc_w 288, 3) := by decide +kernel
theorem dX8_foul_39 : decode cX8_foul 39 = .ok (.invokespecial 81, 3) := by decide +kernel
theorem dX8_foul_42 : decode cX8_foul 42 = .ok (.athrow, 1) := by decide +kernel
theorem dX8_foul_43 : decode cX8_foul 43 = .ok (.aload_n 0, 1) := by decide +kernel
theorem dX8_foul_44 : decode cX8_foul 44 = .ok (.getfield 10, 3) := by decide +kernel
theorem dX8_foul_47 : decode cX8_foul 47 = .ok (.iload_n 1, 1) := by decide +kernel
theorem dX8_foul_48 : decode cX8_foul 48 = .ok (.iconst 4, 1) := by decide +kernel
theorem dX8_foul_49 : decode cX8_foul 49 = .ok (.invokevirtual 290, 3) := by decide +kernel
theorem dX8_foul_52 : decode cX8_foul 52 = .ok (.istore_n 3, 1) := by decide +kernel
theorem dX8_foul_53 : decode cX8_foul 53 = .ok (.aload_n 0, 1) := by decide +kernel
theorem dX8_foul_54 : decode cX8_foul 54 = .ok (.getfield 10, 3) := by decide +kernel
theorem dX8_foul_57 : decode cX8_foul 57 = .ok (.iload_n 1, 1) := by decide +kernel
theorem dX8_foul_58 : decode cX8_foul 58 = .ok (.iconst 4, 1) := by decide +kernel
theorem dX8_foul_59 : decode cX8_foul 59 = .ok (.iload_n 2, 1) := by decide +kernel
theorem dX8_foul_60 : decode cX8_foul 60 = .ok (.invokevirtual 293, 3) := by decide +kernel
theorem dX8_foul_63 : decode cX8_foul 63 = .ok (.iload_n 3, 1) := by decide +kernel
theorem dX8_foul_64 : decode cX8_foul 64 = .ok (.ireturn, 1) := by decide +kernel
theorem dX8_ofTrain_0 : decode cX8_ofTrain 0 = .ok (.aload_n 0, 1) := by decide +kernel
theorem dX8_ofTrain_1 : decode cX8_ofTrain 1 = .ok (.getfield 36, 3) := by decide +kernel
theorem dX8_ofTrain_4 : decode cX8_ofTrain 4 = .ok (.iload_n 1, 1) := by decide +kernel
theorem dX8_ofTrain_5 : decode cX8_ofTrain 5 = .ok (.invokevirtual 275, 3) := by decide +kernel
theorem dX8_ofTrain_8 : decode cX8_ofTrain 8 = .ok (.ifCond .ne 14, 3) := by decide +kernel
theorem dX8_ofTrain_11 : decode cX8_ofTrain 11 = .ok (.new 105, 3) := by decide +kernel
theorem dX8_ofTrain_14 : decode cX8_ofTrain 14 = .ok (.dup, 1) := by decide +kernel
theorem dX8_ofTrain_15 : decode cX8_ofTrain 15 = .ok (.ldc_w 276, 3) := by decide +kernel
theorem dX8_ofTrain_18 : decode cX8_ofTrain 18 = .ok (.invokespecial 109, 3) := by decide +kernel
theorem dX8_ofTrain_21 : decode cX8_ofTrain 21 = .ok (.athrow, 1) := by decide +kernel
theorem dX8_ofTrain_22 : decode cX8_ofTrain 22 = .ok (.iload_n 2, 1) := by decide +kernel
theorem dX8_ofTrain_23 : decode cX8_ofTrain 23 = .ok (.ifCond .lt 9, 3) := by decide +kernel
theorem dX8_ofTrain_26 : decode cX8_ofTrain 26 = .ok (.iload_n 2, 1) := by decide +kernel
theorem dX8_ofTrain_27 : decode cX8_ofTrain 27 = .ok (.bipush 9, 2) := by decide +kernel
theorem dX8_ofTrain_29 : decode cX8_ofTrain 29 = .ok (.if_icmp .le 14, 3) := by decide +kernel
theorem dX8_ofTrain_32 : decode cX8_ofTrain 32 = .ok (.new 77, 3) := by decide +kernel
theorem dX8_ofTrain_35 : decode cX8_ofTrain 35 = .ok (.dup, 1) := by decide +kernel
theorem dX8_ofTrain_36 : decode cX8_ofTrain 36 = .ok (.ldc_w 296, 3) := by decide +kernel
theorem dX8_ofTrain_39 : decode cX8_ofTrain 39 = .ok (.invokespecial 81, 3) := by decide +kernel
theorem dX8_ofTrain_42 : decode cX8_ofTrain 42 = .ok (.athrow, 1) := by decide +kernel
theorem dX8_ofTrain_43 : decode cX8_ofTrain 43 = .ok (.aload_n 0, 1) := by decide +kernel
theorem dX8_ofTrain_44 : decode cX8_ofTrain 44 = .ok (.iload_n 1, 1) := by decide +kernel
theorem dX8_ofTrain_45 : decode cX8_ofTrain 45 = .ok (.iload_n 2, 1) := by decide +kernel
theorem dX8_ofTrain_46 : decode cX8_ofTrain 46 = .ok (.invokevirtual 298, 3) := by decide +kernel
theorem dX8_ofTrain_49 : decode cX8_ofTrain 49 = .ok (.ireturn, 1) := by decide +kernel
theorem dX8_supply_0 : decode cX8_supply 0 = .ok (.iload_n 1, 1) := by decide +kernel
theorem dX8_supply_1 : decode cX8_supply 1 = .ok (.invokestatic 162, 3) := by decide +kernel
theorem dX8_supply_4 : decode cX8_supply 4 = .ok (.ifCond .eq 13, 3) := by decide +kernel
theorem dX8_supply_7 : decode cX8_supply 7 = .ok (.new 105, 3) := by decide +kernel
theorem dX8_supply_10 : decode cX8_supply 10 = .ok (.dup, 1) := by decide +kernel
theorem dX8_supply_11 : decode cX8_supply 11 = .ok (.ldc 165, 2) := by decide +kernel
theorem dX8_supply_13 : decode cX8_supply 13 = .ok (.invokespecial 109, 3) := by decide +kernel
theorem dX8_supply_16 : decode cX8_supply 16 = .ok (.athrow, 1) := by decide +kernel
theorem dX8_supply_17 : decode cX8_supply 17 = .ok (.aload_n 0, 1) := by decide +kernel
theorem dX8_supply_18 : decode cX8_supply 18 = .ok (.iload_n 2, 1) := by decide +kernel
theorem dX8_supply_19 : decode cX8_supply 19 = .ok (.invokevirtual 220, 3) := by decide +kernel
theorem dX8_supply_22 : decode cX8_supply 22 = .ok (.ifCond .eq 13, 3) := by decide +kernel
theorem dX8_supply_25 : decode cX8_supply 25 = .ok (.new 77, 3) := by decide +kernel
theorem dX8_supply_28 : decode cX8_supply 28 = .ok (.dup, 1) := by decide +kernel
theorem dX8_supply_29 : decode cX8_supply 29 = .ok (.ldc 223, 2) := by decide +kernel
theorem dX8_supply_31 : decode cX8_supply 31 = .ok (.invokespecial 81, 3) := by decide +kernel
theorem dX8_supply_34 : decode cX8_supply 34 = .ok (.athrow, 1) := by decide +kernel
theorem dX8_supply_35 : decode cX8_supply 35 = .ok (.aload_n 0, 1) := by decide +kernel
theorem dX8_supply_36 : decode cX8_supply 36 = .ok (.getfield 50, 3) := by decide +kernel
theorem dX8_supply_39 : decode cX8_supply 39 = .ok (.iload_n 1, 1) := by decide +kernel
theorem dX8_supply_40 : decode cX8_supply 40 = .ok (.iconst 0, 1) := by decide +kernel
theorem dX8_supply_41 : decode cX8_supply 41 = .ok (.invokevirtual 192, 3) := by decide +kernel
theorem dX8_supply_44 : decode cX8_supply 44 = .ok (.iconst (-1), 1) := by decide +kernel
theorem dX8_supply_45 : decode cX8_supply 45 = .ok (.if_icmp .ne 14, 3) := by decide +kernel
theorem dX8_supply_48 : decode cX8_supply 48 = .ok (.new 92, 3) := by decide +kernel
theorem dX8_supply_51 : decode cX8_supply 51 = .ok (.dup, 1) := by decide +kernel
theorem dX8_supply_52 : decode cX8_supply 52 = .ok (.ldc_w 305, 3) := by decide +kernel
theorem dX8_supply_55 : decode cX8_supply 55 = .ok (.invokespecial 96, 3) := by decide +kernel
theorem dX8_supply_58 : decode cX8_supply 58 = .ok (.athrow, 1) := by decide +kernel
theorem dX8_supply_59 : decode cX8_supply 59 = .ok (.aload_n 0, 1) := by decide +kernel
theorem dX8_supply_60 : decode cX8_supply 60 = .ok (.getfield 43, 3) := by decide +kernel
theorem dX8_supply_63 : decode cX8_supply 63 = .ok (.invokevirtual 307, 3) := by decide +kernel
theorem dX8_supply_66 : decode cX8_supply 66 = .ok (.istore_n 3, 1) := by decide +kernel
theorem dX8_supply_67 : decode cX8_supply 67 = .ok (.iload_n 3, 1) := by decide +kernel
theorem dX8_supply_68 : decode cX8_supply 68 = .ok (.iconst (-1), 1) := by decide +kernel
theorem dX8_supply_69 : decode cX8_supply 69 = .ok (.if_icmp .ne 14, 3) := by decide +kernel
theorem dX8_supply_72 : decode cX8_supply 72 = .ok (.new 92, 3) := by decide +kernel
theorem dX8_supply_75 : decode cX8_supply 75 = .ok (.dup, 1) := by decide +kernel
theorem dX8_supply_76 : decode cX8_supply 76 = .ok (.ldc_w 310, 3) := by decide +kernel
theorem dX8_supply_79 : decode cX8_supply 79 = .ok (.invokespecial 96, 3) := by decide +kernel
theorem dX8_supply_82 : decode cX8_supply 82 = .ok (.athrow, 1) := by decide +kernel
theorem dX8_supply_83 : decode cX8_supply 83 = .ok (.iload_n 3, 1) := by decide +kernel
theorem dX8_supply_84 : decode cX8_supply 84 = .ok (.invokestatic 312, 3) := by decide +kernel
theorem dX8_supply_87 : decode cX8_supply 87 = .ok (.istore 4, 2) := by decide +kernel
theorem dX8_supply_89 : decode cX8_supply 89 = .ok (.aload_n 0, 1) := by decide +kernel
theorem dX8_supply_90 : decode cX8_supply 90 = .ok (.getfield 30, 3) := by decide +kernel
theorem dX8_supply_93 : decode cX8_supply 93 = .ok (.aload_n 0, 1) := by decide +kernel
theorem dX8_supply_94 : decode cX8_supply 94 = .ok (.getfield 26, 3) := by decide +kernel
theorem dX8_supply_97 : decode cX8_supply 97 = .ok (.invokevirtual 235, 3) := by decide +kernel
theorem dX8_supply_100 : decode cX8_supply 100 = .ok (.aload_n 0, 1) := by decide +kernel
theorem dX8_supply_101 : decode cX8_supply 101 = .ok (.getfield 30, 3) := by decide +kernel
theorem dX8_supply_104 : decode cX8_supply 104 = .ok (.iload 4, 2) := by decide +kernel
theorem dX8_supply_106 : decode cX8_supply 106 = .ok (.iload_n 1, 1) := by decide +kernel
theorem dX8_supply_107 : decode cX8_supply 107 = .ok (.aload_n 0, 1) := by decide +kernel
theorem dX8_supply_108 : decode cX8_supply 108 = .ok (.getfield 50, 3) := by decide +kernel
theorem dX8_supply_111 : decode cX8_supply 111 = .ok (.iload_n 1, 1) := by decide +kernel
theorem dX8_supply_112 : decode cX8_supply 112 = .ok (.iconst 0, 1) := by decide +kernel
theorem dX8_supply_113 : decode cX8_supply 113 = .ok (.invokevirtual 192, 3) := by decide +kernel
theorem dX8_supply_116 : decode cX8_supply 116 = .ok (.iconst 3, 1) := by decide +kernel
theorem dX8_supply_117 : decode cX8_supply 117 = .ok (.invokevirtual 315, 3) := by decide +kernel
theorem dX8_supply_120 : decode cX8_supply 120 = .ok (.aload_n 0, 1) := by decide +kernel
theorem dX8_supply_121 : decode cX8_supply 121 = .ok (.getfield 30, 3) := by decide +kernel
theorem dX8_supply_124 : decode cX8_supply 124 = .ok (.iload 4, 2) := by decide +kernel
theorem dX8_supply_126 : decode cX8_supply 126 = .ok (.iconst 0, 1) := by decide +kernel
theorem dX8_supply_127 : decode cX8_supply 127 = .ok (.aload_n 0, 1) := by decide +kernel
theorem dX8_supply_128 : decode cX8_supply 128 = .ok (.getfield 10, 3) := by decide +kernel
theorem dX8_supply_131 : decode cX8_supply 131 = .ok (.invokevirtual 319, 3) := by decide +kernel
theorem dX8_supply_134 : decode cX8_supply 134 = .ok (.istore 5, 2) := by decide +kernel
theorem dX8_supply_136 : decode cX8_supply 136 = .ok (.iload 5, 2) := by decide +kernel
theorem dX8_supply_138 : decode cX8_supply 138 = .ok (.ifCond .eq 21, 3) := by decide +kernel
theorem dX8_supply_141 : decode cX8_supply 141 = .ok (.aload_n 0, 1) := by decide +kernel
theorem dX8_supply_142 : decode cX8_supply 142 = .ok (.getfield 30, 3) := by decide +kernel
theorem dX8_supply_145 : decode cX8_supply 145 = .ok (.iload 4, 2) := by decide +kernel
theorem dX8_supply_147 : decode cX8_supply 147 = .ok (.iload_n 2, 1) := by decide +kernel
theorem dX8_supply_148 : decode cX8_supply 148 = .ok (.iload_n 2, 1) := by decide +kernel
theorem dX8_supply_149 : decode cX8_supply 149 = .ok (.sipush 288, 3) := by decide +kernel
theorem dX8_supply_152 : decode cX8_supply 152 = .ok (.iadd, 1) := by decide +kernel
theorem dX8_supply_153 : decode cX8_supply 153 = .ok (.invokevirtual 323, 3) := by decide +kernel
theorem dX8_supply_156 : decode cX8_supply 156 = .ok (.goto 5, 3) := by decide +kernel
theorem dX8_supply_159 : decode cX8_supply 159 = .ok (.bipush (-2), 2) := by decide +kernel
theorem dX8_supply_161 : decode cX8_supply 161 = .ok (.istore 6, 2) := by decide +kernel
theorem dX8_supply_163 : decode cX8_supply 163 = .ok (.iload 6, 2) := by decide +kernel
theorem dX8_supply_165 : decode cX8_supply 165 = .ok (.ifCond .lt 23, 3) := by decide +kernel
theorem dX8_supply_168 : decode cX8_supply 168 = .ok (.aload_n 0, 1) := by decide +kernel
theorem dX8_supply_169 : decode cX8_supply 169 = .ok (.getfield 26, 3) := by decide +kernel
theorem dX8_supply_172 : decode cX8_supply 172 = .ok (.aload_n 0, 1) := by decide +kernel
theorem dX8_supply_173 : decode cX8_supply 173 = .ok (.getfield 30, 3) := by decide +kernel
theorem dX8_supply_176 : decode cX8_supply 176 = .ok (.invokevirtual 235, 3) := by decide +kernel
theorem dX8_supply_179 : decode cX8_supply 179 = .ok (.aload_n 0, 1) := by decide +kernel
theorem dX8_supply_180 : decode cX8_supply 180 = .ok (.getfield 43, 3) := by decide +kernel
theorem dX8_supply_183 : decode cX8_supply 183 = .ok (.iload_n 3, 1) := by decide +kernel
theorem dX8_supply_184 : decode cX8_supply 184 = .ok (.iload_n 1, 1) := by decide +kernel
theorem dX8_supply_185 : decode cX8_supply 185 = .ok (.invokevirtual 326, 3) := by decide +kernel
theorem dX8_supply_188 : decode cX8_supply 188 = .ok (.iload 6, 2) := by decide +kernel
theorem dX8_supply_190 : decode cX8_supply 190 = .ok (.ireturn, 1) := by decide +kernel
theorem dX8_foe_0 : decode cX8_foe 0 = .ok (.iload_n 1, 1) := by decide +kernel
theorem dX8_foe_1 : decode cX8_foe 1 = .ok (.invokestatic 329, 3) := by decide +kernel
theorem dX8_foe_4 : decode cX8_foe 4 = .ok (.ifCond .eq 14, 3) := by decide +kernel
theorem dX8_foe_7 : decode cX8_foe 7 = .ok (.new 105, 3) := by decide +kernel
theorem dX8_foe_10 : decode cX8_foe 10 = .ok (.dup, 1) := by decide +kernel
theorem dX8_foe_11 : decode cX8_foe 11 = .ok (.ldc_w 332, 3) := by decide +kernel
theorem dX8_foe_14 : decode cX8_foe 14 = .ok (.invokespecial 109, 3) := by decide +kernel
theorem dX8_foe_17 : decode cX8_foe 17 = .ok (.athrow, 1) := by decide +kernel
theorem dX8_foe_18 : decode cX8_foe 18 = .ok (.iload_n 2, 1) := by decide +kernel
theorem dX8_foe_19 : decode cX8_foe 19 = .ok (.invokestatic 162, 3) := by decide +kernel
theorem dX8_foe_22 : decode cX8_foe 22 = .ok (.ifCond .eq 13, 3) := by decide +kernel
theorem dX8_foe_25 : decode cX8_foe 25 = .ok (.new 105, 3) := by decide +kernel
theorem dX8_foe_28 : decode cX8_foe 28 = .ok (.dup, 1) := by decide +kernel
theorem dX8_foe_29 : decode cX8_foe 29 = .ok (.ldc 165, 2) := by decide +kernel
theorem dX8_foe_31 : decode cX8_foe 31 = .ok (.invokespecial 109, 3) := by decide +kernel
theorem dX8_foe_34 : decode cX8_foe 34 = .ok (.athrow, 1) := by decide +kernel
theorem dX8_foe_35 : decode cX8_foe 35 = .ok (.iload_n 3, 1) := by decide +kernel
theorem dX8_foe_36 : decode cX8_foe 36 = .ok (.aload_n 0, 1) := by decide +kernel
theorem dX8_foe_37 : decode cX8_foe 37 = .ok (.invokevirtual 334, 3) := by decide +kernel
theorem dX8_foe_40 : decode cX8_foe 40 = .ok (.if_icmp .le 9, 3) := by decide +kernel
theorem dX8_foe_43 : decode cX8_foe 43 = .ok (.iload_n 3, 1) := by decide +kernel
theorem dX8_foe_44 : decode cX8_foe 44 = .ok (.bipush 20, 2) := by decide +kernel
theorem dX8_foe_46 : decode cX8_foe 46 = .ok (.if_icmp .le 14, 3) := by decide +kernel
theorem dX8_foe_49 : decode cX8_foe 49 = .ok (.new 77, 3) := by decide +kernel
theorem dX8_foe_52 : decode cX8_foe 52 = .ok (.dup, 1) := by decide +kernel
theorem dX8_foe_53 : decode cX8_foe 53 = .ok (.ldc_w 337, 3) := by decide +kernel
theorem dX8_foe_56 : decode cX8_foe 56 = .ok (.invokespecial 81, 3) := by decide +kernel
theorem dX8_foe_59 : decode cX8_foe 59 = .ok (.athrow, 1) := by decide +kernel
theorem dX8_foe_60 : decode cX8_foe 60 = .ok (.iload 4, 2) := by decide +kernel
theorem dX8_foe_62 : decode cX8_foe 62 = .ok (.iconst 1, 1) := by decide +kernel
theorem dX8_foe_63 : decode cX8_foe 63 = .ok (.if_icmp .lt 10, 3) := by decide +kernel
theorem dX8_foe_66 : decode cX8_foe 66 = .ok (.iload 4, 2) := by decide +kernel
theorem dX8_foe_68 : decode cX8_foe 68 = .ok (.bipush 60, 2) := by decide +kernel
theorem dX8_foe_70 : decode cX8_foe 70 = .ok (.if_icmp .le 14, 3) := by decide +kernel
theorem dX8_foe_73 : decode cX8_foe 73 = .ok (.new 77, 3) := by decide +kernel
theorem dX8_foe_76 : decode cX8_foe 76 = .ok (.dup, 1) := by decide +kernel
theorem dX8_foe_77 : decode cX8_foe 77 = .ok (.ldc_w 339, 3) := by decide +kernel
theorem dX8_foe_80 : decode cX8_foe 80 = .ok (.invokespecial 81, 3) := by decide +kernel
theorem dX8_foe_83 : decode cX8_foe 83 = .ok (.athrow, 1) := by decide +kernel
theorem dX8_foe_84 : decode cX8_foe 84 = .ok (.aload_n 0, 1) := by decide +kernel
theorem dX8_foe_85 : decode cX8_foe 85 = .ok (.getfield 57, 3) := by decide +kernel
theorem dX8_foe_88 : decode cX8_foe 88 = .ok (.iload_n 1, 1) := by decide +kernel
theorem dX8_foe_89 : decode cX8_foe 89 = .ok (.invokevirtual 341, 3) := by decide +kernel
theorem dX8_foe_92 : decode cX8_foe 92 = .ok (.bipush 6, 2) := by decide +kernel
theorem dX8_foe_94 : decode cX8_foe 94 = .ok (.if_icmp .lt 14, 3) := by decide +kernel
theorem dX8_foe_97 : decode cX8_foe 97 = .ok (.new 92, 3) := by decide +kernel
theorem dX8_foe_100 : decode cX8_foe 100 = .ok (.dup, 1) := by decide +kernel
theorem dX8_foe_101 : decode cX8_foe 101 = .ok (.ldc_w 344, 3) := by decide +kernel
theorem dX8_foe_104 : decode cX8_foe 104 = .ok (.invokespecial 96, 3) := by decide +kernel
theorem dX8_foe_107 : decode cX8_foe 107 = .ok (.athrow, 1) := by decide +kernel
theorem dX8_foe_108 : decode cX8_foe 108 = .ok (.aload_n 0, 1) := by decide +kernel
theorem dX8_foe_109 : decode cX8_foe 109 = .ok (.getfield 57, 3) := by decide +kernel
theorem dX8_foe_112 : decode cX8_foe 112 = .ok (.iload_n 1, 1) := by decide +kernel
theorem dX8_foe_113 : decode cX8_foe 113 = .ok (.iload_n 2, 1) := by decide +kernel
theorem dX8_foe_114 : decode cX8_foe 114 = .ok (.iload_n 3, 1) := by decide +kernel
theorem dX8_foe_115 : decode cX8_foe 115 = .ok (.iload 4, 2) := by decide +kernel
theorem dX8_foe_117 : decode cX8_foe 117 = .ok (.invokevirtual 346, 3) := by decide +kernel
theorem dX8_foe_120 : decode cX8_foe 120 = .ok (.ireturn, 1) := by decide +kernel
theorem dX8_ofSector_0 : decode cX8_ofSector 0 = .ok (.iload_n 1, 1) := by decide +kernel
theorem dX8_ofSector_1 : decode cX8_ofSector 1 = .ok (.invokestatic 162, 3) := by decide +kernel
theorem dX8_ofSector_4 : decode cX8_ofSector 4 = .ok (.ifCond .eq 13, 3) := by decide +kernel
theorem dX8_ofSector_7 : decode cX8_ofSector 7 = .ok (.new 105, 3) := by decide +kernel
theorem dX8_ofSector_10 : decode cX8_ofSector 10 = .ok (.dup, 1) := by decide +kernel
theorem dX8_ofSector_11 : decode cX8_ofSector 11 = .ok (.ldc 165, 2) := by decide +kernel
theorem dX8_ofSector_13 : decode cX8_ofSector 13 = .ok (.invokespecial 109, 3) := by decide +kernel
theorem dX8_ofSector_16 : decode cX8_ofSector 16 = .ok (.athrow, 1) := by decide +kernel
theorem dX8_ofSector_17 : decode cX8_ofSector 17 = .ok (.iload_n 2, 1) := by decide +kernel
theorem dX8_ofSector_18 : decode cX8_ofSector 18 = .ok (.ifCond .lt 9, 3) := by decide +kernel
theorem dX8_ofSector_21 : decode cX8_ofSector 21 = .ok (.iload_n 2, 1) := by decide +kernel
theorem dX8_ofSector_22 : decode cX8_ofSector 22 = .ok (.bipush 12, 2) := by decide +kernel
theorem dX8_ofSector_24 : decode cX8_ofSector 24 = .ok (.if_icmp .le 13, 3) := by decide +kernel
theorem dX8_ofSector_27 : decode cX8_ofSector 27 = .ok (.new 77, 3) := by decide +kernel
theorem dX8_ofSector_30 : decode cX8_ofSector 30 = .ok (.dup, 1) := by decide +kernel
theorem dX8_ofSector_31 : decode cX8_ofSector 31 = .ok (.ldc 215, 2) := by decide +kernel
theorem dX8_ofSector_33 : decode cX8_ofSector 33 = .ok (.invokespecial 81, 3) := by decide +kernel
theorem dX8_ofSector_36 : decode cX8_ofSector 36 = .ok (.athrow, 1) := by decide +kernel
theorem dX8_ofSector_37 : decode cX8_ofSector 37 = .ok (.aload_n 0, 1) := by decide +kernel
theorem dX8_ofSector_38 : decode cX8_ofSector 38 = .ok (.iload_n 1, 1) := by decide +kernel
theorem dX8_ofSector_39 : decode cX8_ofSector 39 = .ok (.iload_n 2, 1) := by decide +kernel
theorem dX8_ofSector_40 : decode cX8_ofSector 40 = .ok (.invokevirtual 347, 3) := by decide +kernel
theorem dX8_ofSector_43 : decode cX8_ofSector 43 = .ok (.ireturn, 1) := by decide +kernel
theorem dX8_pass_0 : decode cX8_pass 0 = .ok (.iload_n 1, 1) := by decide +kernel
theorem dX8_pass_1 : decode cX8_pass 1 = .ok (.iconst 1, 1) := by decide +kernel
theorem dX8_pass_2 : decode cX8_pass 2 = .ok (.if_icmp .lt 10, 3) := by decide +kernel
theorem dX8_pass_5 : decode cX8_pass 5 = .ok (.iload_n 1, 1) := by decide +kernel
theorem dX8_pass_6 : decode cX8_pass 6 = .ok (.sipush 144, 3) := by decide +kernel
theorem dX8_pass_9 : decode cX8_pass 9 = .ok (.if_icmp .le 14, 3) := by decide +kernel
theorem dX8_pass_12 : decode cX8_pass 12 = .ok (.new 77, 3) := by decide +kernel
theorem dX8_pass_15 : decode cX8_pass 15 = .ok (.dup, 1) := by decide +kernel
theorem dX8_pass_16 : decode cX8_pass 16 = .ok (.ldc_w 367, 3) := by decide +kernel
theorem dX8_pass_19 : decode cX8_pass 19 = .ok (.invokespecial 81, 3) := by decide +kernel
theorem dX8_pass_22 : decode cX8_pass 22 = .ok (.athrow, 1) := by decide +kernel
theorem dX8_pass_23 : decode cX8_pass 23 = .ok (.aload_n 0, 1) := by decide +kernel
theorem dX8_pass_24 : decode cX8_pass 24 = .ok (.getfield 70, 3) := by decide +kernel
theorem dX8_pass_27 : decode cX8_pass 27 = .ok (.iload_n 1, 1) := by decide +kernel
theorem dX8_pass_28 : decode cX8_pass 28 = .ok (.iadd, 1) := by decide +kernel
theorem dX8_pass_29 : decode cX8_pass 29 = .ok (.sipush 2880, 3) := by decide +kernel
theorem dX8_pass_32 : decode cX8_pass 32 = .ok (.if_icmp .le 14, 3) := by decide +kernel
theorem dX8_pass_35 : decode cX8_pass 35 = .ok (.new 92, 3) := by decide +kernel
theorem dX8_pass_38 : decode cX8_pass 38 = .ok (.dup, 1) := by decide +kernel
theorem dX8_pass_39 : decode cX8_pass 39 = .ok (.ldc_w 369, 3) := by decide +kernel
theorem dX8_pass_42 : decode cX8_pass 42 = .ok (.invokespecial 96, 3) := by decide +kernel
theorem dX8_pass_45 : decode cX8_pass 45 = .ok (.athrow, 1) := by decide +kernel
theorem dX8_pass_46 : decode cX8_pass 46 = .ok (.iconst 0, 1) := by decide +kernel
theorem dX8_pass_47 : decode cX8_pass 47 = .ok (.istore_n 2, 1) := by decide +kernel
theorem dX8_pass_48 : decode cX8_pass 48 = .ok (.iload_n 2, 1) := by decide +kernel
theorem dX8_pass_49 : decode cX8_pass 49 = .ok (.iload_n 1, 1) := by decide +kernel
theorem dX8_pass_50 : decode cX8_pass 50 = .ok (.if_icmp .ge 13, 3) := by decide +kernel
theorem dX8_pass_53 : decode cX8_pass 53 = .ok (.aload_n 0, 1) := by decide +kernel
theorem dX8_pass_54 : decode cX8_pass 54 = .ok (.invokevirtual 371, 3) := by decide +kernel
theorem dX8_pass_57 : decode cX8_pass 57 = .ok (.iinc 2 1, 3) := by decide +kernel
theorem dX8_pass_60 : decode cX8_pass 60 = .ok (.goto (-12), 3) := by decide +kernel
theorem dX8_pass_63 : decode cX8_pass 63 = .ok (.aload_n 0, 1) := by decide +kernel
theorem dX8_pass_64 : decode cX8_pass 64 = .ok (.getfield 70, 3) := by decide +kernel
theorem dX8_pass_67 : decode cX8_pass 67 = .ok (.ireturn, 1) := by decide +kernel
theorem dX8_many_0 : decode cX8_many 0 = .ok (.iload_n 1, 1) := by decide +kernel
theorem dX8_many_1 : decode cX8_many 1 = .ok (.ifCond .lt 9, 3) := by decide +kernel
theorem dX8_many_4 : decode cX8_many 4 = .ok (.iload_n 1, 1) := by decide +kernel
theorem dX8_many_5 : decode cX8_many 5 = .ok (.bipush 12, 2) := by decide +kernel
theorem dX8_many_7 : decode cX8_many 7 = .ok (.if_icmp .le 13, 3) := by decide +kernel
theorem dX8_many_10 : decode cX8_many 10 = .ok (.new 77, 3) := by decide +kernel
theorem dX8_many_13 : decode cX8_many 13 = .ok (.dup, 1) := by decide +kernel
theorem dX8_many_14 : decode cX8_many 14 = .ok (.ldc 215, 2) := by decide +kernel
theorem dX8_many_16 : decode cX8_many 16 = .ok (.invokespecial 81, 3) := by decide +kernel
theorem dX8_many_19 : decode cX8_many 19 = .ok (.athrow, 1) := by decide +kernel
theorem dX8_many_20 : decode cX8_many 20 = .ok (.aload_n 0, 1) := by decide +kernel
theorem dX8_many_21 : decode cX8_many 21 = .ok (.iload_n 1, 1) := by decide +kernel
theorem dX8_many_22 : decode cX8_many 22 = .ok (.invokevirtual 374, 3) := by decide +kernel
theorem dX8_many_25 : decode cX8_many 25 = .ok (.ireturn, 1) := by decide +kernel
theorem dX8_isSound_0 : decode cX8_isSound 0 = .ok (.aload_n 0, 1) := by decide +kernel
theorem dX8_isSound_1 : decode cX8_isSound 1 = .ok (.invokevirtual 377, 3) := by decide +kernel
theorem dX8_isSound_4 : decode cX8_isSound 4 = .ok (.ireturn, 1) := by decide +kernel
theorem dX8_digest_0 : decode cX8_digest 0 = .ok (.ldc2_w 402, 3) := by decide +kernel
theorem dX8_digest_3 : decode cX8_digest 3 = .ok (.lstore_n 1, 1) := by decide +kernel
theorem dX8_digest_4 : decode cX8_digest 4 = .ok (.iconst 0, 1) := by decide +kernel
theorem dX8_digest_5 : decode cX8_digest 5 = .ok (.istore_n 3, 1) := by decide +kernel
theorem dX8_digest_6 : decode cX8_digest 6 = .ok (.iload_n 3, 1) := by decide +kernel
theorem dX8_digest_7 : decode cX8_digest 7 = .ok (.bipush 12, 2) := by decide +kernel
theorem dX8_digest_9 : decode cX8_digest 9 = .ok (.if_icmp .gt 22, 3) := by decide +kernel
theorem dX8_digest_12 : decode cX8_digest 12 = .ok (.lload_n 1, 1) := by decide +kernel
theorem dX8_digest_13 : decode cX8_digest 13 = .ok (.ldc2_w 404, 3) := by decide +kernel
theorem dX8_digest_16 : decode cX8_digest 16 = .ok (.lmul, 1) := by decide +kernel
theorem dX8_digest_17 : decode cX8_digest 17 = .ok (.aload_n 0, 1) := by decide +kernel
theorem dX8_digest_18 : decode cX8_digest 18 = .ok (.iload_n 3, 1) := by decide +kernel
theorem dX8_digest_19 : decode cX8_digest 19 = .ok (.invokevirtual 374, 3) := by decide +kernel
theorem dX8_digest_22 : decode cX8_digest 22 = .ok (.i2l, 1) := by decide +kernel
theorem dX8_digest_23 : decode cX8_digest 23 = .ok (.ladd, 1) := by decide +kernel
theorem dX8_digest_24 : decode cX8_digest 24 = .ok (.lstore_n 1, 1) := by decide +kernel
theorem dX8_digest_25 : decode cX8_digest 25 = .ok (.iinc 3 1, 3) := by decide +kernel
theorem dX8_digest_28 : decode cX8_digest 28 = .ok (.goto (-22), 3) := by decide +kernel
theorem dX8_digest_31 : decode cX8_digest 31 = .ok (.aload_n 0, 1) := by decide +kernel
theorem dX8_digest_32 : decode cX8_digest 32 = .ok (.lload_n 1, 1) := by decide +kernel
theorem dX8_digest_33 : decode cX8_digest 33 = .ok (.invokevirtual 406, 3) := by decide +kernel
theorem dX8_digest_36 : decode cX8_digest 36 = .ok (.lstore_n 1, 1) := by decide +kernel
theorem dX8_digest_37 : decode cX8_digest 37 = .ok (.aload_n 0, 1) := by decide +kernel
theorem dX8_digest_38 : decode cX8_digest 38 = .ok (.lload_n 1, 1) := by decide +kernel
theorem dX8_digest_39 : decode cX8_digest 39 = .ok (.invokevirtual 410, 3) := by decide +kernel
theorem dX8_digest_42 : decode cX8_digest 42 = .ok (.lstore_n 1, 1) := by decide +kernel
theorem dX8_digest_43 : decode cX8_digest 43 = .ok (.aload_n 0, 1) := by decide +kernel
theorem dX8_digest_44 : decode cX8_digest 44 = .ok (.lload_n 1, 1) := by decide +kernel
theorem dX8_digest_45 : decode cX8_digest 45 = .ok (.invokevirtual 413, 3) := by decide +kernel
theorem dX8_digest_48 : decode cX8_digest 48 = .ok (.lstore_n 1, 1) := by decide +kernel
theorem dX8_digest_49 : decode cX8_digest 49 = .ok (.aload_n 0, 1) := by decide +kernel
theorem dX8_digest_50 : decode cX8_digest 50 = .ok (.lload_n 1, 1) := by decide +kernel
theorem dX8_digest_51 : decode cX8_digest 51 = .ok (.invokevirtual 416, 3) := by decide +kernel
theorem dX8_digest_54 : decode cX8_digest 54 = .ok (.lstore_n 1, 1) := by decide +kernel
theorem dX8_digest_55 : decode cX8_digest 55 = .ok (.lload_n 1, 1) := by decide +kernel
theorem dX8_digest_56 : decode cX8_digest 56 = .ok (.ldc2_w 404, 3) := by decide +kernel
theorem dX8_digest_59 : decode cX8_digest 59 = .ok (.lmul, 1) := by decide +kernel
theorem dX8_digest_60 : decode cX8_digest 60 = .ok (.aload_n 0, 1) := by decide +kernel
theorem dX8_digest_61 : decode cX8_digest 61 = .ok (.getfield 57, 3) := by decide +kernel
theorem dX8_digest_64 : decode cX8_digest 64 = .ok (.aload_n 0, 1) := by decide +kernel
theorem dX8_digest_65 : decode cX8_digest 65 = .ok (.invokevirtual 334, 3) := by decide +kernel
theorem dX8_digest_68 : decode cX8_digest 68 = .ok (.invokevirtual 361, 3) := by decide +kernel
theorem dX8_digest_71 : decode cX8_digest 71 = .ok (.i2l, 1) := by decide +kernel
theorem dX8_digest_72 : decode cX8_digest 72 = .ok (.ladd, 1) := by decide +kernel
theorem dX8_digest_73 : decode cX8_digest 73 = .ok (.lstore_n 1, 1) := by decide +kernel
theorem dX8_digest_74 : decode cX8_digest 74 = .ok (.lload_n 1, 1) := by decide +kernel
theorem dX8_digest_75 : decode cX8_digest 75 = .ok (.ldc2_w 404, 3) := by decide +kernel
theorem dX8_digest_78 : decode cX8_digest 78 = .ok (.lmul, 1) := by decide +kernel
theorem dX8_digest_79 : decode cX8_digest 79 = .ok (.aload_n 0, 1) := by decide +kernel
theorem dX8_digest_80 : decode cX8_digest 80 = .ok (.invokevirtual 377, 3) := by decide +kernel
theorem dX8_digest_83 : decode cX8_digest 83 = .ok (.ifCond .eq 7, 3) := by decide +kernel
theorem dX8_digest_86 : decode cX8_digest 86 = .ok (.iconst 1, 1) := by decide +kernel
theorem dX8_digest_87 : decode cX8_digest 87 = .ok (.goto 4, 3) := by decide +kernel
theorem dX8_digest_90 : decode cX8_digest 90 = .ok (.iconst 0, 1) := by decide +kernel
theorem dX8_digest_91 : decode cX8_digest 91 = .ok (.i2l, 1) := by decide +kernel
theorem dX8_digest_92 : decode cX8_digest 92 = .ok (.ladd, 1) := by decide +kernel
theorem dX8_digest_93 : decode cX8_digest 93 = .ok (.lreturn, 1) := by decide +kernel
theorem dX8_isNoTrack_0 : decode cX8_isNoTrack 0 = .ok (.iload_n 0, 1) := by decide +kernel
theorem dX8_isNoTrack_1 : decode cX8_isNoTrack 1 = .ok (.iconst 1, 1) := by decide +kernel
theorem dX8_isNoTrack_2 : decode cX8_isNoTrack 2 = .ok (.if_icmp .lt 17, 3) := by decide +kernel
theorem dX8_isNoTrack_5 : decode cX8_isNoTrack 5 = .ok (.iload_n 0, 1) := by decide +kernel
theorem dX8_isNoTrack_6 : decode cX8_isNoTrack 6 = .ok (.iconst 5, 1) := by decide +kernel
theorem dX8_isNoTrack_7 : decode cX8_isNoTrack 7 = .ok (.if_icmp .gt 12, 3) := by decide +kernel
theorem dX8_isNoTrack_10 : decode cX8_isNoTrack 10 = .ok (.iload_n 1, 1) := by decide +kernel
theorem dX8_isNoTrack_11 : decode cX8_isNoTrack 11 = .ok (.ifCond .lt 8, 3) := by decide +kernel
theorem dX8_isNoTrack_14 : decode cX8_isNoTrack 14 = .ok (.iload_n 1, 1) := by decide +kernel
theorem dX8_isNoTrack_15 : decode cX8_isNoTrack 15 = .ok (.iconst 2, 1) := by decide +kernel
theorem dX8_isNoTrack_16 : decode cX8_isNoTrack 16 = .ok (.if_icmp .le 7, 3) := by decide +kernel
theorem dX8_isNoTrack_19 : decode cX8_isNoTrack 19 = .ok (.iconst 1, 1) := by decide +kernel
theorem dX8_isNoTrack_20 : decode cX8_isNoTrack 20 = .ok (.goto 4, 3) := by decide +kernel
theorem dX8_isNoTrack_23 : decode cX8_isNoTrack 23 = .ok (.iconst 0, 1) := by decide +kernel
theorem dX8_isNoTrack_24 : decode cX8_isNoTrack 24 = .ok (.ireturn, 1) := by decide +kernel
theorem dX8_isNoSector_0 : decode cX8_isNoSector 0 = .ok (.iload_n 0, 1) := by decide +kernel
theorem dX8_isNoSector_1 : decode cX8_isNoSector 1 = .ok (.ifCond .lt 8, 3) := by decide +kernel
theorem dX8_isNoSector_4 : decode cX8_isNoSector 4 = .ok (.iload_n 0, 1) := by decide +kernel
theorem dX8_isNoSector_5 : decode cX8_isNoSector 5 = .ok (.iconst 3, 1) := by decide +kernel
theorem dX8_isNoSector_6 : decode cX8_isNoSector 6 = .ok (.if_icmp .lt 7, 3) := by decide +kernel
theorem dX8_isNoSector_9 : decode cX8_isNoSector 9 = .ok (.iconst 1, 1) := by decide +kernel
theorem dX8_isNoSector_10 : decode cX8_isNoSector 10 = .ok (.goto 4, 3) := by decide +kernel
theorem dX8_isNoSector_13 : decode cX8_isNoSector 13 = .ok (.iconst 0, 1) := by decide +kernel
theorem dX8_isNoSector_14 : decode cX8_isNoSector 14 = .ok (.ireturn, 1) := by decide +kernel
theorem dX8_isNoFoePlan_0 : decode cX8_isNoFoePlan 0 = .ok (.iload_n 0, 1) := by decide +kernel
theorem dX8_isNoFoePlan_1 : decode cX8_isNoFoePlan 1 = .ok (.ifCond .lt 8, 3) := by decide +kernel
theorem dX8_isNoFoePlan_4 : decode cX8_isNoFoePlan 4 = .ok (.iload_n 0, 1) := by decide +kernel
theorem dX8_isNoFoePlan_5 : decode cX8_isNoFoePlan 5 = .ok (.iconst 3, 1) := by decide +kernel
theorem dX8_isNoFoePlan_6 : decode cX8_isNoFoePlan 6 = .ok (.if_icmp .lt 7, 3) := by decide +kernel
theorem dX8_isNoFoePlan_9 : decode cX8_isNoFoePlan 9 = .ok (.iconst 1, 1) := by decide +kernel
theorem dX8_isNoFoePlan_10 : decode cX8_isNoFoePlan 10 = .ok (.goto 4, 3) := by decide +kernel
theorem dX8_isNoFoePlan_13 : decode cX8_isNoFoePlan 13 = .ok (.iconst 0, 1) := by decide +kernel
theorem dX8_isNoFoePlan_14 : decode cX8_isNoFoePlan 14 = .ok (.ireturn, 1) := by decide +kernel
theorem dX8_isNoTickToPlan_0 : decode cX8_isNoTickToPlan 0 = .ok (.iload_n 1, 1) := by decide +kernel
theorem dX8_isNoTickToPlan_1 : decode cX8_isNoTickToPlan 1 = .ok (.aload_n 0, 1) := by decide +kernel
theorem dX8_isNoTickToPlan_2 : decode cX8_isNoTickToPlan 2 = .ok (.getfield 70, 3) := by decide +kernel
theorem dX8_isNoTickToPlan_5 : decode cX8_isNoTickToPlan 5 = .ok (.if_icmp .lt 10, 3) := by decide +kernel
theorem dX8_isNoTickToPlan_8 : decode cX8_isNoTickToPlan 8 = .ok (.iload_n 1, 1) := by decide +kernel
theorem dX8_isNoTickToPlan_9 : decode cX8_isNoTickToPlan 9 = .ok (.sipush 2880, 3) := by decide +kernel
theorem dX8_isNoTickToPlan_12 : decode cX8_isNoTickToPlan 12 = .ok (.if_icmp .le 7, 3) := by decide +kernel
theorem dX8_isNoTickToPlan_15 : decode cX8_isNoTickToPlan 15 = .ok (.iconst 1, 1) := by decide +kernel
theorem dX8_isNoTickToPlan_16 : decode cX8_isNoTickToPlan 16 = .ok (.goto 4, 3) := by decide +kernel
theorem dX8_isNoTickToPlan_19 : decode cX8_isNoTickToPlan 19 = .ok (.iconst 0, 1) := by decide +kernel
theorem dX8_isNoTickToPlan_20 : decode cX8_isNoTickToPlan 20 = .ok (.ireturn, 1) := by decide +kernel
theorem dX8_isNotPlannable_0 : decode cX8_isNotPlannable 0 = .ok (.aload_n 0, 1) := by decide +kernel
theorem dX8_isNotPlannable_1 : decode cX8_isNotPlannable 1 = .ok (.getfield 19, 3) := by decide +kernel
theorem dX8_isNotPlannable_4 : decode cX8_isNotPlannable 4 = .ok (.iload_n 1, 1) := by decide +kernel
theorem dX8_isNotPlannable_5 : decode cX8_isNotPlannable 5 = .ok (.iconst 4, 1) := by decide +kernel
theorem dX8_isNotPlannable_6 : decode cX8_isNotPlannable 6 = .ok (.invokevirtual 200, 3) := by decide +kernel
theorem dX8_isNotPlannable_9 : decode cX8_isNotPlannable 9 = .ok (.iconst 3, 1) := by decide +kernel
theorem dX8_isNotPlannable_10 : decode cX8_isNotPlannable 10 = .ok (.if_icmp .eq 46, 3) := by decide +kernel
theorem dX8_isNotPlannable_13 : decode cX8_isNotPlannable 13 = .ok (.aload_n 0, 1) := by decide +kernel
theorem dX8_isNotPlannable_14 : decode cX8_isNotPlannable 14 = .ok (.getfield 19, 3) := by decide +kernel
theorem dX8_isNotPlannable_17 : decode cX8_isNotPlannable 17 = .ok (.iload_n 1, 1) := by decide +kernel
theorem dX8_isNotPlannable_18 : decode cX8_isNotPlannable 18 = .ok (.bipush 7, 2) := by decide +kernel
theorem dX8_isNotPlannable_20 : decode cX8_isNotPlannable 20 = .ok (.invokevirtual 200, 3) := by decide +kernel
theorem dX8_isNotPlannable_23 : decode cX8_isNotPlannable 23 = .ok (.aload_n 0, 1) := by decide +kernel
theorem dX8_isNotPlannable_24 : decode cX8_isNotPlannable 24 = .ok (.getfield 19, 3) := by decide +kernel
theorem dX8_isNotPlannable_27 : decode cX8_isNotPlannable 27 = .ok (.iload_n 1, 1) := by decide +kernel
theorem dX8_isNotPlannable_28 : decode cX8_isNotPlannable 28 = .ok (.iconst 1, 1) := by decide +kernel
theorem dX8_isNotPlannable_29 : decode cX8_isNotPlannable 29 = .ok (.invokevirtual 200, 3) := by decide +kernel
theorem dX8_isNotPlannable_32 : decode cX8_isNotPlannable 32 = .ok (.if_icmp .ge 24, 3) := by decide +kernel
theorem dX8_isNotPlannable_35 : decode cX8_isNotPlannable 35 = .ok (.aload_n 0, 1) := by decide +kernel
theorem dX8_isNotPlannable_36 : decode cX8_isNotPlannable 36 = .ok (.getfield 50, 3) := by decide +kernel
theorem dX8_isNotPlannable_39 : decode cX8_isNotPlannable 39 = .ok (.aload_n 0, 1) := by decide +kernel
theorem dX8_isNotPlannable_40 : decode cX8_isNotPlannable 40 = .ok (.getfield 19, 3) := by decide +kernel
theorem dX8_isNotPlannable_43 : decode cX8_isNotPlannable 43 = .ok (.iload_n 1, 1) := by decide +kernel
theorem dX8_isNotPlannable_44 : decode cX8_isNotPlannable 44 = .ok (.iconst 3, 1) := by decide +kernel
theorem dX8_isNotPlannable_45 : decode cX8_isNotPlannable 45 = .ok (.invokevirtual 200, 3) := by decide +kernel
theorem dX8_isNotPlannable_48 : decode cX8_isNotPlannable 48 = .ok (.iconst 0, 1) := by decide +kernel
theorem dX8_isNotPlannable_49 : decode cX8_isNotPlannable 49 = .ok (.invokevirtual 192, 3) := by decide +kernel
theorem dX8_isNotPlannable_52 : decode cX8_isNotPlannable 52 = .ok (.iconst (-1), 1) := by decide +kernel
theorem dX8_isNotPlannable_53 : decode cX8_isNotPlannable 53 = .ok (.if_icmp .ne 7, 3) := by decide +kernel
theorem dX8_isNotPlannable_56 : decode cX8_isNotPlannable 56 = .ok (.iconst 1, 1) := by decide +kernel
theorem dX8_isNotPlannable_57 : decode cX8_isNotPlannable 57 = .ok (.goto 4, 3) := by decide +kernel
theorem dX8_isNotPlannable_60 : decode cX8_isNotPlannable 60 = .ok (.iconst 0, 1) := by decide +kernel
theorem dX8_isNotPlannable_61 : decode cX8_isNotPlannable 61 = .ok (.ireturn, 1) := by decide +kernel
theorem dX8_day_0 : decode cX8_day 0 = .ok (.aload_n 0, 1) := by decide +kernel
theorem dX8_day_1 : decode cX8_day 1 = .ok (.getfield 70, 3) := by decide +kernel
theorem dX8_day_4 : decode cX8_day 4 = .ok (.sipush 144, 3) := by decide +kernel
theorem dX8_day_7 : decode cX8_day 7 = .ok (.idiv, 1) := by decide +kernel
theorem dX8_day_8 : decode cX8_day 8 = .ok (.ireturn, 1) := by decide +kernel
theorem dX8_stationFact_0 : decode cX8_stationFact 0 = .ok (.iload_n 2, 1) := by decide +kernel
theorem dX8_stationFact_1 : decode cX8_stationFact 1 = .ok (.iconst 4, 1) := by decide +kernel
theorem dX8_stationFact_2 : decode cX8_stationFact 2 = .ok (.if_icmp .ne 12, 3) := by decide +kernel
theorem dX8_stationFact_5 : decode cX8_stationFact 5 = .ok (.aload_n 0, 1) := by decide +kernel
theorem dX8_stationFact_6 : decode cX8_stationFact 6 = .ok (.getfield 36, 3) := by decide +kernel
theorem dX8_stationFact_9 : decode cX8_stationFact 9 = .ok (.iload_n 1, 1) := by decide +kernel
theorem dX8_stationFact_10 : decode cX8_stationFact 10 = .ok (.invokevirtual 419, 3) := by decide +kernel
theorem dX8_stationFact_13 : decode cX8_stationFact 13 = .ok (.ireturn, 1) := by decide +kernel
theorem dX8_stationFact_14 : decode cX8_stationFact 14 = .ok (.iload_n 2, 1) := by decide +kernel
theorem dX8_stationFact_15 : decode cX8_stationFact 15 = .ok (.iconst 5, 1) := by decide +kernel
theorem dX8_stationFact_16 : decode cX8_stationFact 16 = .ok (.if_icmp .ne 14, 3) := by decide +kernel
theorem dX8_stationFact_19 : decode cX8_stationFact 19 = .ok (.aload_n 0, 1) := by decide +kernel
theorem dX8_stationFact_20 : decode cX8_stationFact 20 = .ok (.getfield 36, 3) := by decide +kernel
theorem dX8_stationFact_23 : decode cX8_stationFact 23 = .ok (.iload_n 1, 1) := by decide +kernel
theorem dX8_stationFact_24 : decode cX8_stationFact 24 = .ok (.invokevirtual 422, 3) := by decide +kernel
theorem dX8_stationFact_27 : decode cX8_stationFact 27 = .ok (.goto 12, 3) := by decide +kernel
theorem dX8_stationFact_30 : decode cX8_stationFact 30 = .ok (.aload_n 0, 1) := by decide +kernel
theorem dX8_stationFact_31 : decode cX8_stationFact 31 = .ok (.getfield 10, 3) := by decide +kernel
theorem dX8_stationFact_34 : decode cX8_stationFact 34 = .ok (.iload_n 1, 1) := by decide +kernel
theorem dX8_stationFact_35 : decode cX8_stationFact 35 = .ok (.iload_n 2, 1) := by decide +kernel
theorem dX8_stationFact_36 : decode cX8_stationFact 36 = .ok (.invokevirtual 290, 3) := by decide +kernel
theorem dX8_stationFact_39 : decode cX8_stationFact 39 = .ok (.ireturn, 1) := by decide +kernel
theorem dX8_lineFact_0 : decode cX8_lineFact 0 = .ok (.iload_n 2, 1) := by decide +kernel
theorem dX8_lineFact_1 : decode cX8_lineFact 1 = .ok (.iconst 5, 1) := by decide +kernel
theorem dX8_lineFact_2 : decode cX8_lineFact 2 = .ok (.if_icmp .ne 14, 3) := by decide +kernel
theorem dX8_lineFact_5 : decode cX8_lineFact 5 = .ok (.aload_n 0, 1) := by decide +kernel
theorem dX8_lineFact_6 : decode cX8_lineFact 6 = .ok (.getfield 36, 3) := by decide +kernel
theorem dX8_lineFact_9 : decode cX8_lineFact 9 = .ok (.iload_n 1, 1) := by decide +kernel
theorem dX8_lineFact_10 : decode cX8_lineFact 10 = .ok (.invokevirtual 425, 3) := by decide +kernel
theorem dX8_lineFact_13 : decode cX8_lineFact 13 = .ok (.goto 12, 3) := by decide +kernel
theorem dX8_lineFact_16 : decode cX8_lineFact 16 = .ok (.aload_n 0, 1) := by decide +kernel
theorem dX8_lineFact_17 : decode cX8_lineFact 17 = .ok (.getfield 10, 3) := by decide +kernel
theorem dX8_lineFact_20 : decode cX8_lineFact 20 = .ok (.iload_n 1, 1) := by decide +kernel
theorem dX8_lineFact_21 : decode cX8_lineFact 21 = .ok (.iload_n 2, 1) := by decide +kernel
theorem dX8_lineFact_22 : decode cX8_lineFact 22 = .ok (.invokevirtual 427, 3) := by decide +kernel
theorem dX8_lineFact_25 : decode cX8_lineFact 25 = .ok (.ireturn, 1) := by decide +kernel
theorem dX8_unitFact_0 : decode cX8_unitFact 0 = .ok (.iload_n 2, 1) := by decide +kernel
theorem dX8_unitFact_1 : decode cX8_unitFact 1 = .ok (.bipush 10, 2) := by decide +kernel
theorem dX8_unitFact_3 : decode cX8_unitFact 3 = .ok (.if_icmp .ge 13, 3) := by decide +kernel
theorem dX8_unitFact_6 : decode cX8_unitFact 6 = .ok (.aload_n 0, 1) := by decide +kernel
theorem dX8_unitFact_7 : decode cX8_unitFact 7 = .ok (.getfield 19, 3) := by decide +kernel
theorem dX8_unitFact_10 : decode cX8_unitFact 10 = .ok (.iload_n 1, 1) := by decide +kernel
theorem dX8_unitFact_11 : decode cX8_unitFact 11 = .ok (.iload_n 2, 1) := by decide +kernel
theorem dX8_unitFact_12 : decode cX8_unitFact 12 = .ok (.invokevirtual 200, 3) := by decide +kernel
theorem dX8_unitFact_15 : decode cX8_unitFact 15 = .ok (.ireturn, 1) := by decide +kernel
theorem dX8_unitFact_16 : decode cX8_unitFact 16 = .ok (.iload_n 2, 1) := by decide +kernel
theorem dX8_unitFact_17 : decode cX8_unitFact 17 = .ok (.bipush 12, 2) := by decide +kernel
theorem dX8_unitFact_19 : decode cX8_unitFact 19 = .ok (.if_icmp .ne 16, 3) := by decide +kernel
theorem dX8_unitFact_22 : decode cX8_unitFact 22 = .ok (.aload_n 0, 1) := by decide +kernel
theorem dX8_unitFact_23 : decode cX8_unitFact 23 = .ok (.getfield 19, 3) := by decide +kernel
theorem dX8_unitFact_26 : decode cX8_unitFact 26 = .ok (.iload_n 1, 1) := by decide +kernel
theorem dX8_unitFact_27 : decode cX8_unitFact 27 = .ok (.aload_n 0, 1) := by decide +kernel
theorem dX8_unitFact_28 : decode cX8_unitFact 28 = .ok (.getfield 70, 3) := by decide +kernel
theorem dX8_unitFact_31 : decode cX8_unitFact 31 = .ok (.invokevirtual 430, 3) := by decide +kernel
theorem dX8_unitFact_34 : decode cX8_unitFact 34 = .ok (.ireturn, 1) := by decide +kernel
theorem dX8_unitFact_35 : decode cX8_unitFact 35 = .ok (.iconst 0, 1) := by decide +kernel
theorem dX8_unitFact_36 : decode cX8_unitFact 36 = .ok (.istore_n 3, 1) := by decide +kernel
theorem dX8_unitFact_37 : decode cX8_unitFact 37 = .ok (.iconst (-1), 1) := by decide +kernel
theorem dX8_unitFact_38 : decode cX8_unitFact 38 = .ok (.istore 4, 2) := by decide +kernel
theorem dX8_unitFact_40 : decode cX8_unitFact 40 = .ok (.iconst 0, 1) := by decide +kernel
theorem dX8_unitFact_41 : decode cX8_unitFact 41 = .ok (.istore 5, 2) := by decide +kernel
theorem dX8_unitFact_43 : decode cX8_unitFact 43 = .ok (.iload 5, 2) := by decide +kernel
theorem dX8_unitFact_45 : decode cX8_unitFact 45 = .ok (.aload_n 0, 1) := by decide +kernel
theorem dX8_unitFact_46 : decode cX8_unitFact 46 = .ok (.getfield 19, 3) := by decide +kernel
theorem dX8_unitFact_49 : decode cX8_unitFact 49 = .ok (.iload_n 1, 1) := by decide +kernel
theorem dX8_unitFact_50 : decode cX8_unitFact 50 = .ok (.iconst 1, 1) := by decide +kernel
theorem dX8_unitFact_51 : decode cX8_unitFact 51 = .ok (.invokevirtual 200, 3) := by decide +kernel
theorem dX8_unitFact_54 : decode cX8_unitFact 54 = .ok (.if_icmp .ge 43, 3) := by decide +kernel
theorem dX8_unitFact_57 : decode cX8_unitFact 57 = .ok (.iload_n 1, 1) := by decide +kernel
theorem dX8_unitFact_58 : decode cX8_unitFact 58 = .ok (.iload 5, 2) := by decide +kernel
theorem dX8_unitFact_60 : decode cX8_unitFact 60 = .ok (.invokestatic 249, 3) := by decide +kernel
theorem dX8_unitFact_63 : decode cX8_unitFact 63 = .ok (.istore 6, 2) := by decide +kernel
theorem dX8_unitFact_65 : decode cX8_unitFact 65 = .ok (.aload_n 0, 1) := by decide +kernel
theorem dX8_unitFact_66 : decode cX8_unitFact 66 = .ok (.getfield 26, 3) := by decide +kernel
theorem dX8_unitFact_69 : decode cX8_unitFact 69 = .ok (.iload 6, 2) := by decide +kernel
theorem dX8_unitFact_71 : decode cX8_unitFact 71 = .ok (.invokevirtual 433, 3) := by decide +kernel
theorem dX8_unitFact_74 : decode cX8_unitFact 74 = .ok (.ifCond .eq 17, 3) := by decide +kernel
theorem dX8_unitFact_77 : decode cX8_unitFact 77 = .ok (.iinc 3 1, 3) := by decide +kernel
theorem dX8_unitFact_80 : decode cX8_unitFact 80 = .ok (.aload_n 0, 1) := by decide +kernel
theorem dX8_unitFact_81 : decode cX8_unitFact 81 = .ok (.getfield 26, 3) := by decide +kernel
theorem dX8_unitFact_84 : decode cX8_unitFact 84 = .ok (.iload 6, 2) := by decide +kernel
theorem dX8_unitFact_86 : decode cX8_unitFact 86 = .ok (.invokevirtual 436, 3) := by decide +kernel
theorem dX8_unitFact_89 : decode cX8_unitFact 89 = .ok (.istore 4, 2) := by decide +kernel
theorem dX8_unitFact_91 : decode cX8_unitFact 91 = .ok (.iinc 5 1, 3) := by decide +kernel
theorem dX8_unitFact_94 : decode cX8_unitFact 94 = .ok (.goto (-51), 3) := by decide +kernel
theorem dX8_unitFact_97 : decode cX8_unitFact 97 = .ok (.iload_n 2, 1) := by decide +kernel
theorem dX8_unitFact_98 : decode cX8_unitFact 98 = .ok (.bipush 10, 2) := by decide +kernel
theorem dX8_unitFact_100 : decode cX8_unitFact 100 = .ok (.if_icmp .ne 8, 3) := by decide +kernel
theorem dX8_unitFact_103 : decode cX8_unitFact 103 = .ok (.iload 4, 2) := by decide +kernel
theorem dX8_unitFact_105 : decode cX8_unitFact 105 = .ok (.goto 4, 3) := by decide +kernel
theorem dX8_unitFact_108 : decode cX8_unitFact 108 = .ok (.iload_n 3, 1) := by decide +kernel
theorem dX8_unitFact_109 : decode cX8_unitFact 109 = .ok (.ireturn, 1) := by decide +kernel
theorem dX8_pathFact_0 : decode cX8_pathFact 0 = .ok (.aload_n 0, 1) := by decide +kernel
theorem dX8_pathFact_1 : decode cX8_pathFact 1 = .ok (.getfield 26, 3) := by decide +kernel
theorem dX8_pathFact_4 : decode cX8_pathFact 4 = .ok (.iload_n 1, 1) := by decide +kernel
theorem dX8_pathFact_5 : decode cX8_pathFact 5 = .ok (.invokevirtual 433, 3) := by decide +kernel
theorem dX8_pathFact_8 : decode cX8_pathFact 8 = .ok (.ifCond .ne 5, 3) := by decide +kernel
theorem dX8_pathFact_11 : decode cX8_pathFact 11 = .ok (.iconst (-1), 1) := by decide +kernel
theorem dX8_pathFact_12 : decode cX8_pathFact 12 = .ok (.ireturn, 1) := by decide +kernel
theorem dX8_pathFact_13 : decode cX8_pathFact 13 = .ok (.iload_n 2, 1) := by decide +kernel
theorem dX8_pathFact_14 : decode cX8_pathFact 14 = .ok (.ifCond .ne 13, 3) := by decide +kernel
theorem dX8_pathFact_17 : decode cX8_pathFact 17 = .ok (.aload_n 0, 1) := by decide +kernel
theorem dX8_pathFact_18 : decode cX8_pathFact 18 = .ok (.getfield 26, 3) := by decide +kernel
theorem dX8_pathFact_21 : decode cX8_pathFact 21 = .ok (.iload_n 1, 1) := by decide +kernel
theorem dX8_pathFact_22 : decode cX8_pathFact 22 = .ok (.iconst 0, 1) := by decide +kernel
theorem dX8_pathFact_23 : decode cX8_pathFact 23 = .ok (.invokevirtual 439, 3) := by decide +kernel
theorem dX8_pathFact_26 : decode cX8_pathFact 26 = .ok (.ireturn, 1) := by decide +kernel
theorem dX8_pathFact_27 : decode cX8_pathFact 27 = .ok (.iload_n 2, 1) := by decide +kernel
theorem dX8_pathFact_28 : decode cX8_pathFact 28 = .ok (.iconst 1, 1) := by decide +kernel
theorem dX8_pathFact_29 : decode cX8_pathFact 29 = .ok (.if_icmp .ne 14, 3) := by decide +kernel
theorem dX8_pathFact_32 : decode cX8_pathFact 32 = .ok (.aload_n 0, 1) := by decide +kernel
theorem dX8_pathFact_33 : decode cX8_pathFact 33 = .ok (.getfield 26, 3) := by decide +kernel
theorem dX8_pathFact_36 : decode cX8_pathFact 36 = .ok (.iload_n 1, 1) := by decide +kernel
theorem dX8_pathFact_37 : decode cX8_pathFact 37 = .ok (.invokevirtual 436, 3) := by decide +kernel
theorem dX8_pathFact_40 : decode cX8_pathFact 40 = .ok (.goto 12, 3) := by decide +kernel
theorem dX8_pathFact_43 : decode cX8_pathFact 43 = .ok (.aload_n 0, 1) := by decide +kernel
theorem dX8_pathFact_44 : decode cX8_pathFact 44 = .ok (.getfield 26, 3) := by decide +kernel
theorem dX8_pathFact_47 : decode cX8_pathFact 47 = .ok (.iload_n 1, 1) := by decide +kernel
theorem dX8_pathFact_48 : decode cX8_pathFact 48 = .ok (.iconst 1, 1) := by decide +kernel
theorem dX8_pathFact_49 : decode cX8_pathFact 49 = .ok (.invokevirtual 439, 3) := by decide +kernel
theorem dX8_pathFact_52 : decode cX8_pathFact 52 = .ok (.ireturn, 1) := by decide +kernel
theorem dX8_trainFact_0 : decode cX8_trainFact 0 = .ok (.iload_n 2, 1) := by decide +kernel
theorem dX8_trainFact_1 : decode cX8_trainFact 1 = .ok (.bipush 7, 2) := by decide +kernel
theorem dX8_trainFact_3 : decode cX8_trainFact 3 = .ok (.if_icmp .ne 18, 3) := by decide +kernel
theorem dX8_trainFact_6 : decode cX8_trainFact 6 = .ok (.aload_n 0, 1) := by decide +kernel
theorem dX8_trainFact_7 : decode cX8_trainFact 7 = .ok (.getfield 36, 3) := by decide +kernel
theorem dX8_trainFact_10 : decode cX8_trainFact 10 = .ok (.iload_n 1, 1) := by decide +kernel
theorem dX8_trainFact_11 : decode cX8_trainFact 11 = .ok (.aload_n 0, 1) := by decide +kernel
theorem dX8_trainFact_12 : decode cX8_trainFact 12 = .ok (.getfield 70, 3) := by decide +kernel
theorem dX8_trainFact_15 : decode cX8_trainFact 15 = .ok (.invokevirtual 285, 3) := by decide +kernel
theorem dX8_trainFact_18 : decode cX8_trainFact 18 = .ok (.goto 12, 3) := by decide +kernel
theorem dX8_trainFact_21 : decode cX8_trainFact 21 = .ok (.aload_n 0, 1) := by decide +kernel
theorem dX8_trainFact_22 : decode cX8_trainFact 22 = .ok (.getfield 36, 3) := by decide +kernel
theorem dX8_trainFact_25 : decode cX8_trainFact 25 = .ok (.iload_n 1, 1) := by decide +kernel
theorem dX8_trainFact_26 : decode cX8_trainFact 26 = .ok (.iload_n 2, 1) := by decide +kernel
theorem dX8_trainFact_27 : decode cX8_trainFact 27 = .ok (.invokevirtual 280, 3) := by decide +kernel
theorem dX8_trainFact_30 : decode cX8_trainFact 30 = .ok (.ireturn, 1) := by decide +kernel
theorem dX8_sectorFact_0 : decode cX8_sectorFact 0 = .ok (.iload_n 2, 1) := by decide +kernel
theorem dX8_sectorFact_1 : decode cX8_sectorFact 1 = .ok (.iconst 2, 1) := by decide +kernel
theorem dX8_sectorFact_2 : decode cX8_sectorFact 2 = .ok (.if_icmp .ne 13, 3) := by decide +kernel
theorem dX8_sectorFact_5 : decode cX8_sectorFact 5 = .ok (.aload_n 0, 1) := by decide +kernel
theorem dX8_sectorFact_6 : decode cX8_sectorFact 6 = .ok (.getfield 19, 3) := by decide +kernel
theorem dX8_sectorFact_9 : decode cX8_sectorFact 9 = .ok (.iload_n 1, 1) := by decide +kernel
theorem dX8_sectorFact_10 : decode cX8_sectorFact 10 = .ok (.iconst 0, 1) := by decide +kernel
theorem dX8_sectorFact_11 : decode cX8_sectorFact 11 = .ok (.invokevirtual 440, 3) := by decide +kernel
theorem dX8_sectorFact_14 : decode cX8_sectorFact 14 = .ok (.ireturn, 1) := by decide +kernel
theorem dX8_sectorFact_15 : decode cX8_sectorFact 15 = .ok (.iload_n 2, 1) := by decide +kernel
theorem dX8_sectorFact_16 : decode cX8_sectorFact 16 = .ok (.iconst 3, 1) := by decide +kernel
theorem dX8_sectorFact_17 : decode cX8_sectorFact 17 = .ok (.if_icmp .ne 12, 3) := by decide +kernel
theorem dX8_sectorFact_20 : decode cX8_sectorFact 20 = .ok (.aload_n 0, 1) := by decide +kernel
theorem dX8_sectorFact_21 : decode cX8_sectorFact 21 = .ok (.getfield 19, 3) := by decide +kernel
theorem dX8_sectorFact_24 : decode cX8_sectorFact 24 = .ok (.iload_n 1, 1) := by decide +kernel
theorem dX8_sectorFact_25 : decode cX8_sectorFact 25 = .ok (.invokevirtual 443, 3) := by decide +kernel
theorem dX8_sectorFact_28 : decode cX8_sectorFact 28 = .ok (.ireturn, 1) := by decide +kernel
theorem dX8_sectorFact_29 : decode cX8_sectorFact 29 = .ok (.iload_n 2, 1) := by decide +kernel
theorem dX8_sectorFact_30 : decode cX8_sectorFact 30 = .ok (.iconst 5, 1) := by decide +kernel
theorem dX8_sectorFact_31 : decode cX8_sectorFact 31 = .ok (.if_icmp .ne 18, 3) := by decide +kernel
theorem dX8_sectorFact_34 : decode cX8_sectorFact 34 = .ok (.aload_n 0, 1) := by decide +kernel
theorem dX8_sectorFact_35 : decode cX8_sectorFact 35 = .ok (.getfield 57, 3) := by decide +kernel
theorem dX8_sectorFact_38 : decode cX8_sectorFact 38 = .ok (.iload_n 1, 1) := by decide +kernel
theorem dX8_sectorFact_39 : decode cX8_sectorFact 39 = .ok (.aload_n 0, 1) := by decide +kernel
theorem dX8_sectorFact_40 : decode cX8_sectorFact 40 = .ok (.invokevirtual 334, 3) := by decide +kernel
theorem dX8_sectorFact_43 : decode cX8_sectorFact 43 = .ok (.invokevirtual 446, 3) := by decide +kernel
theorem dX8_sectorFact_46 : decode cX8_sectorFact 46 = .ok (.goto 12, 3) := by decide +kernel
theorem dX8_sectorFact_49 : decode cX8_sectorFact 49 = .ok (.aload_n 0, 1) := by decide +kernel
theorem dX8_sectorFact_50 : decode cX8_sectorFact 50 = .ok (.getfield 50, 3) := by decide +kernel
theorem dX8_sectorFact_53 : decode cX8_sectorFact 53 = .ok (.iload_n 1, 1) := by decide +kernel
theorem dX8_sectorFact_54 : decode cX8_sectorFact 54 = .ok (.iload_n 2, 1) := by decide +kernel
theorem dX8_sectorFact_55 : decode cX8_sectorFact 55 = .ok (.invokevirtual 192, 3) := by decide +kernel
theorem dX8_sectorFact_58 : decode cX8_sectorFact 58 = .ok (.ireturn, 1) := by decide +kernel
theorem dX8_manyFact_0 : decode cX8_manyFact 0 = .ok (.iload_n 1, 1) := by decide +kernel
theorem dX8_manyFact_1 : decode cX8_manyFact 1 = .ok (.tableswitch 159 0 11 #[63, 68, 73, 81, 89, 97, 105, 113, 121, 129, 139, 151], 63) := by decide +kernel
theorem dX8_manyFact_64 : decode cX8_manyFact 64 = .ok (.aload_n 0, 1) := by decide +kernel
theorem dX8_manyFact_65 : decode cX8_manyFact 65 = .ok (.getfield 70, 3) := by decide +kernel
theorem dX8_manyFact_68 : decode cX8_manyFact 68 = .ok (.ireturn, 1) := by decide +kernel
theorem dX8_manyFact_69 : decode cX8_manyFact 69 = .ok (.aload_n 0, 1) := by decide +kernel
theorem dX8_manyFact_70 : decode cX8_manyFact 70 = .ok (.invokevirtual 334, 3) := by decide +kernel
theorem dX8_manyFact_73 : decode cX8_manyFact 73 = .ok (.ireturn, 1) := by decide +kernel
theorem dX8_manyFact_74 : decode cX8_manyFact 74 = .ok (.aload_n 0, 1) := by decide +kernel
theorem dX8_manyFact_75 : decode cX8_manyFact 75 = .ok (.getfield 10, 3) := by decide +kernel
theorem dX8_manyFact_78 : decode cX8_manyFact 78 = .ok (.invokevirtual 88, 3) := by decide +kernel
theorem dX8_manyFact_81 : decode cX8_manyFact 81 = .ok (.ireturn, 1) := by decide +kernel
theorem dX8_manyFact_82 : decode cX8_manyFact 82 = .ok (.aload_n 0, 1) := by decide +kernel
theorem dX8_manyFact_83 : decode cX8_manyFact 83 = .ok (.getfield 10, 3) := by decide +kernel
theorem dX8_manyFact_86 : decode cX8_manyFact 86 = .ok (.invokevirtual 118, 3) := by decide +kernel
theorem dX8_manyFact_89 : decode cX8_manyFact 89 = .ok (.ireturn, 1) := by decide +kernel
theorem dX8_manyFact_90 : decode cX8_manyFact 90 = .ok (.aload_n 0, 1) := by decide +kernel
theorem dX8_manyFact_91 : decode cX8_manyFact 91 = .ok (.getfield 19, 3) := by decide +kernel
theorem dX8_manyFact_94 : decode cX8_manyFact 94 = .ok (.invokevirtual 171, 3) := by decide +kernel
theorem dX8_manyFact_97 : decode cX8_manyFact 97 = .ok (.ireturn, 1) := by decide +kernel
theorem dX8_manyFact_98 : decode cX8_manyFact 98 = .ok (.aload_n 0, 1) := by decide +kernel
theorem dX8_manyFact_99 : decode cX8_manyFact 99 = .ok (.getfield 36, 3) := by decide +kernel
theorem dX8_manyFact_102 : decode cX8_manyFact 102 = .ok (.invokevirtual 449, 3) := by decide +kernel
theorem dX8_manyFact_105 : decode cX8_manyFact 105 = .ok (.ireturn, 1) := by decide +kernel
theorem dX8_manyFact_106 : decode cX8_manyFact 106 = .ok (.aload_n 0, 1) := by decide +kernel
theorem dX8_manyFact_107 : decode cX8_manyFact 107 = .ok (.getfield 36, 3) := by decide +kernel
theorem dX8_manyFact_110 : decode cX8_manyFact 110 = .ok (.invokevirtual 450, 3) := by decide +kernel
theorem dX8_manyFact_113 : decode cX8_manyFact 113 = .ok (.ireturn, 1) := by decide +kernel
theorem dX8_manyFact_114 : decode cX8_manyFact 114 = .ok (.aload_n 0, 1) := by decide +kernel
theorem dX8_manyFact_115 : decode cX8_manyFact 115 = .ok (.getfield 26, 3) := by decide +kernel
theorem dX8_manyFact_118 : decode cX8_manyFact 118 = .ok (.invokevirtual 453, 3) := by decide +kernel
theorem dX8_manyFact_121 : decode cX8_manyFact 121 = .ok (.ireturn, 1) := by decide +kernel
theorem dX8_manyFact_122 : decode cX8_manyFact 122 = .ok (.aload_n 0, 1) := by decide +kernel
theorem dX8_manyFact_123 : decode cX8_manyFact 123 = .ok (.getfield 43, 3) := by decide +kernel
theorem dX8_manyFact_126 : decode cX8_manyFact 126 = .ok (.invokevirtual 456, 3) := by decide +kernel
theorem dX8_manyFact_129 : decode cX8_manyFact 129 = .ok (.ireturn, 1) := by decide +kernel
theorem dX8_manyFact_130 : decode cX8_manyFact 130 = .ok (.aload_n 0, 1) := by decide +kernel
theorem dX8_manyFact_131 : decode cX8_manyFact 131 = .ok (.getfield 19, 3) := by decide +kernel
theorem dX8_manyFact_134 : decode cX8_manyFact 134 = .ok (.bipush 8, 2) := by decide +kernel
theorem dX8_manyFact_136 : decode cX8_manyFact 136 = .ok (.invokevirtual 457, 3) := by decide +kernel
theorem dX8_manyFact_139 : decode cX8_manyFact 139 = .ok (.ireturn, 1) := by decide +kernel
theorem dX8_manyFact_140 : decode cX8_manyFact 140 = .ok (.aload_n 0, 1) := by decide +kernel
theorem dX8_manyFact_141 : decode cX8_manyFact 141 = .ok (.getfield 36, 3) := by decide +kernel
theorem dX8_manyFact_144 : decode cX8_manyFact 144 = .ok (.aload_n 0, 1) := by decide +kernel
theorem dX8_manyFact_145 : decode cX8_manyFact 145 = .ok (.getfield 70, 3) := by decide +kernel
theorem dX8_manyFact_148 : decode cX8_manyFact 148 = .ok (.invokevirtual 460, 3) := by decide +kernel
theorem dX8_manyFact_151 : decode cX8_manyFact 151 = .ok (.ireturn, 1) := by decide +kernel
theorem dX8_manyFact_152 : decode cX8_manyFact 152 = .ok (.aload_n 0, 1) := by decide +kernel
theorem dX8_manyFact_153 : decode cX8_manyFact 153 = .ok (.getfield 19, 3) := by decide +kernel
theorem dX8_manyFact_156 : decode cX8_manyFact 156 = .ok (.invokevirtual 463, 3) := by decide +kernel
theorem dX8_manyFact_159 : decode cX8_manyFact 159 = .ok (.ireturn, 1) := by decide +kernel
theorem dX8_manyFact_160 : decode cX8_manyFact 160 = .ok (.aload_n 0, 1) := by decide +kernel
theorem dX8_manyFact_161 : decode cX8_manyFact 161 = .ok (.getfield 57, 3) := by decide +kernel
theorem dX8_manyFact_164 : decode cX8_manyFact 164 = .ok (.invokevirtual 466, 3) := by decide +kernel
theorem dX8_manyFact_167 : decode cX8_manyFact 167 = .ok (.ireturn, 1) := by decide +kernel
theorem dX8_weightBy_0 : decode cX8_weightBy 0 = .ok (.iload_n 2, 1) := by decide +kernel
theorem dX8_weightBy_1 : decode cX8_weightBy 1 = .ok (.sipush 144, 3) := by decide +kernel
theorem dX8_weightBy_4 : decode cX8_weightBy 4 = .ok (.imul, 1) := by decide +kernel
theorem dX8_weightBy_5 : decode cX8_weightBy 5 = .ok (.istore_n 3, 1) := by decide +kernel
theorem dX8_weightBy_6 : decode cX8_weightBy 6 = .ok (.aload_n 0, 1) := by decide +kernel
theorem dX8_weightBy_7 : decode cX8_weightBy 7 = .ok (.getfield 50, 3) := by decide +kernel
theorem dX8_weightBy_10 : decode cX8_weightBy 10 = .ok (.iload_n 1, 1) := by decide +kernel
theorem dX8_weightBy_11 : decode cX8_weightBy 11 = .ok (.iconst 1, 1) := by decide +kernel
theorem dX8_weightBy_12 : decode cX8_weightBy 12 = .ok (.invokevirtual 192, 3) := by decide +kernel
theorem dX8_weightBy_15 : decode cX8_weightBy 15 = .ok (.istore 4, 2) := by decide +kernel
theorem dX8_weightBy_17 : decode cX8_weightBy 17 = .ok (.iconst 0, 1) := by decide +kernel
theorem dX8_weightBy_18 : decode cX8_weightBy 18 = .ok (.istore 5, 2) := by decide +kernel
theorem dX8_weightBy_20 : decode cX8_weightBy 20 = .ok (.iconst 0, 1) := by decide +kernel
theorem dX8_weightBy_21 : decode cX8_weightBy 21 = .ok (.istore 6, 2) := by decide +kernel
theorem dX8_weightBy_23 : decode cX8_weightBy 23 = .ok (.iload 6, 2) := by decide +kernel
theorem dX8_weightBy_25 : decode cX8_weightBy 25 = .ok (.aload_n 0, 1) := by decide +kernel
theorem dX8_weightBy_26 : decode cX8_weightBy 26 = .ok (.getfield 19, 3) := by decide +kernel
theorem dX8_weightBy_29 : decode cX8_weightBy 29 = .ok (.invokevirtual 171, 3) := by decide +kernel
theorem dX8_weightBy_32 : decode cX8_weightBy 32 = .ok (.if_icmp .ge 111, 3) := by decide +kernel
theorem dX8_weightBy_35 : decode cX8_weightBy 35 = .ok (.aload_n 0, 1) := by decide +kernel
theorem dX8_weightBy_36 : decode cX8_weightBy 36 = .ok (.getfield 19, 3) := by decide +kernel
theorem dX8_weightBy_39 : decode cX8_weightBy 39 = .ok (.iload 6, 2) := by decide +kernel
theorem dX8_weightBy_41 : decode cX8_weightBy 41 = .ok (.iconst 0, 1) := by decide +kernel
theorem dX8_weightBy_42 : decode cX8_weightBy 42 = .ok (.invokevirtual 200, 3) := by decide +kernel
theorem dX8_weightBy_45 : decode cX8_weightBy 45 = .ok (.invokestatic 467, 3) := by decide +kernel
theorem dX8_weightBy_48 : decode cX8_weightBy 48 = .ok (.istore 7, 2) := by decide +kernel
theorem dX8_weightBy_50 : decode cX8_weightBy 50 = .ok (.iconst 0, 1) := by decide +kernel
theorem dX8_weightBy_51 : decode cX8_weightBy 51 = .ok (.istore 8, 2) := by decide +kernel
theorem dX8_weightBy_53 : decode cX8_weightBy 53 = .ok (.iload 8, 2) := by decide +kernel
theorem dX8_weightBy_55 : decode cX8_weightBy 55 = .ok (.aload_n 0, 1) := by decide +kernel
theorem dX8_weightBy_56 : decode cX8_weightBy 56 = .ok (.getfield 19, 3) := by decide +kernel
theorem dX8_weightBy_59 : decode cX8_weightBy 59 = .ok (.iload 6, 2) := by decide +kernel
theorem dX8_weightBy_61 : decode cX8_weightBy 61 = .ok (.iconst 1, 1) := by decide +kernel
theorem dX8_weightBy_62 : decode cX8_weightBy 62 = .ok (.invokevirtual 200, 3) := by decide +kernel
theorem dX8_weightBy_65 : decode cX8_weightBy 65 = .ok (.if_icmp .ge 72, 3) := by decide +kernel
theorem dX8_weightBy_68 : decode cX8_weightBy 68 = .ok (.iload 6, 2) := by decide +kernel
theorem dX8_weightBy_70 : decode cX8_weightBy 70 = .ok (.iload 8, 2) := by decide +kernel
theorem dX8_weightBy_72 : decode cX8_weightBy 72 = .ok (.invokestatic 249, 3) := by decide +kernel
theorem dX8_weightBy_75 : decode cX8_weightBy 75 = .ok (.istore 9, 2) := by decide +kernel
theorem dX8_weightBy_77 : decode cX8_weightBy 77 = .ok (.aload_n 0, 1) := by decide +kernel
theorem dX8_weightBy_78 : decode cX8_weightBy 78 = .ok (.getfield 19, 3) := by decide +kernel
theorem dX8_weightBy_81 : decode cX8_weightBy 81 = .ok (.iload 9, 2) := by decide +kernel
theorem dX8_weightBy_83 : decode cX8_weightBy 83 = .ok (.iload_n 1, 1) := by decide +kernel
theorem dX8_weightBy_84 : decode cX8_weightBy 84 = .ok (.iload_n 3, 1) := by decide +kernel
theorem dX8_weightBy_85 : decode cX8_weightBy 85 = .ok (.invokevirtual 470, 3) := by decide +kernel
theorem dX8_weightBy_88 : decode cX8_weightBy 88 = .ok (.ifCond .ne 20, 3) := by decide +kernel
theorem dX8_weightBy_91 : decode cX8_weightBy 91 = .ok (.aload_n 0, 1) := by decide +kernel
theorem dX8_weightBy_92 : decode cX8_weightBy 92 = .ok (.getfield 26, 3) := by decide +kernel
theorem dX8_weightBy_95 : decode cX8_weightBy 95 = .ok (.iload 9, 2) := by decide +kernel
theorem dX8_weightBy_97 : decode cX8_weightBy 97 = .ok (.iload_n 1, 1) := by decide +kernel
theorem dX8_weightBy_98 : decode cX8_weightBy 98 = .ok (.iload_n 3, 1) := by decide +kernel
theorem dX8_weightBy_99 : decode cX8_weightBy 99 = .ok (.iload 4, 2) := by decide +kernel
theorem dX8_weightBy_101 : decode cX8_weightBy 101 = .ok (.isub, 1) := by decide +kernel
theorem dX8_weightBy_102 : decode cX8_weightBy 102 = .ok (.invokevirtual 474, 3) := by decide +kernel
theorem dX8_weightBy_105 : decode cX8_weightBy 105 = .ok (.ifCond .eq 7, 3) := by decide +kernel
theorem dX8_weightBy_108 : decode cX8_weightBy 108 = .ok (.iconst 1, 1) := by decide +kernel
theorem dX8_weightBy_109 : decode cX8_weightBy 109 = .ok (.goto 4, 3) := by decide +kernel
theorem dX8_weightBy_112 : decode cX8_weightBy 112 = .ok (.iconst 0, 1) := by decide +kernel
theorem dX8_weightBy_113 : decode cX8_weightBy 113 = .ok (.istore 10, 2) := by decide +kernel
theorem dX8_weightBy_115 : decode cX8_weightBy 115 = .ok (.iload 5, 2) := by decide +kernel
theorem dX8_weightBy_117 : decode cX8_weightBy 117 = .ok (.iload 10, 2) := by decide +kernel
theorem dX8_weightBy_119 : decode cX8_weightBy 119 = .ok (.ifCond .eq 8, 3) := by decide +kernel
theorem dX8_weightBy_122 : decode cX8_weightBy 122 = .ok (.iload 7, 2) := by decide +kernel
theorem dX8_weightBy_124 : decode cX8_weightBy 124 = .ok (.goto 4, 3) := by decide +kernel
theorem dX8_weightBy_127 : decode cX8_weightBy 127 = .ok (.iconst 0, 1) := by decide +kernel
theorem dX8_weightBy_128 : decode cX8_weightBy 128 = .ok (.iadd, 1) := by decide +kernel
theorem dX8_weightBy_129 : decode cX8_weightBy 129 = .ok (.istore 5, 2) := by decide +kernel
theorem dX8_weightBy_131 : decode cX8_weightBy 131 = .ok (.iinc 8 1, 3) := by decide +kernel
theorem dX8_weightBy_134 : decode cX8_weightBy 134 = .ok (.goto (-81), 3) := by decide +kernel
theorem dX8_weightBy_137 : decode cX8_weightBy 137 = .ok (.iinc 6 1, 3) := by decide +kernel
theorem dX8_weightBy_140 : decode cX8_weightBy 140 = .ok (.goto (-117), 3) := by decide +kernel
theorem dX8_weightBy_143 : decode cX8_weightBy 143 = .ok (.iload 5, 2) := by decide +kernel
theorem dX8_weightBy_145 : decode cX8_weightBy 145 = .ok (.ireturn, 1) := by decide +kernel
theorem dX8_wireTicks_0 : decode cX8_wireTicks 0 = .ok (.aload_n 0, 1) := by decide +kernel
theorem dX8_wireTicks_1 : decode cX8_wireTicks 1 = .ok (.getfield 10, 3) := by decide +kernel
theorem dX8_wireTicks_4 : decode cX8_wireTicks 4 = .ok (.iconst 0, 1) := by decide +kernel
theorem dX8_wireTicks_5 : decode cX8_wireTicks 5 = .ok (.aload_n 0, 1) := by decide +kernel
theorem dX8_wireTicks_6 : decode cX8_wireTicks 6 = .ok (.getfield 19, 3) := by decide +kernel
theorem dX8_wireTicks_9 : decode cX8_wireTicks 9 = .ok (.iload_n 1, 1) := by decide +kernel
theorem dX8_wireTicks_10 : decode cX8_wireTicks 10 = .ok (.iconst 2, 1) := by decide +kernel
theorem dX8_wireTicks_11 : decode cX8_wireTicks 11 = .ok (.invokevirtual 200, 3) := by decide +kernel
theorem dX8_wireTicks_14 : decode cX8_wireTicks 14 = .ok (.invokevirtual 149, 3) := by decide +kernel
theorem dX8_wireTicks_17 : decode cX8_wireTicks 17 = .ok (.istore_n 2, 1) := by decide +kernel
theorem dX8_wireTicks_18 : decode cX8_wireTicks 18 = .ok (.iload_n 2, 1) := by decide +kernel
theorem dX8_wireTicks_19 : decode cX8_wireTicks 19 = .ok (.iconst (-1), 1) := by decide +kernel
theorem dX8_wireTicks_20 : decode cX8_wireTicks 20 = .ok (.if_icmp .ne 6, 3) := by decide +kernel
theorem dX8_wireTicks_23 : decode cX8_wireTicks 23 = .ok (.bipush 30, 2) := by decide +kernel
theorem dX8_wireTicks_25 : decode cX8_wireTicks 25 = .ok (.ireturn, 1) := by decide +kernel
theorem dX8_wireTicks_26 : decode cX8_wireTicks 26 = .ok (.iload_n 2, 1) := by decide +kernel
theorem dX8_wireTicks_27 : decode cX8_wireTicks 27 = .ok (.ifCond .ne 7, 3) := by decide +kernel
theorem dX8_wireTicks_30 : decode cX8_wireTicks 30 = .ok (.iconst 1, 1) := by decide +kernel
theorem dX8_wireTicks_31 : decode cX8_wireTicks 31 = .ok (.goto 6, 3) := by decide +kernel
theorem dX8_wireTicks_34 : decode cX8_wireTicks 34 = .ok (.iconst 3, 1) := by decide +kernel
theorem dX8_wireTicks_35 : decode cX8_wireTicks 35 = .ok (.iload_n 2, 1) := by decide +kernel
theorem dX8_wireTicks_36 : decode cX8_wireTicks 36 = .ok (.imul, 1) := by decide +kernel
theorem dX8_wireTicks_37 : decode cX8_wireTicks 37 = .ok (.ireturn, 1) := by decide +kernel
theorem dX8_bringStops_0 : decode cX8_bringStops 0 = .ok (.iconst 0, 1) := by decide +kernel
theorem dX8_bringStops_1 : decode cX8_bringStops 1 = .ok (.istore_n 1, 1) := by decide +kernel
theorem dX8_bringStops_2 : decode cX8_bringStops 2 = .ok (.iload_n 1, 1) := by decide +kernel
theorem dX8_bringStops_3 : decode cX8_bringStops 3 = .ok (.aload_n 0, 1) := by decide +kernel
theorem dX8_bringStops_4 : decode cX8_bringStops 4 = .ok (.getfield 19, 3) := by decide +kernel
theorem dX8_bringStops_7 : decode cX8_bringStops 7 = .ok (.invokevirtual 171, 3) := by decide +kernel
theorem dX8_bringStops_10 : decode cX8_bringStops 10 = .ok (.if_icmp .ge 34, 3) := by decide +kernel
theorem dX8_bringStops_13 : decode cX8_bringStops 13 = .ok (.aload_n 0, 1) := by decide +kernel
theorem dX8_bringStops_14 : decode cX8_bringStops 14 = .ok (.getfield 19, 3) := by decide +kernel
theorem dX8_bringStops_17 : decode cX8_bringStops 17 = .ok (.iload_n 1, 1) := by decide +kernel
theorem dX8_bringStops_18 : decode cX8_bringStops 18 = .ok (.aload_n 0, 1) := by decide +kernel
theorem dX8_bringStops_19 : decode cX8_bringStops 19 = .ok (.getfield 70, 3) := by decide +kernel
theorem dX8_bringStops_22 : decode cX8_bringStops 22 = .ok (.invokevirtual 477, 3) := by decide +kernel
theorem dX8_bringStops_25 : decode cX8_bringStops 25 = .ok (.ifCond .eq 13, 3) := by decide +kernel
theorem dX8_bringStops_28 : decode cX8_bringStops 28 = .ok (.aload_n 0, 1) := by decide +kernel
theorem dX8_bringStops_29 : decode cX8_bringStops 29 = .ok (.aload_n 0, 1) := by decide +kernel
theorem dX8_bringStops_30 : decode cX8_bringStops 30 = .ok (.getfield 26, 3) := by decide +kernel
theorem dX8_bringStops_33 : decode cX8_bringStops 33 = .ok (.iload_n 1, 1) := by decide +kernel
theorem dX8_bringStops_34 : decode cX8_bringStops 34 = .ok (.invokevirtual 243, 3) := by decide +kernel
theorem dX8_bringStops_37 : decode cX8_bringStops 37 = .ok (.pop, 1) := by decide +kernel
theorem dX8_bringStops_38 : decode cX8_bringStops 38 = .ok (.iinc 1 1, 3) := by decide +kernel
theorem dX8_bringStops_41 : decode cX8_bringStops 41 = .ok (.goto (-39), 3) := by decide +kernel
theorem dX8_bringStops_44 : decode cX8_bringStops 44 = .ok (.return_, 1) := by decide +kernel
theorem dX8_countWaitingPaths_0 : decode cX8_countWaitingPaths 0 = .ok (.iconst 0, 1) := by decide +kernel
theorem dX8_countWaitingPaths_1 : decode cX8_countWaitingPaths 1 = .ok (.istore_n 2, 1) := by decide +kernel
theorem dX8_countWaitingPaths_2 : decode cX8_countWaitingPaths 2 = .ok (.aload_n 0, 1) := by decide +kernel
theorem dX8_countWaitingPaths_3 : decode cX8_countWaitingPaths 3 = .ok (.getfield 19, 3) := by decide +kernel
theorem dX8_countWaitingPaths_6 : decode cX8_countWaitingPaths 6 = .ok (.iload_n 1, 1) := by decide +kernel
theorem dX8_countWaitingPaths_7 : decode cX8_countWaitingPaths 7 = .ok (.bipush 7, 2) := by decide +kernel
theorem dX8_countWaitingPaths_9 : decode cX8_countWaitingPaths 9 = .ok (.invokevirtual 200, 3) := by decide +kernel
theorem dX8_countWaitingPaths_12 : decode cX8_countWaitingPaths 12 = .ok (.istore_n 3, 1) := by decide +kernel
theorem dX8_countWaitingPaths_13 : decode cX8_countWaitingPaths 13 = .ok (.iload_n 3, 1) := by decide +kernel
theorem dX8_countWaitingPaths_14 : decode cX8_countWaitingPaths 14 = .ok (.aload_n 0, 1) := by decide +kernel
theorem dX8_countWaitingPaths_15 : decode cX8_countWaitingPaths 15 = .ok (.getfield 19, 3) := by decide +kernel
theorem dX8_countWaitingPaths_18 : decode cX8_countWaitingPaths 18 = .ok (.iload_n 1, 1) := by decide +kernel
theorem dX8_countWaitingPaths_19 : decode cX8_countWaitingPaths 19 = .ok (.iconst 1, 1) := by decide +kernel
theorem dX8_countWaitingPaths_20 : decode cX8_countWaitingPaths 20 = .ok (.invokevirtual 200, 3) := by decide +kernel
theorem dX8_countWaitingPaths_23 : decode cX8_countWaitingPaths 23 = .ok (.if_icmp .ge 32, 3) := by decide +kernel
theorem dX8_countWaitingPaths_26 : decode cX8_countWaitingPaths 26 = .ok (.iload_n 2, 1) := by decide +kernel
theorem dX8_countWaitingPaths_27 : decode cX8_countWaitingPaths 27 = .ok (.aload_n 0, 1) := by decide +kernel
theorem dX8_countWaitingPaths_28 : decode cX8_countWaitingPaths 28 = .ok (.getfield 26, 3) := by decide +kernel
theorem dX8_countWaitingPaths_31 : decode cX8_countWaitingPaths 31 = .ok (.iload_n 1, 1) := by decide +kernel
theorem dX8_countWaitingPaths_32 : decode cX8_countWaitingPaths 32 = .ok (.iload_n 3, 1) := by decide +kernel
theorem dX8_countWaitingPaths_33 : decode cX8_countWaitingPaths 33 = .ok (.invokestatic 249, 3) := by decide +kernel
theorem dX8_countWaitingPaths_36 : decode cX8_countWaitingPaths 36 = .ok (.invokevirtual 433, 3) := by decide +kernel
theorem dX8_countWaitingPaths_39 : decode cX8_countWaitingPaths 39 = .ok (.ifCond .eq 7, 3) := by decide +kernel
theorem dX8_countWaitingPaths_42 : decode cX8_countWaitingPaths 42 = .ok (.iconst 1, 1) := by decide +kernel
theorem dX8_countWaitingPaths_43 : decode cX8_countWaitingPaths 43 = .ok (.goto 4, 3) := by decide +kernel
theorem dX8_countWaitingPaths_46 : decode cX8_countWaitingPaths 46 = .ok (.iconst 0, 1) := by decide +kernel
theorem dX8_countWaitingPaths_47 : decode cX8_countWaitingPaths 47 = .ok (.iadd, 1) := by decide +kernel
theorem dX8_countWaitingPaths_48 : decode cX8_countWaitingPaths 48 = .ok (.istore_n 2, 1) := by decide +kernel
theorem dX8_countWaitingPaths_49 : decode cX8_countWaitingPaths 49 = .ok (.iinc 3 1, 3) := by decide +kernel
theorem dX8_countWaitingPaths_52 : decode cX8_countWaitingPaths 52 = .ok (.goto (-39), 3) := by decide +kernel
theorem dX8_countWaitingPaths_55 : decode cX8_countWaitingPaths 55 = .ok (.iload_n 2, 1) := by decide +kernel
theorem dX8_countWaitingPaths_56 : decode cX8_countWaitingPaths 56 = .ok (.ireturn, 1) := by decide +kernel
theorem dX8_dropWaiting_0 : decode cX8_dropWaiting 0 = .ok (.iconst 0, 1) := by decide +kernel
theorem dX8_dropWaiting_1 : decode cX8_dropWaiting 1 = .ok (.istore_n 3, 1) := by decide +kernel
theorem dX8_dropWaiting_2 : decode cX8_dropWaiting 2 = .ok (.aload_n 0, 1) := by decide +kernel
theorem dX8_dropWaiting_3 : decode cX8_dropWaiting 3 = .ok (.getfield 19, 3) := by decide +kernel
theorem dX8_dropWaiting_6 : decode cX8_dropWaiting 6 = .ok (.iload_n 2, 1) := by decide +kernel
theorem dX8_dropWaiting_7 : decode cX8_dropWaiting 7 = .ok (.bipush 7, 2) := by decide +kernel
theorem dX8_dropWaiting_9 : decode cX8_dropWaiting 9 = .ok (.invokevirtual 200, 3) := by decide +kernel
theorem dX8_dropWaiting_12 : decode cX8_dropWaiting 12 = .ok (.istore 4, 2) := by decide +kernel
theorem dX8_dropWaiting_14 : decode cX8_dropWaiting 14 = .ok (.iload 4, 2) := by decide +kernel
theorem dX8_dropWaiting_16 : decode cX8_dropWaiting 16 = .ok (.aload_n 0, 1) := by decide +kernel
theorem dX8_dropWaiting_17 : decode cX8_dropWaiting 17 = .ok (.getfield 19, 3) := by decide +kernel
theorem dX8_dropWaiting_20 : decode cX8_dropWaiting 20 = .ok (.iload_n 2, 1) := by decide +kernel
theorem dX8_dropWaiting_21 : decode cX8_dropWaiting 21 = .ok (.iconst 1, 1) := by decide +kernel
theorem dX8_dropWaiting_22 : decode cX8_dropWaiting 22 = .ok (.invokevirtual 200, 3) := by decide +kernel
theorem dX8_dropWaiting_25 : decode cX8_dropWaiting 25 = .ok (.if_icmp .ge 30, 3) := by decide +kernel
theorem dX8_dropWaiting_28 : decode cX8_dropWaiting 28 = .ok (.iload_n 3, 1) := by decide +kernel
theorem dX8_dropWaiting_29 : decode cX8_dropWaiting 29 = .ok (.aload_n 1, 1) := by decide +kernel
theorem dX8_dropWaiting_30 : decode cX8_dropWaiting 30 = .ok (.iload_n 2, 1) := by decide +kernel
theorem dX8_dropWaiting_31 : decode cX8_dropWaiting 31 = .ok (.iload 4, 2) := by decide +kernel
theorem dX8_dropWaiting_33 : decode cX8_dropWaiting 33 = .ok (.invokestatic 249, 3) := by decide +kernel
theorem dX8_dropWaiting_36 : decode cX8_dropWaiting 36 = .ok (.invokevirtual 480, 3) := by decide +kernel
theorem dX8_dropWaiting_39 : decode cX8_dropWaiting 39 = .ok (.ifCond .eq 7, 3) := by decide +kernel
theorem dX8_dropWaiting_42 : decode cX8_dropWaiting 42 = .ok (.iconst 1, 1) := by decide +kernel
theorem dX8_dropWaiting_43 : decode cX8_dropWaiting 43 = .ok (.goto 4, 3) := by decide +kernel
theorem dX8_dropWaiting_46 : decode cX8_dropWaiting 46 = .ok (.iconst 0, 1) := by decide +kernel
theorem dX8_dropWaiting_47 : decode cX8_dropWaiting 47 = .ok (.iadd, 1) := by decide +kernel
theorem dX8_dropWaiting_48 : decode cX8_dropWaiting 48 = .ok (.istore_n 3, 1) := by decide +kernel
theorem dX8_dropWaiting_49 : decode cX8_dropWaiting 49 = .ok (.iinc 4 1, 3) := by decide +kernel
theorem dX8_dropWaiting_52 : decode cX8_dropWaiting 52 = .ok (.goto (-38), 3) := by decide +kernel
theorem dX8_dropWaiting_55 : decode cX8_dropWaiting 55 = .ok (.iload_n 3, 1) := by decide +kernel
theorem dX8_dropWaiting_56 : decode cX8_dropWaiting 56 = .ok (.ireturn, 1) := by decide +kernel
theorem dX8_planUnit_0 : decode cX8_planUnit 0 = .ok (.aload_n 0, 1) := by decide +kernel
theorem dX8_planUnit_1 : decode cX8_planUnit 1 = .ok (.getfield 19, 3) := by decide +kernel
theorem dX8_planUnit_4 : decode cX8_planUnit 4 = .ok (.iload_n 1, 1) := by decide +kernel
theorem dX8_planUnit_5 : decode cX8_planUnit 5 = .ok (.iconst 2, 1) := by decide +kernel
theorem dX8_planUnit_6 : decode cX8_planUnit 6 = .ok (.invokevirtual 200, 3) := by decide +kernel
theorem dX8_planUnit_9 : decode cX8_planUnit 9 = .ok (.istore 4, 2) := by decide +kernel
theorem dX8_planUnit_11 : decode cX8_planUnit 11 = .ok (.aload_n 0, 1) := by decide +kernel
theorem dX8_planUnit_12 : decode cX8_planUnit 12 = .ok (.getfield 50, 3) := by decide +kernel
theorem dX8_planUnit_15 : decode cX8_planUnit 15 = .ok (.iload_n 2, 1) := by decide +kernel
theorem dX8_planUnit_16 : decode cX8_planUnit 16 = .ok (.iconst 0, 1) := by decide +kernel
theorem dX8_planUnit_17 : decode cX8_planUnit 17 = .ok (.invokevirtual 192, 3) := by decide +kernel
theorem dX8_planUnit_20 : decode cX8_planUnit 20 = .ok (.istore 5, 2) := by decide +kernel
theorem dX8_planUnit_22 : decode cX8_planUnit 22 = .ok (.aload_n 0, 1) := by decide +kernel
theorem dX8_planUnit_23 : decode cX8_planUnit 23 = .ok (.getfield 19, 3) := by decide +kernel
theorem dX8_planUnit_26 : decode cX8_planUnit 26 = .ok (.iload_n 1, 1) := by decide +kernel
theorem dX8_planUnit_27 : decode cX8_planUnit 27 = .ok (.iconst 0, 1) := by decide +kernel
theorem dX8_planUnit_28 : decode cX8_planUnit 28 = .ok (.invokevirtual 200, 3) := by decide +kernel
theorem dX8_planUnit_31 : decode cX8_planUnit 31 = .ok (.invokestatic 483, 3) := by decide +kernel
theorem dX8_planUnit_34 : decode cX8_planUnit 34 = .ok (.istore 6, 2) := by decide +kernel
theorem dX8_planUnit_36 : decode cX8_planUnit 36 = .ok (.iload_n 3, 1) := by decide +kernel
theorem dX8_planUnit_37 : decode cX8_planUnit 37 = .ok (.iconst 1, 1) := by decide +kernel
theorem dX8_planUnit_38 : decode cX8_planUnit 38 = .ok (.isub, 1) := by decide +kernel
theorem dX8_planUnit_39 : decode cX8_planUnit 39 = .ok (.istore 7, 2) := by decide +kernel
theorem dX8_planUnit_41 : decode cX8_planUnit 41 = .ok (.aload_n 0, 1) := by decide +kernel
theorem dX8_planUnit_42 : decode cX8_planUnit 42 = .ok (.getfield 19, 3) := by decide +kernel
theorem dX8_planUnit_45 : decode cX8_planUnit 45 = .ok (.iload_n 1, 1) := by decide +kernel
theorem dX8_planUnit_46 : decode cX8_planUnit 46 = .ok (.bipush 7, 2) := by decide +kernel
theorem dX8_planUnit_48 : decode cX8_planUnit 48 = .ok (.invokevirtual 200, 3) := by decide +kernel
theorem dX8_planUnit_51 : decode cX8_planUnit 51 = .ok (.istore 8, 2) := by decide +kernel
theorem dX8_planUnit_53 : decode cX8_planUnit 53 = .ok (.iload 8, 2) := by decide +kernel
theorem dX8_planUnit_55 : decode cX8_planUnit 55 = .ok (.aload_n 0, 1) := by decide +kernel
theorem dX8_planUnit_56 : decode cX8_planUnit 56 = .ok (.getfield 19, 3) := by decide +kernel
theorem dX8_planUnit_59 : decode cX8_planUnit 59 = .ok (.iload_n 1, 1) := by decide +kernel
theorem dX8_planUnit_60 : decode cX8_planUnit 60 = .ok (.iconst 1, 1) := by decide +kernel
theorem dX8_planUnit_61 : decode cX8_planUnit 61 = .ok (.invokevirtual 200, 3) := by decide +kernel
theorem dX8_planUnit_64 : decode cX8_planUnit 64 = .ok (.if_icmp .ge 86, 3) := by decide +kernel
theorem dX8_planUnit_67 : decode cX8_planUnit 67 = .ok (.iload_n 1, 1) := by decide +kernel
theorem dX8_planUnit_68 : decode cX8_planUnit 68 = .ok (.iload 8, 2) := by decide +kernel
theorem dX8_planUnit_70 : decode cX8_planUnit 70 = .ok (.invokestatic 249, 3) := by decide +kernel
theorem dX8_planUnit_73 : decode cX8_planUnit 73 = .ok (.istore 9, 2) := by decide +kernel
theorem dX8_planUnit_75 : decode cX8_planUnit 75 = .ok (.aload_n 0, 1) := by decide +kernel
theorem dX8_planUnit_76 : decode cX8_planUnit 76 = .ok (.getfield 30, 3) := by decide +kernel
theorem dX8_planUnit_79 : decode cX8_planUnit 79 = .ok (.iload 9, 2) := by decide +kernel
theorem dX8_planUnit_81 : decode cX8_planUnit 81 = .ok (.iload_n 2, 1) := by decide +kernel
theorem dX8_planUnit_82 : decode cX8_planUnit 82 = .ok (.iload 5, 2) := by decide +kernel
theorem dX8_planUnit_84 : decode cX8_planUnit 84 = .ok (.iload 6, 2) := by decide +kernel
theorem dX8_planUnit_86 : decode cX8_planUnit 86 = .ok (.invokevirtual 315, 3) := by decide +kernel
theorem dX8_planUnit_89 : decode cX8_planUnit 89 = .ok (.aload_n 0, 1) := by decide +kernel
theorem dX8_planUnit_90 : decode cX8_planUnit 90 = .ok (.getfield 30, 3) := by decide +kernel
theorem dX8_planUnit_93 : decode cX8_planUnit 93 = .ok (.iload 9, 2) := by decide +kernel
theorem dX8_planUnit_95 : decode cX8_planUnit 95 = .ok (.iload 4, 2) := by decide +kernel
theorem dX8_planUnit_97 : decode cX8_planUnit 97 = .ok (.aload_n 0, 1) := by decide +kernel
theorem dX8_planUnit_98 : decode cX8_planUnit 98 = .ok (.getfield 10, 3) := by decide +kernel
theorem dX8_planUnit_101 : decode cX8_planUnit 101 = .ok (.invokevirtual 319, 3) := by decide +kernel
theorem dX8_planUnit_104 : decode cX8_planUnit 104 = .ok (.istore 10, 2) := by decide +kernel
theorem dX8_planUnit_106 : decode cX8_planUnit 106 = .ok (.iload 10, 2) := by decide +kernel
theorem dX8_planUnit_108 : decode cX8_planUnit 108 = .ok (.ifCond .eq 24, 3) := by decide +kernel
theorem dX8_planUnit_111 : decode cX8_planUnit 111 = .ok (.aload_n 0, 1) := by decide +kernel
theorem dX8_planUnit_112 : decode cX8_planUnit 112 = .ok (.getfield 30, 3) := by decide +kernel
theorem dX8_planUnit_115 : decode cX8_planUnit 115 = .ok (.iload 9, 2) := by decide +kernel
theorem dX8_planUnit_117 : decode cX8_planUnit 117 = .ok (.iload 7, 2) := by decide +kernel
theorem dX8_planUnit_119 : decode cX8_planUnit 119 = .ok (.iconst 1, 1) := by decide +kernel
theorem dX8_planUnit_120 : decode cX8_planUnit 120 = .ok (.iadd, 1) := by decide +kernel
theorem dX8_planUnit_121 : decode cX8_planUnit 121 = .ok (.iload_n 3, 1) := by decide +kernel
theorem dX8_planUnit_122 : decode cX8_planUnit 122 = .ok (.sipush 288, 3) := by decide +kernel
theorem dX8_planUnit_125 : decode cX8_planUnit 125 = .ok (.iadd, 1) := by decide +kernel
theorem dX8_planUnit_126 : decode cX8_planUnit 126 = .ok (.invokevirtual 323, 3) := by decide +kernel
theorem dX8_planUnit_129 : decode cX8_planUnit 129 = .ok (.goto 5, 3) := by decide +kernel
theorem dX8_planUnit_132 : decode cX8_planUnit 132 = .ok (.bipush (-2), 2) := by decide +kernel
theorem dX8_planUnit_134 : decode cX8_planUnit 134 = .ok (.istore 7, 2) := by decide +kernel
theorem dX8_planUnit_136 : decode cX8_planUnit 136 = .ok (.iload 7, 2) := by decide +kernel
theorem dX8_planUnit_138 : decode cX8_planUnit 138 = .ok (.ifCond .ge 6, 3) := by decide +kernel
theorem dX8_planUnit_141 : decode cX8_planUnit 141 = .ok (.iload 7, 2) := by decide +kernel
theorem dX8_planUnit_143 : decode cX8_planUnit 143 = .ok (.ireturn, 1) := by decide +kernel
theorem dX8_planUnit_144 : decode cX8_planUnit 144 = .ok (.iinc 8 1, 3) := by decide +kernel
theorem dX8_planUnit_147 : decode cX8_planUnit 147 = .ok (.goto (-94), 3) := by decide +kernel
theorem dX8_planUnit_150 : decode cX8_planUnit 150 = .ok (.iload 7, 2) := by decide +kernel
theorem dX8_planUnit_152 : decode cX8_planUnit 152 = .ok (.ireturn, 1) := by decide +kernel
theorem dX8_isToChange_0 : decode cX8_isToChange 0 = .ok (.aload_n 0, 1) := by decide +kernel
theorem dX8_isToChange_1 : decode cX8_isToChange 1 = .ok (.getfield 19, 3) := by decide +kernel
theorem dX8_isToChange_4 : decode cX8_isToChange 4 = .ok (.iload_n 2, 1) := by decide +kernel
theorem dX8_isToChange_5 : decode cX8_isToChange 5 = .ok (.iconst 4, 1) := by decide +kernel
theorem dX8_isToChange_6 : decode cX8_isToChange 6 = .ok (.invokevirtual 200, 3) := by decide +kernel
theorem dX8_isToChange_9 : decode cX8_isToChange 9 = .ok (.iconst 3, 1) := by decide +kernel
theorem dX8_isToChange_10 : decode cX8_isToChange 10 = .ok (.if_icmp .eq 50, 3) := by decide +kernel
theorem dX8_isToChange_13 : decode cX8_isToChange 13 = .ok (.aload_n 0, 1) := by decide +kernel
theorem dX8_isToChange_14 : decode cX8_isToChange 14 = .ok (.getfield 19, 3) := by decide +kernel
theorem dX8_isToChange_17 : decode cX8_isToChange 17 = .ok (.iload_n 2, 1) := by decide +kernel
theorem dX8_isToChange_18 : decode cX8_isToChange 18 = .ok (.bipush 7, 2) := by decide +kernel
theorem dX8_isToChange_20 : decode cX8_isToChange 20 = .ok (.invokevirtual 200, 3) := by decide +kernel
theorem dX8_isToChange_23 : decode cX8_isToChange 23 = .ok (.aload_n 0, 1) := by decide +kernel
theorem dX8_isToChange_24 : decode cX8_isToChange 24 = .ok (.getfield 19, 3) := by decide +kernel
theorem dX8_isToChange_27 : decode cX8_isToChange 27 = .ok (.iload_n 2, 1) := by decide +kernel
theorem dX8_isToChange_28 : decode cX8_isToChange 28 = .ok (.iconst 1, 1) := by decide +kernel
theorem dX8_isToChange_29 : decode cX8_isToChange 29 = .ok (.invokevirtual 200, 3) := by decide +kernel
theorem dX8_isToChange_32 : decode cX8_isToChange 32 = .ok (.if_icmp .ge 28, 3) := by decide +kernel
theorem dX8_isToChange_35 : decode cX8_isToChange 35 = .ok (.aload_n 0, 1) := by decide +kernel
theorem dX8_isToChange_36 : decode cX8_isToChange 36 = .ok (.getfield 19, 3) := by decide +kernel
theorem dX8_isToChange_39 : decode cX8_isToChange 39 = .ok (.iload_n 2, 1) := by decide +kernel
theorem dX8_isToChange_40 : decode cX8_isToChange 40 = .ok (.iconst 3, 1) := by decide +kernel
theorem dX8_isToChange_41 : decode cX8_isToChange 41 = .ok (.invokevirtual 200, 3) := by decide +kernel
theorem dX8_isToChange_44 : decode cX8_isToChange 44 = .ok (.aload_n 0, 1) := by decide +kernel
theorem dX8_isToChange_45 : decode cX8_isToChange 45 = .ok (.getfield 66, 3) := by decide +kernel
theorem dX8_isToChange_48 : decode cX8_isToChange 48 = .ok (.iload_n 1, 1) := by decide +kernel
theorem dX8_isToChange_49 : decode cX8_isToChange 49 = .ok (.iload_n 2, 1) := by decide +kernel
theorem dX8_isToChange_50 : decode cX8_isToChange 50 = .ok (.invokevirtual 260, 3) := by decide +kernel
theorem dX8_isToChange_53 : decode cX8_isToChange 53 = .ok (.if_icmp .eq 7, 3) := by decide +kernel
theorem dX8_isToChange_56 : decode cX8_isToChange 56 = .ok (.iconst 1, 1) := by decide +kernel
theorem dX8_isToChange_57 : decode cX8_isToChange 57 = .ok (.goto 4, 3) := by decide +kernel
theorem dX8_isToChange_60 : decode cX8_isToChange 60 = .ok (.iconst 0, 1) := by decide +kernel
theorem dX8_isToChange_61 : decode cX8_isToChange 61 = .ok (.ireturn, 1) := by decide +kernel
theorem dX8_tryChange_0 : decode cX8_tryChange 0 = .ok (.aload_n 0, 1) := by decide +kernel
theorem dX8_tryChange_1 : decode cX8_tryChange 1 = .ok (.getfield 30, 3) := by decide +kernel
theorem dX8_tryChange_4 : decode cX8_tryChange 4 = .ok (.aload_n 0, 1) := by decide +kernel
theorem dX8_tryChange_5 : decode cX8_tryChange 5 = .ok (.getfield 26, 3) := by decide +kernel
theorem dX8_tryChange_8 : decode cX8_tryChange 8 = .ok (.invokevirtual 235, 3) := by decide +kernel
theorem dX8_tryChange_11 : decode cX8_tryChange 11 = .ok (.iconst 0, 1) := by decide +kernel
theorem dX8_tryChange_12 : decode cX8_tryChange 12 = .ok (.istore_n 2, 1) := by decide +kernel
theorem dX8_tryChange_13 : decode cX8_tryChange 13 = .ok (.iload_n 2, 1) := by decide +kernel
theorem dX8_tryChange_14 : decode cX8_tryChange 14 = .ok (.aload_n 0, 1) := by decide +kernel
theorem dX8_tryChange_15 : decode cX8_tryChange 15 = .ok (.getfield 19, 3) := by decide +kernel
theorem dX8_tryChange_18 : decode cX8_tryChange 18 = .ok (.invokevirtual 171, 3) := by decide +kernel
theorem dX8_tryChange_21 : decode cX8_tryChange 21 = .ok (.if_icmp .ge 28, 3) := by decide +kernel
theorem dX8_tryChange_24 : decode cX8_tryChange 24 = .ok (.aload_n 0, 1) := by decide +kernel
theorem dX8_tryChange_25 : decode cX8_tryChange 25 = .ok (.iload_n 1, 1) := by decide +kernel
theorem dX8_tryChange_26 : decode cX8_tryChange 26 = .ok (.iload_n 2, 1) := by decide +kernel
theorem dX8_tryChange_27 : decode cX8_tryChange 27 = .ok (.invokevirtual 486, 3) := by decide +kernel
theorem dX8_tryChange_30 : decode cX8_tryChange 30 = .ok (.ifCond .eq 13, 3) := by decide +kernel
theorem dX8_tryChange_33 : decode cX8_tryChange 33 = .ok (.aload_n 0, 1) := by decide +kernel
theorem dX8_tryChange_34 : decode cX8_tryChange 34 = .ok (.aload_n 0, 1) := by decide +kernel
theorem dX8_tryChange_35 : decode cX8_tryChange 35 = .ok (.getfield 30, 3) := by decide +kernel
theorem dX8_tryChange_38 : decode cX8_tryChange 38 = .ok (.iload_n 2, 1) := by decide +kernel
theorem dX8_tryChange_39 : decode cX8_tryChange 39 = .ok (.invokevirtual 243, 3) := by decide +kernel
theorem dX8_tryChange_42 : decode cX8_tryChange 42 = .ok (.pop, 1) := by decide +kernel
theorem dX8_tryChange_43 : decode cX8_tryChange 43 = .ok (.iinc 2 1, 3) := by decide +kernel
theorem dX8_tryChange_46 : decode cX8_tryChange 46 = .ok (.goto (-33), 3) := by decide +kernel
theorem dX8_tryChange_49 : decode cX8_tryChange 49 = .ok (.iconst 0, 1) := by decide +kernel
theorem dX8_tryChange_50 : decode cX8_tryChange 50 = .ok (.istore_n 2, 1) := by decide +kernel
theorem dX8_tryChange_51 : decode cX8_tryChange 51 = .ok (.iconst 0, 1) := by decide +kernel
theorem dX8_tryChange_52 : decode cX8_tryChange 52 = .ok (.istore_n 3, 1) := by decide +kernel
theorem dX8_tryChange_53 : decode cX8_tryChange 53 = .ok (.iload_n 3, 1) := by decide +kernel
theorem dX8_tryChange_54 : decode cX8_tryChange 54 = .ok (.aload_n 0, 1) := by decide +kernel
theorem dX8_tryChange_55 : decode cX8_tryChange 55 = .ok (.getfield 19, 3) := by decide +kernel
theorem dX8_tryChange_58 : decode cX8_tryChange 58 = .ok (.invokevirtual 171, 3) := by decide +kernel
theorem dX8_tryChange_61 : decode cX8_tryChange 61 = .ok (.if_icmp .ge 72, 3) := by decide +kernel
theorem dX8_tryChange_64 : decode cX8_tryChange 64 = .ok (.aload_n 0, 1) := by decide +kernel
theorem dX8_tryChange_65 : decode cX8_tryChange 65 = .ok (.iload_n 1, 1) := by decide +kernel
theorem dX8_tryChange_66 : decode cX8_tryChange 66 = .ok (.iload_n 3, 1) := by decide +kernel
theorem dX8_tryChange_67 : decode cX8_tryChange 67 = .ok (.invokevirtual 486, 3) := by decide +kernel
theorem dX8_tryChange_70 : decode cX8_tryChange 70 = .ok (.ifCond .eq 57, 3) := by decide +kernel
theorem dX8_tryChange_73 : decode cX8_tryChange 73 = .ok (.aload_n 0, 1) := by decide +kernel
theorem dX8_tryChange_74 : decode cX8_tryChange 74 = .ok (.iload_n 3, 1) := by decide +kernel
theorem dX8_tryChange_75 : decode cX8_tryChange 75 = .ok (.aload_n 0, 1) := by decide +kernel
theorem dX8_tryChange_76 : decode cX8_tryChange 76 = .ok (.getfield 66, 3) := by decide +kernel
theorem dX8_tryChange_79 : decode cX8_tryChange 79 = .ok (.iload_n 1, 1) := by decide +kernel
theorem dX8_tryChange_80 : decode cX8_tryChange 80 = .ok (.iload_n 3, 1) := by decide +kernel
theorem dX8_tryChange_81 : decode cX8_tryChange 81 = .ok (.invokevirtual 260, 3) := by decide +kernel
theorem dX8_tryChange_84 : decode cX8_tryChange 84 = .ok (.aload_n 0, 1) := by decide +kernel
theorem dX8_tryChange_85 : decode cX8_tryChange 85 = .ok (.getfield 70, 3) := by decide +kernel
theorem dX8_tryChange_88 : decode cX8_tryChange 88 = .ok (.bipush 36, 2) := by decide +kernel
theorem dX8_tryChange_90 : decode cX8_tryChange 90 = .ok (.iadd, 1) := by decide +kernel
theorem dX8_tryChange_91 : decode cX8_tryChange 91 = .ok (.invokevirtual 239, 3) := by decide +kernel
theorem dX8_tryChange_94 : decode cX8_tryChange 94 = .ok (.istore 4, 2) := by decide +kernel
theorem dX8_tryChange_96 : decode cX8_tryChange 96 = .ok (.iload 4, 2) := by decide +kernel
theorem dX8_tryChange_98 : decode cX8_tryChange 98 = .ok (.ifCond .ge 6, 3) := by decide +kernel
theorem dX8_tryChange_101 : decode cX8_tryChange 101 = .ok (.iload 4, 2) := by decide +kernel
theorem dX8_tryChange_103 : decode cX8_tryChange 103 = .ok (.ireturn, 1) := by decide +kernel
theorem dX8_tryChange_104 : decode cX8_tryChange 104 = .ok (.iload_n 2, 1) := by decide +kernel
theorem dX8_tryChange_105 : decode cX8_tryChange 105 = .ok (.aload_n 0, 1) := by decide +kernel
theorem dX8_tryChange_106 : decode cX8_tryChange 106 = .ok (.getfield 19, 3) := by decide +kernel
theorem dX8_tryChange_109 : decode cX8_tryChange 109 = .ok (.iload_n 3, 1) := by decide +kernel
theorem dX8_tryChange_110 : decode cX8_tryChange 110 = .ok (.iconst 1, 1) := by decide +kernel
theorem dX8_tryChange_111 : decode cX8_tryChange 111 = .ok (.invokevirtual 200, 3) := by decide +kernel
theorem dX8_tryChange_114 : decode cX8_tryChange 114 = .ok (.aload_n 0, 1) := by decide +kernel
theorem dX8_tryChange_115 : decode cX8_tryChange 115 = .ok (.getfield 19, 3) := by decide +kernel
theorem dX8_tryChange_118 : decode cX8_tryChange 118 = .ok (.iload_n 3, 1) := by decide +kernel
theorem dX8_tryChange_119 : decode cX8_tryChange 119 = .ok (.bipush 7, 2) := by decide +kernel
theorem dX8_tryChange_121 : decode cX8_tryChange 121 = .ok (.invokevirtual 200, 3) := by decide +kernel
theorem dX8_tryChange_124 : decode cX8_tryChange 124 = .ok (.isub, 1) := by decide +kernel
theorem dX8_tryChange_125 : decode cX8_tryChange 125 = .ok (.iadd, 1) := by decide +kernel
theorem dX8_tryChange_126 : decode cX8_tryChange 126 = .ok (.istore_n 2, 1) := by decide +kernel
theorem dX8_tryChange_127 : decode cX8_tryChange 127 = .ok (.iinc 3 1, 3) := by decide +kernel
theorem dX8_tryChange_130 : decode cX8_tryChange 130 = .ok (.goto (-77), 3) := by decide +kernel
theorem dX8_tryChange_133 : decode cX8_tryChange 133 = .ok (.iload_n 2, 1) := by decide +kernel
theorem dX8_tryChange_134 : decode cX8_tryChange 134 = .ok (.ireturn, 1) := by decide +kernel
theorem dX8_takeAims_0 : decode cX8_takeAims 0 = .ok (.iconst 0, 1) := by decide +kernel
theorem dX8_takeAims_1 : decode cX8_takeAims 1 = .ok (.istore_n 2, 1) := by decide +kernel
theorem dX8_takeAims_2 : decode cX8_takeAims 2 = .ok (.iload_n 2, 1) := by decide +kernel
theorem dX8_takeAims_3 : decode cX8_takeAims 3 = .ok (.aload_n 0, 1) := by decide +kernel
theorem dX8_takeAims_4 : decode cX8_takeAims 4 = .ok (.getfield 19, 3) := by decide +kernel
theorem dX8_takeAims_7 : decode cX8_takeAims 7 = .ok (.invokevirtual 171, 3) := by decide +kernel
theorem dX8_takeAims_10 : decode cX8_takeAims 10 = .ok (.if_icmp .ge 36, 3) := by decide +kernel
theorem dX8_takeAims_13 : decode cX8_takeAims 13 = .ok (.aload_n 0, 1) := by decide +kernel
theorem dX8_takeAims_14 : decode cX8_takeAims 14 = .ok (.iload_n 1, 1) := by decide +kernel
theorem dX8_takeAims_15 : decode cX8_takeAims 15 = .ok (.iload_n 2, 1) := by decide +kernel
theorem dX8_takeAims_16 : decode cX8_takeAims 16 = .ok (.invokevirtual 486, 3) := by decide +kernel
theorem dX8_takeAims_19 : decode cX8_takeAims 19 = .ok (.ifCond .eq 21, 3) := by decide +kernel
theorem dX8_takeAims_22 : decode cX8_takeAims 22 = .ok (.aload_n 0, 1) := by decide +kernel
theorem dX8_takeAims_23 : decode cX8_takeAims 23 = .ok (.getfield 19, 3) := by decide +kernel
theorem dX8_takeAims_26 : decode cX8_takeAims 26 = .ok (.iload_n 2, 1) := by decide +kernel
theorem dX8_takeAims_27 : decode cX8_takeAims 27 = .ok (.iconst 3, 1) := by decide +kernel
theorem dX8_takeAims_28 : decode cX8_takeAims 28 = .ok (.aload_n 0, 1) := by decide +kernel
theorem dX8_takeAims_29 : decode cX8_takeAims 29 = .ok (.getfield 66, 3) := by decide +kernel
theorem dX8_takeAims_32 : decode cX8_takeAims 32 = .ok (.iload_n 1, 1) := by decide +kernel
theorem dX8_takeAims_33 : decode cX8_takeAims 33 = .ok (.iload_n 2, 1) := by decide +kernel
theorem dX8_takeAims_34 : decode cX8_takeAims 34 = .ok (.invokevirtual 260, 3) := by decide +kernel
theorem dX8_takeAims_37 : decode cX8_takeAims 37 = .ok (.invokevirtual 201, 3) := by decide +kernel
theorem dX8_takeAims_40 : decode cX8_takeAims 40 = .ok (.iinc 2 1, 3) := by decide +kernel
theorem dX8_takeAims_43 : decode cX8_takeAims 43 = .ok (.goto (-41), 3) := by decide +kernel
theorem dX8_takeAims_46 : decode cX8_takeAims 46 = .ok (.return_, 1) := by decide +kernel
theorem dX8_nextTick_0 : decode cX8_nextTick 0 = .ok (.aload_n 0, 1) := by decide +kernel
theorem dX8_nextTick_1 : decode cX8_nextTick 1 = .ok (.dup, 1) := by decide +kernel
theorem dX8_nextTick_2 : decode cX8_nextTick 2 = .ok (.getfield 70, 3) := by decide +kernel
theorem dX8_nextTick_5 : decode cX8_nextTick 5 = .ok (.iconst 1, 1) := by decide +kernel
theorem dX8_nextTick_6 : decode cX8_nextTick 6 = .ok (.iadd, 1) := by decide +kernel
theorem dX8_nextTick_7 : decode cX8_nextTick 7 = .ok (.putfield 70, 3) := by decide +kernel
theorem dX8_nextTick_10 : decode cX8_nextTick 10 = .ok (.aload_n 0, 1) := by decide +kernel
theorem dX8_nextTick_11 : decode cX8_nextTick 11 = .ok (.getfield 10, 3) := by decide +kernel
theorem dX8_nextTick_14 : decode cX8_nextTick 14 = .ok (.invokevirtual 489, 3) := by decide +kernel
theorem dX8_nextTick_17 : decode cX8_nextTick 17 = .ok (.aload_n 0, 1) := by decide +kernel
theorem dX8_nextTick_18 : decode cX8_nextTick 18 = .ok (.getfield 19, 3) := by decide +kernel
theorem dX8_nextTick_21 : decode cX8_nextTick 21 = .ok (.aload_n 0, 1) := by decide +kernel
theorem dX8_nextTick_22 : decode cX8_nextTick 22 = .ok (.getfield 70, 3) := by decide +kernel
theorem dX8_nextTick_25 : decode cX8_nextTick 25 = .ok (.invokevirtual 492, 3) := by decide +kernel
theorem dX8_nextTick_28 : decode cX8_nextTick 28 = .ok (.aload_n 0, 1) := by decide +kernel
theorem dX8_nextTick_29 : decode cX8_nextTick 29 = .ok (.invokevirtual 495, 3) := by decide +kernel
theorem dX8_nextTick_32 : decode cX8_nextTick 32 = .ok (.aload_n 0, 1) := by decide +kernel
theorem dX8_nextTick_33 : decode cX8_nextTick 33 = .ok (.invokevirtual 498, 3) := by decide +kernel
theorem dX8_nextTick_36 : decode cX8_nextTick 36 = .ok (.aload_n 0, 1) := by decide +kernel
theorem dX8_nextTick_37 : decode cX8_nextTick 37 = .ok (.getfield 19, 3) := by decide +kernel
theorem dX8_nextTick_40 : decode cX8_nextTick 40 = .ok (.aload_n 0, 1) := by decide +kernel
theorem dX8_nextTick_41 : decode cX8_nextTick 41 = .ok (.getfield 70, 3) := by decide +kernel
theorem dX8_nextTick_44 : decode cX8_nextTick 44 = .ok (.invokevirtual 501, 3) := by decide +kernel
theorem dX8_nextTick_47 : decode cX8_nextTick 47 = .ok (.aload_n 0, 1) := by decide +kernel
theorem dX8_nextTick_48 : decode cX8_nextTick 48 = .ok (.getfield 70, 3) := by decide +kernel
theorem dX8_nextTick_51 : decode cX8_nextTick 51 = .ok (.sipush 144, 3) := by decide +kernel
theorem dX8_nextTick_54 : decode cX8_nextTick 54 = .ok (.irem, 1) := by decide +kernel
theorem dX8_nextTick_55 : decode cX8_nextTick 55 = .ok (.ifCond .ne 7, 3) := by decide +kernel
theorem dX8_nextTick_58 : decode cX8_nextTick 58 = .ok (.aload_n 0, 1) := by decide +kernel
theorem dX8_nextTick_59 : decode cX8_nextTick 59 = .ok (.invokevirtual 504, 3) := by decide +kernel
theorem dX8_nextTick_62 : decode cX8_nextTick 62 = .ok (.iconst 0, 1) := by decide +kernel
theorem dX8_nextTick_63 : decode cX8_nextTick 63 = .ok (.istore_n 1, 1) := by decide +kernel
theorem dX8_nextTick_64 : decode cX8_nextTick 64 = .ok (.iload_n 1, 1) := by decide +kernel
theorem dX8_nextTick_65 : decode cX8_nextTick 65 = .ok (.aload_n 0, 1) := by decide +kernel
theorem dX8_nextTick_66 : decode cX8_nextTick 66 = .ok (.getfield 10, 3) := by decide +kernel
theorem dX8_nextTick_69 : decode cX8_nextTick 69 = .ok (.invokevirtual 88, 3) := by decide +kernel
theorem dX8_nextTick_72 : decode cX8_nextTick 72 = .ok (.if_icmp .ge 17, 3) := by decide +kernel
theorem dX8_nextTick_75 : decode cX8_nextTick 75 = .ok (.aload_n 0, 1) := by decide +kernel
theorem dX8_nextTick_76 : decode cX8_nextTick 76 = .ok (.getfield 19, 3) := by decide +kernel
theorem dX8_nextTick_79 : decode cX8_nextTick 79 = .ok (.iload_n 1, 1) := by decide +kernel
theorem dX8_nextTick_80 : decode cX8_nextTick 80 = .ok (.invokevirtual 507, 3) := by decide +kernel
theorem dX8_nextTick_83 : decode cX8_nextTick 83 = .ok (.iinc 1 1, 3) := by decide +kernel
theorem dX8_nextTick_86 : decode cX8_nextTick 86 = .ok (.goto (-22), 3) := by decide +kernel
theorem dX8_nextTick_89 : decode cX8_nextTick 89 = .ok (.aload_n 0, 1) := by decide +kernel
theorem dX8_nextTick_90 : decode cX8_nextTick 90 = .ok (.invokevirtual 510, 3) := by decide +kernel
theorem dX8_nextTick_93 : decode cX8_nextTick 93 = .ok (.aload_n 0, 1) := by decide +kernel
theorem dX8_nextTick_94 : decode cX8_nextTick 94 = .ok (.invokevirtual 513, 3) := by decide +kernel
theorem dX8_nextTick_97 : decode cX8_nextTick 97 = .ok (.aload_n 0, 1) := by decide +kernel
theorem dX8_nextTick_98 : decode cX8_nextTick 98 = .ok (.getfield 36, 3) := by decide +kernel
theorem dX8_nextTick_101 : decode cX8_nextTick 101 = .ok (.aload_n 0, 1) := by decide +kernel
theorem dX8_nextTick_102 : decode cX8_nextTick 102 = .ok (.getfield 70, 3) := by decide +kernel
theorem dX8_nextTick_105 : decode cX8_nextTick 105 = .ok (.invokevirtual 516, 3) := by decide +kernel
theorem dX8_nextTick_108 : decode cX8_nextTick 108 = .ok (.istore_n 1, 1) := by decide +kernel
theorem dX8_nextTick_109 : decode cX8_nextTick 109 = .ok (.iconst 0, 1) := by decide +kernel
theorem dX8_nextTick_110 : decode cX8_nextTick 110 = .ok (.istore_n 2, 1) := by decide +kernel
theorem dX8_nextTick_111 : decode cX8_nextTick 111 = .ok (.iload_n 2, 1) := by decide +kernel
theorem dX8_nextTick_112 : decode cX8_nextTick 112 = .ok (.iload_n 1, 1) := by decide +kernel
theorem dX8_nextTick_113 : decode cX8_nextTick 113 = .ok (.if_icmp .ge 54, 3) := by decide +kernel
theorem dX8_nextTick_116 : decode cX8_nextTick 116 = .ok (.aload_n 0, 1) := by decide +kernel
theorem dX8_nextTick_117 : decode cX8_nextTick 117 = .ok (.getfield 36, 3) := by decide +kernel
theorem dX8_nextTick_120 : decode cX8_nextTick 120 = .ok (.iload_n 2, 1) := by decide +kernel
theorem dX8_nextTick_121 : decode cX8_nextTick 121 = .ok (.invokevirtual 519, 3) := by decide +kernel
theorem dX8_nextTick_124 : decode cX8_nextTick 124 = .ok (.istore_n 3, 1) := by decide +kernel
theorem dX8_nextTick_125 : decode cX8_nextTick 125 = .ok (.aload_n 0, 1) := by decide +kernel
theorem dX8_nextTick_126 : decode cX8_nextTick 126 = .ok (.getfield 36, 3) := by decide +kernel
theorem dX8_nextTick_129 : decode cX8_nextTick 129 = .ok (.iload_n 3, 1) := by decide +kernel
theorem dX8_nextTick_130 : decode cX8_nextTick 130 = .ok (.aload_n 0, 1) := by decide +kernel
theorem dX8_nextTick_131 : decode cX8_nextTick 131 = .ok (.getfield 10, 3) := by decide +kernel
theorem dX8_nextTick_134 : decode cX8_nextTick 134 = .ok (.invokevirtual 301, 3) := by decide +kernel
theorem dX8_nextTick_137 : decode cX8_nextTick 137 = .ok (.istore 4, 2) := by decide +kernel
theorem dX8_nextTick_139 : decode cX8_nextTick 139 = .ok (.aload_n 0, 1) := by decide +kernel
theorem dX8_nextTick_140 : decode cX8_nextTick 140 = .ok (.getfield 36, 3) := by decide +kernel
theorem dX8_nextTick_143 : decode cX8_nextTick 143 = .ok (.iload_n 3, 1) := by decide +kernel
theorem dX8_nextTick_144 : decode cX8_nextTick 144 = .ok (.iload 4, 2) := by decide +kernel
theorem dX8_nextTick_146 : decode cX8_nextTick 146 = .ok (.aload_n 0, 1) := by decide +kernel
theorem dX8_nextTick_147 : decode cX8_nextTick 147 = .ok (.getfield 10, 3) := by decide +kernel
theorem dX8_nextTick_150 : decode cX8_nextTick 150 = .ok (.invokevirtual 522, 3) := by decide +kernel
theorem dX8_nextTick_153 : decode cX8_nextTick 153 = .ok (.ifCond .eq 8, 3) := by decide +kernel
theorem dX8_nextTick_156 : decode cX8_nextTick 156 = .ok (.aload_n 0, 1) := by decide +kernel
theorem dX8_nextTick_157 : decode cX8_nextTick 157 = .ok (.iload_n 3, 1) := by decide +kernel
theorem dX8_nextTick_158 : decode cX8_nextTick 158 = .ok (.invokevirtual 525, 3) := by decide +kernel
theorem dX8_nextTick_161 : decode cX8_nextTick 161 = .ok (.iinc 2 1, 3) := by decide +kernel
theorem dX8_nextTick_164 : decode cX8_nextTick 164 = .ok (.goto (-53), 3) := by decide +kernel
theorem dX8_nextTick_167 : decode cX8_nextTick 167 = .ok (.return_, 1) := by decide +kernel
theorem dX8_bringEngines_0 : decode cX8_bringEngines 0 = .ok (.iconst 0, 1) := by decide +kernel
theorem dX8_bringEngines_1 : decode cX8_bringEngines 1 = .ok (.istore_n 1, 1) := by decide +kernel
theorem dX8_bringEngines_2 : decode cX8_bringEngines 2 = .ok (.iload_n 1, 1) := by decide +kernel
theorem dX8_bringEngines_3 : decode cX8_bringEngines 3 = .ok (.aload_n 0, 1) := by decide +kernel
theorem dX8_bringEngines_4 : decode cX8_bringEngines 4 = .ok (.getfield 36, 3) := by decide +kernel
theorem dX8_bringEngines_7 : decode cX8_bringEngines 7 = .ok (.invokevirtual 449, 3) := by decide +kernel
theorem dX8_bringEngines_10 : decode cX8_bringEngines 10 = .ok (.if_icmp .ge 55, 3) := by decide +kernel
theorem dX8_bringEngines_13 : decode cX8_bringEngines 13 = .ok (.aload_n 0, 1) := by decide +kernel
theorem dX8_bringEngines_14 : decode cX8_bringEngines 14 = .ok (.getfield 36, 3) := by decide +kernel
theorem dX8_bringEngines_17 : decode cX8_bringEngines 17 = .ok (.iload_n 1, 1) := by decide +kernel
theorem dX8_bringEngines_18 : decode cX8_bringEngines 18 = .ok (.bipush 15, 2) := by decide +kernel
theorem dX8_bringEngines_20 : decode cX8_bringEngines 20 = .ok (.invokevirtual 280, 3) := by decide +kernel
theorem dX8_bringEngines_23 : decode cX8_bringEngines 23 = .ok (.aload_n 0, 1) := by decide +kernel
theorem dX8_bringEngines_24 : decode cX8_bringEngines 24 = .ok (.getfield 70, 3) := by decide +kernel
theorem dX8_bringEngines_27 : decode cX8_bringEngines 27 = .ok (.if_icmp .ne 32, 3) := by decide +kernel
theorem dX8_bringEngines_30 : decode cX8_bringEngines 30 = .ok (.aload_n 0, 1) := by decide +kernel
theorem dX8_bringEngines_31 : decode cX8_bringEngines 31 = .ok (.getfield 10, 3) := by decide +kernel
theorem dX8_bringEngines_34 : decode cX8_bringEngines 34 = .ok (.aload_n 0, 1) := by decide +kernel
theorem dX8_bringEngines_35 : decode cX8_bringEngines 35 = .ok (.getfield 36, 3) := by decide +kernel
theorem dX8_bringEngines_38 : decode cX8_bringEngines 38 = .ok (.iload_n 1, 1) := by decide +kernel
theorem dX8_bringEngines_39 : decode cX8_bringEngines 39 = .ok (.bipush 12, 2) := by decide +kernel
theorem dX8_bringEngines_41 : decode cX8_bringEngines 41 = .ok (.invokevirtual 280, 3) := by decide +kernel
theorem dX8_bringEngines_44 : decode cX8_bringEngines 44 = .ok (.iconst 1, 1) := by decide +kernel
theorem dX8_bringEngines_45 : decode cX8_bringEngines 45 = .ok (.invokevirtual 528, 3) := by decide +kernel
theorem dX8_bringEngines_48 : decode cX8_bringEngines 48 = .ok (.aload_n 0, 1) := by decide +kernel
theorem dX8_bringEngines_49 : decode cX8_bringEngines 49 = .ok (.getfield 36, 3) := by decide +kernel
theorem dX8_bringEngines_52 : decode cX8_bringEngines 52 = .ok (.iload_n 1, 1) := by decide +kernel
theorem dX8_bringEngines_53 : decode cX8_bringEngines 53 = .ok (.bipush 15, 2) := by decide +kernel
theorem dX8_bringEngines_55 : decode cX8_bringEngines 55 = .ok (.iconst (-1), 1) := by decide +kernel
theorem dX8_bringEngines_56 : decode cX8_bringEngines 56 = .ok (.invokevirtual 531, 3) := by decide +kernel
theorem dX8_bringEngines_59 : decode cX8_bringEngines 59 = .ok (.iinc 1 1, 3) := by decide +kernel
theorem dX8_bringEngines_62 : decode cX8_bringEngines 62 = .ok (.goto (-60), 3) := by decide +kernel
theorem dX8_bringEngines_65 : decode cX8_bringEngines 65 = .ok (.return_, 1) := by decide +kernel
theorem dX8_beginDay_0 : decode cX8_beginDay 0 = .ok (.iconst 0, 1) := by decide +kernel
theorem dX8_beginDay_1 : decode cX8_beginDay 1 = .ok (.istore_n 1, 1) := by decide +kernel
theorem dX8_beginDay_2 : decode cX8_beginDay 2 = .ok (.iload_n 1, 1) := by decide +kernel
theorem dX8_beginDay_3 : decode cX8_beginDay 3 = .ok (.iconst 3, 1) := by decide +kernel
theorem dX8_beginDay_4 : decode cX8_beginDay 4 = .ok (.if_icmp .ge 95, 3) := by decide +kernel
theorem dX8_beginDay_7 : decode cX8_beginDay 7 = .ok (.aload_n 0, 1) := by decide +kernel
theorem dX8_beginDay_8 : decode cX8_beginDay 8 = .ok (.getfield 57, 3) := by decide +kernel
theorem dX8_beginDay_11 : decode cX8_beginDay 11 = .ok (.iload_n 1, 1) := by decide +kernel
theorem dX8_beginDay_12 : decode cX8_beginDay 12 = .ok (.aload_n 0, 1) := by decide +kernel
theorem dX8_beginDay_13 : decode cX8_beginDay 13 = .ok (.invokevirtual 334, 3) := by decide +kernel
theorem dX8_beginDay_16 : decode cX8_beginDay 16 = .ok (.invokevirtual 532, 3) := by decide +kernel
theorem dX8_beginDay_19 : decode cX8_beginDay 19 = .ok (.istore_n 2, 1) := by decide +kernel
theorem dX8_beginDay_20 : decode cX8_beginDay 20 = .ok (.aload_n 0, 1) := by decide +kernel
theorem dX8_beginDay_21 : decode cX8_beginDay 21 = .ok (.getfield 50, 3) := by decide +kernel
theorem dX8_beginDay_24 : decode cX8_beginDay 24 = .ok (.iload_n 1, 1) := by decide +kernel
theorem dX8_beginDay_25 : decode cX8_beginDay 25 = .ok (.bipush 11, 2) := by decide +kernel
theorem dX8_beginDay_27 : decode cX8_beginDay 27 = .ok (.invokevirtual 192, 3) := by decide +kernel
theorem dX8_beginDay_30 : decode cX8_beginDay 30 = .ok (.ifCond .ne 63, 3) := by decide +kernel
theorem dX8_beginDay_33 : decode cX8_beginDay 33 = .ok (.aload_n 0, 1) := by decide +kernel
theorem dX8_beginDay_34 : decode cX8_beginDay 34 = .ok (.getfield 19, 3) := by decide +kernel
theorem dX8_beginDay_37 : decode cX8_beginDay 37 = .ok (.iload_n 1, 1) := by decide +kernel
theorem dX8_beginDay_38 : decode cX8_beginDay 38 = .ok (.iconst 1, 1) := by decide +kernel
theorem dX8_beginDay_39 : decode cX8_beginDay 39 = .ok (.invokevirtual 440, 3) := by decide +kernel
theorem dX8_beginDay_42 : decode cX8_beginDay 42 = .ok (.istore_n 3, 1) := by decide +kernel
theorem dX8_beginDay_43 : decode cX8_beginDay 43 = .ok (.aload_n 0, 1) := by decide +kernel
theorem dX8_beginDay_44 : decode cX8_beginDay 44 = .ok (.getfield 19, 3) := by decide +kernel
theorem dX8_beginDay_47 : decode cX8_beginDay 47 = .ok (.iload_n 1, 1) := by decide +kernel
theorem dX8_beginDay_48 : decode cX8_beginDay 48 = .ok (.iconst 0, 1) := by decide +kernel
theorem dX8_beginDay_49 : decode cX8_beginDay 49 = .ok (.invokevirtual 440, 3) := by decide +kernel
theorem dX8_beginDay_52 : decode cX8_beginDay 52 = .ok (.iload_n 3, 1) := by decide +kernel
theorem dX8_beginDay_53 : decode cX8_beginDay 53 = .ok (.isub, 1) := by decide +kernel
theorem dX8_beginDay_54 : decode cX8_beginDay 54 = .ok (.istore 4, 2) := by decide +kernel
theorem dX8_beginDay_56 : decode cX8_beginDay 56 = .ok (.aload_n 0, 1) := by decide +kernel
theorem dX8_beginDay_57 : decode cX8_beginDay 57 = .ok (.getfield 50, 3) := by decide +kernel
theorem dX8_beginDay_60 : decode cX8_beginDay 60 = .ok (.iload_n 1, 1) := by decide +kernel
theorem dX8_beginDay_61 : decode cX8_beginDay 61 = .ok (.iconst 4, 1) := by decide +kernel
theorem dX8_beginDay_62 : decode cX8_beginDay 62 = .ok (.iload_n 2, 1) := by decide +kernel
theorem dX8_beginDay_63 : decode cX8_beginDay 63 = .ok (.invokevirtual 534, 3) := by decide +kernel
theorem dX8_beginDay_66 : decode cX8_beginDay 66 = .ok (.aload_n 0, 1) := by decide +kernel
theorem dX8_beginDay_67 : decode cX8_beginDay 67 = .ok (.getfield 50, 3) := by decide +kernel
theorem dX8_beginDay_70 : decode cX8_beginDay 70 = .ok (.iload_n 1, 1) := by decide +kernel
theorem dX8_beginDay_71 : decode cX8_beginDay 71 = .ok (.iload_n 3, 1) := by decide +kernel
theorem dX8_beginDay_72 : decode cX8_beginDay 72 = .ok (.iload 4, 2) := by decide +kernel
theorem dX8_beginDay_74 : decode cX8_beginDay 74 = .ok (.invokevirtual 535, 3) := by decide +kernel
theorem dX8_beginDay_77 : decode cX8_beginDay 77 = .ok (.aload_n 0, 1) := by decide +kernel
theorem dX8_beginDay_78 : decode cX8_beginDay 78 = .ok (.getfield 50, 3) := by decide +kernel
theorem dX8_beginDay_81 : decode cX8_beginDay 81 = .ok (.iload_n 1, 1) := by decide +kernel
theorem dX8_beginDay_82 : decode cX8_beginDay 82 = .ok (.aload_n 0, 1) := by decide +kernel
theorem dX8_beginDay_83 : decode cX8_beginDay 83 = .ok (.getfield 19, 3) := by decide +kernel
theorem dX8_beginDay_86 : decode cX8_beginDay 86 = .ok (.iload_n 1, 1) := by decide +kernel
theorem dX8_beginDay_87 : decode cX8_beginDay 87 = .ok (.invokevirtual 443, 3) := by decide +kernel
theorem dX8_beginDay_90 : decode cX8_beginDay 90 = .ok (.invokevirtual 538, 3) := by decide +kernel
theorem dX8_beginDay_93 : decode cX8_beginDay 93 = .ok (.iinc 1 1, 3) := by decide +kernel
theorem dX8_beginDay_96 : decode cX8_beginDay 96 = .ok (.goto (-94), 3) := by decide +kernel
theorem dX8_beginDay_99 : decode cX8_beginDay 99 = .ok (.return_, 1) := by decide +kernel
theorem dX8_sendLoads_0 : decode cX8_sendLoads 0 = .ok (.iconst 0, 1) := by decide +kernel
theorem dX8_sendLoads_1 : decode cX8_sendLoads 1 = .ok (.istore_n 1, 1) := by decide +kernel
theorem dX8_sendLoads_2 : decode cX8_sendLoads 2 = .ok (.iload_n 1, 1) := by decide +kernel
theorem dX8_sendLoads_3 : decode cX8_sendLoads 3 = .ok (.aload_n 0, 1) := by decide +kernel
theorem dX8_sendLoads_4 : decode cX8_sendLoads 4 = .ok (.getfield 19, 3) := by decide +kernel
theorem dX8_sendLoads_7 : decode cX8_sendLoads 7 = .ok (.invokevirtual 171, 3) := by decide +kernel
theorem dX8_sendLoads_10 : decode cX8_sendLoads 10 = .ok (.if_icmp .ge 112, 3) := by decide +kernel
theorem dX8_sendLoads_13 : decode cX8_sendLoads 13 = .ok (.aload_n 0, 1) := by decide +kernel
theorem dX8_sendLoads_14 : decode cX8_sendLoads 14 = .ok (.getfield 19, 3) := by decide +kernel
theorem dX8_sendLoads_17 : decode cX8_sendLoads 17 = .ok (.iload_n 1, 1) := by decide +kernel
theorem dX8_sendLoads_18 : decode cX8_sendLoads 18 = .ok (.iconst 2, 1) := by decide +kernel
theorem dX8_sendLoads_19 : decode cX8_sendLoads 19 = .ok (.invokevirtual 200, 3) := by decide +kernel
theorem dX8_sendLoads_22 : decode cX8_sendLoads 22 = .ok (.istore_n 2, 1) := by decide +kernel
theorem dX8_sendLoads_23 : decode cX8_sendLoads 23 = .ok (.aload_n 0, 1) := by decide +kernel
theorem dX8_sendLoads_24 : decode cX8_sendLoads 24 = .ok (.getfield 19, 3) := by decide +kernel
theorem dX8_sendLoads_27 : decode cX8_sendLoads 27 = .ok (.iload_n 1, 1) := by decide +kernel
theorem dX8_sendLoads_28 : decode cX8_sendLoads 28 = .ok (.bipush 7, 2) := by decide +kernel
theorem dX8_sendLoads_30 : decode cX8_sendLoads 30 = .ok (.invokevirtual 200, 3) := by decide +kernel
theorem dX8_sendLoads_33 : decode cX8_sendLoads 33 = .ok (.istore_n 3, 1) := by decide +kernel
theorem dX8_sendLoads_34 : decode cX8_sendLoads 34 = .ok (.iload_n 3, 1) := by decide +kernel
theorem dX8_sendLoads_35 : decode cX8_sendLoads 35 = .ok (.aload_n 0, 1) := by decide +kernel
theorem dX8_sendLoads_36 : decode cX8_sendLoads 36 = .ok (.getfield 19, 3) := by decide +kernel
theorem dX8_sendLoads_39 : decode cX8_sendLoads 39 = .ok (.iload_n 1, 1) := by decide +kernel
theorem dX8_sendLoads_40 : decode cX8_sendLoads 40 = .ok (.bipush 6, 2) := by decide +kernel
theorem dX8_sendLoads_42 : decode cX8_sendLoads 42 = .ok (.invokevirtual 200, 3) := by decide +kernel
theorem dX8_sendLoads_45 : decode cX8_sendLoads 45 = .ok (.if_icmp .ge 71, 3) := by decide +kernel
theorem dX8_sendLoads_48 : decode cX8_sendLoads 48 = .ok (.iload_n 1, 1) := by decide +kernel
theorem dX8_sendLoads_49 : decode cX8_sendLoads 49 = .ok (.iload_n 3, 1) := by decide +kernel
theorem dX8_sendLoads_50 : decode cX8_sendLoads 50 = .ok (.invokestatic 249, 3) := by decide +kernel
theorem dX8_sendLoads_53 : decode cX8_sendLoads 53 = .ok (.istore 4, 2) := by decide +kernel
theorem dX8_sendLoads_55 : decode cX8_sendLoads 55 = .ok (.aload_n 0, 1) := by decide +kernel
theorem dX8_sendLoads_56 : decode cX8_sendLoads 56 = .ok (.getfield 19, 3) := by decide +kernel
theorem dX8_sendLoads_59 : decode cX8_sendLoads 59 = .ok (.iload_n 1, 1) := by decide +kernel
theorem dX8_sendLoads_60 : decode cX8_sendLoads 60 = .ok (.iconst 4, 1) := by decide +kernel
theorem dX8_sendLoads_61 : decode cX8_sendLoads 61 = .ok (.invokevirtual 200, 3) := by decide +kernel
theorem dX8_sendLoads_64 : decode cX8_sendLoads 64 = .ok (.iconst 2, 1) := by decide +kernel
theorem dX8_sendLoads_65 : decode cX8_sendLoads 65 = .ok (.if_icmp .ne 51, 3) := by decide +kernel
theorem dX8_sendLoads_68 : decode cX8_sendLoads 68 = .ok (.aload_n 0, 1) := by decide +kernel
theorem dX8_sendLoads_69 : decode cX8_sendLoads 69 = .ok (.iload 4, 2) := by decide +kernel
theorem dX8_sendLoads_71 : decode cX8_sendLoads 71 = .ok (.iload_n 2, 1) := by decide +kernel
theorem dX8_sendLoads_72 : decode cX8_sendLoads 72 = .ok (.invokevirtual 541, 3) := by decide +kernel
theorem dX8_sendLoads_75 : decode cX8_sendLoads 75 = .ok (.ifCond .ne 6, 3) := by decide +kernel
theorem dX8_sendLoads_78 : decode cX8_sendLoads 78 = .ok (.goto 38, 3) := by decide +kernel
theorem dX8_sendLoads_81 : decode cX8_sendLoads 81 = .ok (.aload_n 0, 1) := by decide +kernel
theorem dX8_sendLoads_82 : decode cX8_sendLoads 82 = .ok (.iload_n 1, 1) := by decide +kernel
theorem dX8_sendLoads_83 : decode cX8_sendLoads 83 = .ok (.iload_n 3, 1) := by decide +kernel
theorem dX8_sendLoads_84 : decode cX8_sendLoads 84 = .ok (.iload 4, 2) := by decide +kernel
theorem dX8_sendLoads_86 : decode cX8_sendLoads 86 = .ok (.iload_n 2, 1) := by decide +kernel
theorem dX8_sendLoads_87 : decode cX8_sendLoads 87 = .ok (.invokevirtual 544, 3) := by decide +kernel
theorem dX8_sendLoads_90 : decode cX8_sendLoads 90 = .ok (.aload_n 0, 1) := by decide +kernel
theorem dX8_sendLoads_91 : decode cX8_sendLoads 91 = .ok (.getfield 19, 3) := by decide +kernel
theorem dX8_sendLoads_94 : decode cX8_sendLoads 94 = .ok (.iload_n 1, 1) := by decide +kernel
theorem dX8_sendLoads_95 : decode cX8_sendLoads 95 = .ok (.iload 4, 2) := by decide +kernel
theorem dX8_sendLoads_97 : decode cX8_sendLoads 97 = .ok (.aload_n 0, 1) := by decide +kernel
theorem dX8_sendLoads_98 : decode cX8_sendLoads 98 = .ok (.getfield 26, 3) := by decide +kernel
theorem dX8_sendLoads_101 : decode cX8_sendLoads 101 = .ok (.iload 4, 2) := by decide +kernel
theorem dX8_sendLoads_103 : decode cX8_sendLoads 103 = .ok (.iconst 2, 1) := by decide +kernel
theorem dX8_sendLoads_104 : decode cX8_sendLoads 104 = .ok (.invokevirtual 439, 3) := by decide +kernel
theorem dX8_sendLoads_107 : decode cX8_sendLoads 107 = .ok (.invokevirtual 547, 3) := by decide +kernel
theorem dX8_sendLoads_110 : decode cX8_sendLoads 110 = .ok (.iinc 3 1, 3) := by decide +kernel
theorem dX8_sendLoads_113 : decode cX8_sendLoads 113 = .ok (.goto (-79), 3) := by decide +kernel
theorem dX8_sendLoads_116 : decode cX8_sendLoads 116 = .ok (.iinc 1 1, 3) := by decide +kernel
theorem dX8_sendLoads_119 : decode cX8_sendLoads 119 = .ok (.goto (-117), 3) := by decide +kernel
theorem dX8_sendLoads_122 : decode cX8_sendLoads 122 = .ok (.return_, 1) := by decide +kernel
theorem dX8_sendSupplies_0 : decode cX8_sendSupplies 0 = .ok (.aload_n 0, 1) := by decide +kernel
theorem dX8_sendSupplies_1 : decode cX8_sendSupplies 1 = .ok (.getfield 43, 3) := by decide +kernel
theorem dX8_sendSupplies_4 : decode cX8_sendSupplies 4 = .ok (.iconst 0, 1) := by decide +kernel
theorem dX8_sendSupplies_5 : decode cX8_sendSupplies 5 = .ok (.invokevirtual 550, 3) := by decide +kernel
theorem dX8_sendSupplies_8 : decode cX8_sendSupplies 8 = .ok (.istore_n 1, 1) := by decide +kernel
theorem dX8_sendSupplies_9 : decode cX8_sendSupplies 9 = .ok (.iconst 0, 1) := by decide +kernel
theorem dX8_sendSupplies_10 : decode cX8_sendSupplies 10 = .ok (.istore_n 2, 1) := by decide +kernel
theorem dX8_sendSupplies_11 : decode cX8_sendSupplies 11 = .ok (.iload_n 2, 1) := by decide +kernel
theorem dX8_sendSupplies_12 : decode cX8_sendSupplies 12 = .ok (.bipush 6, 2) := by decide +kernel
theorem dX8_sendSupplies_14 : decode cX8_sendSupplies 14 = .ok (.if_icmp .ge 73, 3) := by decide +kernel
theorem dX8_sendSupplies_17 : decode cX8_sendSupplies 17 = .ok (.iload_n 1, 1) := by decide +kernel
theorem dX8_sendSupplies_18 : decode cX8_sendSupplies 18 = .ok (.iconst (-1), 1) := by decide +kernel
theorem dX8_sendSupplies_19 : decode cX8_sendSupplies 19 = .ok (.if_icmp .eq 68, 3) := by decide +kernel
theorem dX8_sendSupplies_22 : decode cX8_sendSupplies 22 = .ok (.iload_n 1, 1) := by decide +kernel
theorem dX8_sendSupplies_23 : decode cX8_sendSupplies 23 = .ok (.invokestatic 312, 3) := by decide +kernel
theorem dX8_sendSupplies_26 : decode cX8_sendSupplies 26 = .ok (.istore_n 3, 1) := by decide +kernel
theorem dX8_sendSupplies_27 : decode cX8_sendSupplies 27 = .ok (.aload_n 0, 1) := by decide +kernel
theorem dX8_sendSupplies_28 : decode cX8_sendSupplies 28 = .ok (.getfield 43, 3) := by decide +kernel
theorem dX8_sendSupplies_31 : decode cX8_sendSupplies 31 = .ok (.iload_n 1, 1) := by decide +kernel
theorem dX8_sendSupplies_32 : decode cX8_sendSupplies 32 = .ok (.iconst 0, 1) := by decide +kernel
theorem dX8_sendSupplies_33 : decode cX8_sendSupplies 33 = .ok (.invokevirtual 553, 3) := by decide +kernel
theorem dX8_sendSupplies_36 : decode cX8_sendSupplies 36 = .ok (.istore 4, 2) := by decide +kernel
theorem dX8_sendSupplies_38 : decode cX8_sendSupplies 38 = .ok (.aload_n 0, 1) := by decide +kernel
theorem dX8_sendSupplies_39 : decode cX8_sendSupplies 39 = .ok (.iload_n 3, 1) := by decide +kernel
theorem dX8_sendSupplies_40 : decode cX8_sendSupplies 40 = .ok (.iconst 0, 1) := by decide +kernel
theorem dX8_sendSupplies_41 : decode cX8_sendSupplies 41 = .ok (.invokevirtual 541, 3) := by decide +kernel
theorem dX8_sendSupplies_44 : decode cX8_sendSupplies 44 = .ok (.ifCond .eq 27, 3) := by decide +kernel
theorem dX8_sendSupplies_47 : decode cX8_sendSupplies 47 = .ok (.aload_n 0, 1) := by decide +kernel
theorem dX8_sendSupplies_48 : decode cX8_sendSupplies 48 = .ok (.iconst (-1), 1) := by decide +kernel
theorem dX8_sendSupplies_49 : decode cX8_sendSupplies 49 = .ok (.aload_n 0, 1) := by decide +kernel
theorem dX8_sendSupplies_50 : decode cX8_sendSupplies 50 = .ok (.getfield 43, 3) := by decide +kernel
theorem dX8_sendSupplies_53 : decode cX8_sendSupplies 53 = .ok (.iload_n 1, 1) := by decide +kernel
theorem dX8_sendSupplies_54 : decode cX8_sendSupplies 54 = .ok (.iconst 1, 1) := by decide +kernel
theorem dX8_sendSupplies_55 : decode cX8_sendSupplies 55 = .ok (.invokevirtual 553, 3) := by decide +kernel
theorem dX8_sendSupplies_58 : decode cX8_sendSupplies 58 = .ok (.iload_n 3, 1) := by decide +kernel
theorem dX8_sendSupplies_59 : decode cX8_sendSupplies 59 = .ok (.iconst 0, 1) := by decide +kernel
theorem dX8_sendSupplies_60 : decode cX8_sendSupplies 60 = .ok (.invokevirtual 544, 3) := by decide +kernel
theorem dX8_sendSupplies_63 : decode cX8_sendSupplies 63 = .ok (.aload_n 0, 1) := by decide +kernel
theorem dX8_sendSupplies_64 : decode cX8_sendSupplies 64 = .ok (.getfield 43, 3) := by decide +kernel
theorem dX8_sendSupplies_67 : decode cX8_sendSupplies 67 = .ok (.iload_n 1, 1) := by decide +kernel
theorem dX8_sendSupplies_68 : decode cX8_sendSupplies 68 = .ok (.invokevirtual 554, 3) := by decide +kernel
theorem dX8_sendSupplies_71 : decode cX8_sendSupplies 71 = .ok (.aload_n 0, 1) := by decide +kernel
theorem dX8_sendSupplies_72 : decode cX8_sendSupplies 72 = .ok (.getfield 43, 3) := by decide +kernel
theorem dX8_sendSupplies_75 : decode cX8_sendSupplies 75 = .ok (.iload 4, 2) := by decide +kernel
theorem dX8_sendSupplies_77 : decode cX8_sendSupplies 77 = .ok (.invokevirtual 550, 3) := by decide +kernel
theorem dX8_sendSupplies_80 : decode cX8_sendSupplies 80 = .ok (.istore_n 1, 1) := by decide +kernel
theorem dX8_sendSupplies_81 : decode cX8_sendSupplies 81 = .ok (.iinc 2 1, 3) := by decide +kernel
theorem dX8_sendSupplies_84 : decode cX8_sendSupplies 84 = .ok (.goto (-73), 3) := by decide +kernel
theorem dX8_sendSupplies_87 : decode cX8_sendSupplies 87 = .ok (.return_, 1) := by decide +kernel
theorem dX8_canGo_0 : decode cX8_canGo 0 = .ok (.aload_n 0, 1) := by decide +kernel
theorem dX8_canGo_1 : decode cX8_canGo 1 = .ok (.getfield 26, 3) := by decide +kernel
theorem dX8_canGo_4 : decode cX8_canGo 4 = .ok (.iload_n 1, 1) := by decide +kernel
theorem dX8_canGo_5 : decode cX8_canGo 5 = .ok (.invokevirtual 433, 3) := by decide +kernel
theorem dX8_canGo_8 : decode cX8_canGo 8 = .ok (.ifCond .eq 47, 3) := by decide +kernel
theorem dX8_canGo_11 : decode cX8_canGo 11 = .ok (.aload_n 0, 1) := by decide +kernel
theorem dX8_canGo_12 : decode cX8_canGo 12 = .ok (.getfield 26, 3) := by decide +kernel
theorem dX8_canGo_15 : decode cX8_canGo 15 = .ok (.iload_n 1, 1) := by decide +kernel
theorem dX8_canGo_16 : decode cX8_canGo 16 = .ok (.iconst 0, 1) := by decide +kernel
theorem dX8_canGo_17 : decode cX8_canGo 17 = .ok (.invokevirtual 439, 3) := by decide +kernel
theorem dX8_canGo_20 : decode cX8_canGo 20 = .ok (.aload_n 0, 1) := by decide +kernel
theorem dX8_canGo_21 : decode cX8_canGo 21 = .ok (.getfield 70, 3) := by decide +kernel
theorem dX8_canGo_24 : decode cX8_canGo 24 = .ok (.if_icmp .gt 31, 3) := by decide +kernel
theorem dX8_canGo_27 : decode cX8_canGo 27 = .ok (.aload_n 0, 1) := by decide +kernel
theorem dX8_canGo_28 : decode cX8_canGo 28 = .ok (.getfield 10, 3) := by decide +kernel
theorem dX8_canGo_31 : decode cX8_canGo 31 = .ok (.iload_n 2, 1) := by decide +kernel
theorem dX8_canGo_32 : decode cX8_canGo 32 = .ok (.iconst 2, 1) := by decide +kernel
theorem dX8_canGo_33 : decode cX8_canGo 33 = .ok (.invokevirtual 290, 3) := by decide +kernel
theorem dX8_canGo_36 : decode cX8_canGo 36 = .ok (.ifCond .le 19, 3) := by decide +kernel
theorem dX8_canGo_39 : decode cX8_canGo 39 = .ok (.aload_n 0, 1) := by decide +kernel
theorem dX8_canGo_40 : decode cX8_canGo 40 = .ok (.getfield 36, 3) := by decide +kernel
theorem dX8_canGo_43 : decode cX8_canGo 43 = .ok (.invokevirtual 449, 3) := by decide +kernel
theorem dX8_canGo_46 : decode cX8_canGo 46 = .ok (.bipush 60, 2) := by decide +kernel
theorem dX8_canGo_48 : decode cX8_canGo 48 = .ok (.if_icmp .ge 7, 3) := by decide +kernel
theorem dX8_canGo_51 : decode cX8_canGo 51 = .ok (.iconst 1, 1) := by decide +kernel
theorem dX8_canGo_52 : decode cX8_canGo 52 = .ok (.goto 4, 3) := by decide +kernel
theorem dX8_canGo_55 : decode cX8_canGo 55 = .ok (.iconst 0, 1) := by decide +kernel
theorem dX8_canGo_56 : decode cX8_canGo 56 = .ok (.ireturn, 1) := by decide +kernel
theorem dX8_depart_0 : decode cX8_depart 0 = .ok (.aload_n 0, 1) := by decide +kernel
theorem dX8_depart_1 : decode cX8_depart 1 = .ok (.getfield 36, 3) := by decide +kernel
theorem dX8_depart_4 : decode cX8_depart 4 = .ok (.iload_n 1, 1) := by decide +kernel
theorem dX8_depart_5 : decode cX8_depart 5 = .ok (.iload_n 2, 1) := by decide +kernel
theorem dX8_depart_6 : decode cX8_depart 6 = .ok (.iload 4, 2) := by decide +kernel
theorem dX8_depart_8 : decode cX8_depart 8 = .ok (.invokevirtual 556, 3) := by decide +kernel
theorem dX8_depart_11 : decode cX8_depart 11 = .ok (.istore 5, 2) := by decide +kernel
theorem dX8_depart_13 : decode cX8_depart 13 = .ok (.aload_n 0, 1) := by decide +kernel
theorem dX8_depart_14 : decode cX8_depart 14 = .ok (.getfield 36, 3) := by decide +kernel
theorem dX8_depart_17 : decode cX8_depart 17 = .ok (.iload 5, 2) := by decide +kernel
theorem dX8_depart_19 : decode cX8_depart 19 = .ok (.bipush 14, 2) := by decide +kernel
theorem dX8_depart_21 : decode cX8_depart 21 = .ok (.iload_n 3, 1) := by decide +kernel
theorem dX8_depart_22 : decode cX8_depart 22 = .ok (.invokevirtual 531, 3) := by decide +kernel
theorem dX8_depart_25 : decode cX8_depart 25 = .ok (.aload_n 0, 1) := by decide +kernel
theorem dX8_depart_26 : decode cX8_depart 26 = .ok (.getfield 36, 3) := by decide +kernel
theorem dX8_depart_29 : decode cX8_depart 29 = .ok (.iload 5, 2) := by decide +kernel
theorem dX8_depart_31 : decode cX8_depart 31 = .ok (.bipush 9, 2) := by decide +kernel
theorem dX8_depart_33 : decode cX8_depart 33 = .ok (.aload_n 0, 1) := by decide +kernel
theorem dX8_depart_34 : decode cX8_depart 34 = .ok (.getfield 26, 3) := by decide +kernel
theorem dX8_depart_37 : decode cX8_depart 37 = .ok (.iload_n 3, 1) := by decide +kernel
theorem dX8_depart_38 : decode cX8_depart 38 = .ok (.iconst 3, 1) := by decide +kernel
theorem dX8_depart_39 : decode cX8_depart 39 = .ok (.invokevirtual 439, 3) := by decide +kernel
theorem dX8_depart_42 : decode cX8_depart 42 = .ok (.invokevirtual 531, 3) := by decide +kernel
theorem dX8_depart_45 : decode cX8_depart 45 = .ok (.aload_n 0, 1) := by decide +kernel
theorem dX8_depart_46 : decode cX8_depart 46 = .ok (.getfield 36, 3) := by decide +kernel
theorem dX8_depart_49 : decode cX8_depart 49 = .ok (.iload 5, 2) := by decide +kernel
theorem dX8_depart_51 : decode cX8_depart 51 = .ok (.bipush 10, 2) := by decide +kernel
theorem dX8_depart_53 : decode cX8_depart 53 = .ok (.aload_n 0, 1) := by decide +kernel
theorem dX8_depart_54 : decode cX8_depart 54 = .ok (.getfield 26, 3) := by decide +kernel
theorem dX8_depart_57 : decode cX8_depart 57 = .ok (.iload_n 3, 1) := by decide +kernel
theorem dX8_depart_58 : decode cX8_depart 58 = .ok (.iconst 2, 1) := by decide +kernel
theorem dX8_depart_59 : decode cX8_depart 59 = .ok (.invokevirtual 439, 3) := by decide +kernel
theorem dX8_depart_62 : decode cX8_depart 62 = .ok (.invokevirtual 531, 3) := by decide +kernel
theorem dX8_depart_65 : decode cX8_depart 65 = .ok (.aload_n 0, 1) := by decide +kernel
theorem dX8_depart_66 : decode cX8_depart 66 = .ok (.getfield 36, 3) := by decide +kernel
theorem dX8_depart_69 : decode cX8_depart 69 = .ok (.iload 5, 2) := by decide +kernel
theorem dX8_depart_71 : decode cX8_depart 71 = .ok (.bipush 13, 2) := by decide +kernel
theorem dX8_depart_73 : decode cX8_depart 73 = .ok (.aload_n 0, 1) := by decide +kernel
theorem dX8_depart_74 : decode cX8_depart 74 = .ok (.getfield 26, 3) := by decide +kernel
theorem dX8_depart_77 : decode cX8_depart 77 = .ok (.iload_n 3, 1) := by decide +kernel
theorem dX8_depart_78 : decode cX8_depart 78 = .ok (.iconst 4, 1) := by decide +kernel
theorem dX8_depart_79 : decode cX8_depart 79 = .ok (.invokevirtual 439, 3) := by decide +kernel
theorem dX8_depart_82 : decode cX8_depart 82 = .ok (.invokevirtual 531, 3) := by decide +kernel
theorem dX8_depart_85 : decode cX8_depart 85 = .ok (.aload_n 0, 1) := by decide +kernel
theorem dX8_depart_86 : decode cX8_depart 86 = .ok (.getfield 36, 3) := by decide +kernel
theorem dX8_depart_89 : decode cX8_depart 89 = .ok (.iload 5, 2) := by decide +kernel
theorem dX8_depart_91 : decode cX8_depart 91 = .ok (.bipush 7, 2) := by decide +kernel
theorem dX8_depart_93 : decode cX8_depart 93 = .ok (.aload_n 0, 1) := by decide +kernel
theorem dX8_depart_94 : decode cX8_depart 94 = .ok (.getfield 26, 3) := by decide +kernel
theorem dX8_depart_97 : decode cX8_depart 97 = .ok (.iload_n 3, 1) := by decide +kernel
theorem dX8_depart_98 : decode cX8_depart 98 = .ok (.invokevirtual 436, 3) := by decide +kernel
theorem dX8_depart_101 : decode cX8_depart 101 = .ok (.invokevirtual 531, 3) := by decide +kernel
theorem dX8_depart_104 : decode cX8_depart 104 = .ok (.aload_n 0, 1) := by decide +kernel
theorem dX8_depart_105 : decode cX8_depart 105 = .ok (.getfield 10, 3) := by decide +kernel
theorem dX8_depart_108 : decode cX8_depart 108 = .ok (.iload 4, 2) := by decide +kernel
theorem dX8_depart_110 : decode cX8_depart 110 = .ok (.iconst (-1), 1) := by decide +kernel
theorem dX8_depart_111 : decode cX8_depart 111 = .ok (.invokevirtual 528, 3) := by decide +kernel
theorem dX8_depart_114 : decode cX8_depart 114 = .ok (.return_, 1) := by decide +kernel
theorem dX8_finish_0 : decode cX8_finish 0 = .ok (.aload_n 0, 1) := by decide +kernel
theorem dX8_finish_1 : decode cX8_finish 1 = .ok (.getfield 36, 3) := by decide +kernel
theorem dX8_finish_4 : decode cX8_finish 4 = .ok (.iload_n 1, 1) := by decide +kernel
theorem dX8_finish_5 : decode cX8_finish 5 = .ok (.bipush 10, 2) := by decide +kernel
theorem dX8_finish_7 : decode cX8_finish 7 = .ok (.invokevirtual 280, 3) := by decide +kernel
theorem dX8_finish_10 : decode cX8_finish 10 = .ok (.istore_n 2, 1) := by decide +kernel
theorem dX8_finish_11 : decode cX8_finish 11 = .ok (.aload_n 0, 1) := by decide +kernel
theorem dX8_finish_12 : decode cX8_finish 12 = .ok (.getfield 36, 3) := by decide +kernel
theorem dX8_finish_15 : decode cX8_finish 15 = .ok (.iload_n 1, 1) := by decide +kernel
theorem dX8_finish_16 : decode cX8_finish 16 = .ok (.bipush 14, 2) := by decide +kernel
theorem dX8_finish_18 : decode cX8_finish 18 = .ok (.invokevirtual 280, 3) := by decide +kernel
theorem dX8_finish_21 : decode cX8_finish 21 = .ok (.istore_n 3, 1) := by decide +kernel
theorem dX8_finish_22 : decode cX8_finish 22 = .ok (.aload_n 0, 1) := by decide +kernel
theorem dX8_finish_23 : decode cX8_finish 23 = .ok (.getfield 36, 3) := by decide +kernel
theorem dX8_finish_26 : decode cX8_finish 26 = .ok (.iload_n 1, 1) := by decide +kernel
theorem dX8_finish_27 : decode cX8_finish 27 = .ok (.iconst 0, 1) := by decide +kernel
theorem dX8_finish_28 : decode cX8_finish 28 = .ok (.invokevirtual 280, 3) := by decide +kernel
theorem dX8_finish_31 : decode cX8_finish 31 = .ok (.istore 4, 2) := by decide +kernel
theorem dX8_finish_33 : decode cX8_finish 33 = .ok (.aload_n 0, 1) := by decide +kernel
theorem dX8_finish_34 : decode cX8_finish 34 = .ok (.getfield 26, 3) := by decide +kernel
theorem dX8_finish_37 : decode cX8_finish 37 = .ok (.iload_n 3, 1) := by decide +kernel
theorem dX8_finish_38 : decode cX8_finish 38 = .ok (.invokevirtual 480, 3) := by decide +kernel
theorem dX8_finish_41 : decode cX8_finish 41 = .ok (.pop, 1) := by decide +kernel
theorem dX8_finish_42 : decode cX8_finish 42 = .ok (.aload_n 0, 1) := by decide +kernel
theorem dX8_finish_43 : decode cX8_finish 43 = .ok (.getfield 50, 3) := by decide +kernel
theorem dX8_finish_46 : decode cX8_finish 46 = .ok (.iload_n 2, 1) := by decide +kernel
theorem dX8_finish_47 : decode cX8_finish 47 = .ok (.invokevirtual 559, 3) := by decide +kernel
theorem dX8_finish_50 : decode cX8_finish 50 = .ok (.iload 4, 2) := by decide +kernel
theorem dX8_finish_52 : decode cX8_finish 52 = .ok (.iconst (-1), 1) := by decide +kernel
theorem dX8_finish_53 : decode cX8_finish 53 = .ok (.if_icmp .ne 27, 3) := by decide +kernel
theorem dX8_finish_56 : decode cX8_finish 56 = .ok (.aload_n 0, 1) := by decide +kernel
theorem dX8_finish_57 : decode cX8_finish 57 = .ok (.getfield 50, 3) := by decide +kernel
theorem dX8_finish_60 : decode cX8_finish 60 = .ok (.iload_n 2, 1) := by decide +kernel
theorem dX8_finish_61 : decode cX8_finish 61 = .ok (.bipush 24, 2) := by decide +kernel
theorem dX8_finish_63 : decode cX8_finish 63 = .ok (.invokevirtual 562, 3) := by decide +kernel
theorem dX8_finish_66 : decode cX8_finish 66 = .ok (.aload_n 0, 1) := by decide +kernel
theorem dX8_finish_67 : decode cX8_finish 67 = .ok (.getfield 43, 3) := by decide +kernel
theorem dX8_finish_70 : decode cX8_finish 70 = .ok (.iload_n 3, 1) := by decide +kernel
theorem dX8_finish_71 : decode cX8_finish 71 = .ok (.invokestatic 565, 3) := by decide +kernel
theorem dX8_finish_74 : decode cX8_finish 74 = .ok (.invokevirtual 568, 3) := by decide +kernel
theorem dX8_finish_77 : decode cX8_finish 77 = .ok (.goto 25, 3) := by decide +kernel
theorem dX8_finish_80 : decode cX8_finish 80 = .ok (.aload_n 0, 1) := by decide +kernel
theorem dX8_finish_81 : decode cX8_finish 81 = .ok (.getfield 19, 3) := by decide +kernel
theorem dX8_finish_84 : decode cX8_finish 84 = .ok (.iload 4, 2) := by decide +kernel
theorem dX8_finish_86 : decode cX8_finish 86 = .ok (.iload_n 3, 1) := by decide +kernel
theorem dX8_finish_87 : decode cX8_finish 87 = .ok (.aload_n 0, 1) := by decide +kernel
theorem dX8_finish_88 : decode cX8_finish 88 = .ok (.getfield 50, 3) := by decide +kernel
theorem dX8_finish_91 : decode cX8_finish 91 = .ok (.iload_n 2, 1) := by decide +kernel
theorem dX8_finish_92 : decode cX8_finish 92 = .ok (.aload_n 0, 1) := by decide +kernel
theorem dX8_finish_93 : decode cX8_finish 93 = .ok (.getfield 70, 3) := by decide +kernel
theorem dX8_finish_96 : decode cX8_finish 96 = .ok (.invokevirtual 571, 3) := by decide +kernel
theorem dX8_finish_99 : decode cX8_finish 99 = .ok (.invokevirtual 574, 3) := by decide +kernel
theorem dX8_finish_102 : decode cX8_finish 102 = .ok (.aload_n 0, 1) := by decide +kernel
theorem dX8_finish_103 : decode cX8_finish 103 = .ok (.iload_n 1, 1) := by decide +kernel
theorem dX8_finish_104 : decode cX8_finish 104 = .ok (.invokevirtual 577, 3) := by decide +kernel
theorem dX8_finish_107 : decode cX8_finish 107 = .ok (.return_, 1) := by decide +kernel
theorem dX8_returnEngine_0 : decode cX8_returnEngine 0 = .ok (.aload_n 0, 1) := by decide +kernel
theorem dX8_returnEngine_1 : decode cX8_returnEngine 1 = .ok (.getfield 36, 3) := by decide +kernel
theorem dX8_returnEngine_4 : decode cX8_returnEngine 4 = .ok (.iload_n 1, 1) := by decide +kernel
theorem dX8_returnEngine_5 : decode cX8_returnEngine 5 = .ok (.bipush 12, 2) := by decide +kernel
theorem dX8_returnEngine_7 : decode cX8_returnEngine 7 = .ok (.invokevirtual 280, 3) := by decide +kernel
theorem dX8_returnEngine_10 : decode cX8_returnEngine 10 = .ok (.istore_n 2, 1) := by decide +kernel
theorem dX8_returnEngine_11 : decode cX8_returnEngine 11 = .ok (.aload_n 0, 1) := by decide +kernel
theorem dX8_returnEngine_12 : decode cX8_returnEngine 12 = .ok (.getfield 10, 3) := by decide +kernel
theorem dX8_returnEngine_15 : decode cX8_returnEngine 15 = .ok (.aload_n 0, 1) := by decide +kernel
theorem dX8_returnEngine_16 : decode cX8_returnEngine 16 = .ok (.getfield 36, 3) := by decide +kernel
theorem dX8_returnEngine_19 : decode cX8_returnEngine 19 = .ok (.iload_n 1, 1) := by decide +kernel
theorem dX8_returnEngine_20 : decode cX8_returnEngine 20 = .ok (.bipush 9, 2) := by decide +kernel
theorem dX8_returnEngine_22 : decode cX8_returnEngine 22 = .ok (.invokevirtual 280, 3) := by decide +kernel
theorem dX8_returnEngine_25 : decode cX8_returnEngine 25 = .ok (.iload_n 2, 1) := by decide +kernel
theorem dX8_returnEngine_26 : decode cX8_returnEngine 26 = .ok (.invokevirtual 142, 3) := by decide +kernel
theorem dX8_returnEngine_29 : decode cX8_returnEngine 29 = .ok (.istore_n 3, 1) := by decide +kernel
theorem dX8_returnEngine_30 : decode cX8_returnEngine 30 = .ok (.iload_n 3, 1) := by decide +kernel
theorem dX8_returnEngine_31 : decode cX8_returnEngine 31 = .ok (.ifCond .le 24, 3) := by decide +kernel
theorem dX8_returnEngine_34 : decode cX8_returnEngine 34 = .ok (.aload_n 0, 1) := by decide +kernel
theorem dX8_returnEngine_35 : decode cX8_returnEngine 35 = .ok (.getfield 36, 3) := by decide +kernel
theorem dX8_returnEngine_38 : decode cX8_returnEngine 38 = .ok (.iload_n 1, 1) := by decide +kernel
theorem dX8_returnEngine_39 : decode cX8_returnEngine 39 = .ok (.bipush 15, 2) := by decide +kernel
theorem dX8_returnEngine_41 : decode cX8_returnEngine 41 = .ok (.aload_n 0, 1) := by decide +kernel
theorem dX8_returnEngine_42 : decode cX8_returnEngine 42 = .ok (.getfield 70, 3) := by decide +kernel
theorem dX8_returnEngine_45 : decode cX8_returnEngine 45 = .ok (.iconst 2, 1) := by decide +kernel
theorem dX8_returnEngine_46 : decode cX8_returnEngine 46 = .ok (.iload_n 3, 1) := by decide +kernel
theorem dX8_returnEngine_47 : decode cX8_returnEngine 47 = .ok (.imul, 1) := by decide +kernel
theorem dX8_returnEngine_48 : decode cX8_returnEngine 48 = .ok (.iadd, 1) := by decide +kernel
theorem dX8_returnEngine_49 : decode cX8_returnEngine 49 = .ok (.invokevirtual 531, 3) := by decide +kernel
theorem dX8_returnEngine_52 : decode cX8_returnEngine 52 = .ok (.goto 12, 3) := by decide +kernel
theorem dX8_returnEngine_55 : decode cX8_returnEngine 55 = .ok (.aload_n 0, 1) := by decide +kernel
theorem dX8_returnEngine_56 : decode cX8_returnEngine 56 = .ok (.getfield 10, 3) := by decide +kernel
theorem dX8_returnEngine_59 : decode cX8_returnEngine 59 = .ok (.iload_n 2, 1) := by decide +kernel
theorem dX8_returnEngine_60 : decode cX8_returnEngine 60 = .ok (.iconst 1, 1) := by decide +kernel
theorem dX8_returnEngine_61 : decode cX8_returnEngine 61 = .ok (.invokevirtual 528, 3) := by decide +kernel
theorem dX8_returnEngine_64 : decode cX8_returnEngine 64 = .ok (.return_, 1) := by decide +kernel
theorem dX8_isWholeSound_0 : decode cX8_isWholeSound 0 = .ok (.aload_n 0, 1) := by decide +kernel
theorem dX8_isWholeSound_1 : decode cX8_isWholeSound 1 = .ok (.getfield 36, 3) := by decide +kernel
theorem dX8_isWholeSound_4 : decode cX8_isWholeSound 4 = .ok (.aload_n 0, 1) := by decide +kernel
theorem dX8_isWholeSound_5 : decode cX8_isWholeSound 5 = .ok (.getfield 10, 3) := by decide +kernel
theorem dX8_isWholeSound_8 : decode cX8_isWholeSound 8 = .ok (.invokevirtual 580, 3) := by decide +kernel
theorem dX8_isWholeSound_11 : decode cX8_isWholeSound 11 = .ok (.ifCond .eq 34, 3) := by decide +kernel
theorem dX8_isWholeSound_14 : decode cX8_isWholeSound 14 = .ok (.aload_n 0, 1) := by decide +kernel
theorem dX8_isWholeSound_15 : decode cX8_isWholeSound 15 = .ok (.invokevirtual 584, 3) := by decide +kernel
theorem dX8_isWholeSound_18 : decode cX8_isWholeSound 18 = .ok (.ifCond .eq 27, 3) := by decide +kernel
theorem dX8_isWholeSound_21 : decode cX8_isWholeSound 21 = .ok (.aload_n 0, 1) := by decide +kernel
theorem dX8_isWholeSound_22 : decode cX8_isWholeSound 22 = .ok (.getfield 26, 3) := by decide +kernel
theorem dX8_isWholeSound_25 : decode cX8_isWholeSound 25 = .ok (.invokevirtual 587, 3) := by decide +kernel
theorem dX8_isWholeSound_28 : decode cX8_isWholeSound 28 = .ok (.ifCond .eq 17, 3) := by decide +kernel
theorem dX8_isWholeSound_31 : decode cX8_isWholeSound 31 = .ok (.aload_n 0, 1) := by decide +kernel
theorem dX8_isWholeSound_32 : decode cX8_isWholeSound 32 = .ok (.getfield 19, 3) := by decide +kernel
theorem dX8_isWholeSound_35 : decode cX8_isWholeSound 35 = .ok (.invokevirtual 589, 3) := by decide +kernel
theorem dX8_isWholeSound_38 : decode cX8_isWholeSound 38 = .ok (.ifCond .eq 7, 3) := by decide +kernel
theorem dX8_isWholeSound_41 : decode cX8_isWholeSound 41 = .ok (.iconst 1, 1) := by decide +kernel
theorem dX8_isWholeSound_42 : decode cX8_isWholeSound 42 = .ok (.goto 4, 3) := by decide +kernel
theorem dX8_isWholeSound_45 : decode cX8_isWholeSound 45 = .ok (.iconst 0, 1) := by decide +kernel
theorem dX8_isWholeSound_46 : decode cX8_isWholeSound 46 = .ok (.ireturn, 1) := by decide +kernel
theorem dX8_areStationsSound_0 : decode cX8_areStationsSound 0 = .ok (.iconst 0, 1) := by decide +kernel
theorem dX8_areStationsSound_1 : decode cX8_areStationsSound 1 = .ok (.istore_n 1, 1) := by decide +kernel
theorem dX8_areStationsSound_2 : decode cX8_areStationsSound 2 = .ok (.iload_n 1, 1) := by decide +kernel
theorem dX8_areStationsSound_3 : decode cX8_areStationsSound 3 = .ok (.aload_n 0, 1) := by decide +kernel
theorem dX8_areStationsSound_4 : decode cX8_areStationsSound 4 = .ok (.getfield 10, 3) := by decide +kernel
theorem dX8_areStationsSound_7 : decode cX8_areStationsSound 7 = .ok (.invokevirtual 88, 3) := by decide +kernel
theorem dX8_areStationsSound_10 : decode cX8_areStationsSound 10 = .ok (.if_icmp .ge 57, 3) := by decide +kernel
theorem dX8_areStationsSound_13 : decode cX8_areStationsSound 13 = .ok (.aload_n 0, 1) := by decide +kernel
theorem dX8_areStationsSound_14 : decode cX8_areStationsSound 14 = .ok (.getfield 10, 3) := by decide +kernel
theorem dX8_areStationsSound_17 : decode cX8_areStationsSound 17 = .ok (.iload_n 1, 1) := by decide +kernel
theorem dX8_areStationsSound_18 : decode cX8_areStationsSound 18 = .ok (.iconst 0, 1) := by decide +kernel
theorem dX8_areStationsSound_19 : decode cX8_areStationsSound 19 = .ok (.invokevirtual 290, 3) := by decide +kernel
theorem dX8_areStationsSound_22 : decode cX8_areStationsSound 22 = .ok (.istore_n 2, 1) := by decide +kernel
theorem dX8_areStationsSound_23 : decode cX8_areStationsSound 23 = .ok (.iload_n 2, 1) := by decide +kernel
theorem dX8_areStationsSound_24 : decode cX8_areStationsSound 24 = .ok (.aload_n 0, 1) := by decide +kernel
theorem dX8_areStationsSound_25 : decode cX8_areStationsSound 25 = .ok (.getfield 10, 3) := by decide +kernel
theorem dX8_areStationsSound_28 : decode cX8_areStationsSound 28 = .ok (.iload_n 1, 1) := by decide +kernel
theorem dX8_areStationsSound_29 : decode cX8_areStationsSound 29 = .ok (.iconst 1, 1) := by decide +kernel
theorem dX8_areStationsSound_30 : decode cX8_areStationsSound 30 = .ok (.invokevirtual 290, 3) := by decide +kernel
theorem dX8_areStationsSound_33 : decode cX8_areStationsSound 33 = .ok (.iadd, 1) := by decide +kernel
theorem dX8_areStationsSound_34 : decode cX8_areStationsSound 34 = .ok (.istore_n 3, 1) := by decide +kernel
theorem dX8_areStationsSound_35 : decode cX8_areStationsSound 35 = .ok (.aload_n 0, 1) := by decide +kernel
theorem dX8_areStationsSound_36 : decode cX8_areStationsSound 36 = .ok (.getfield 36, 3) := by decide +kernel
theorem dX8_areStationsSound_39 : decode cX8_areStationsSound 39 = .ok (.iload_n 1, 1) := by decide +kernel
theorem dX8_areStationsSound_40 : decode cX8_areStationsSound 40 = .ok (.invokevirtual 592, 3) := by decide +kernel
theorem dX8_areStationsSound_43 : decode cX8_areStationsSound 43 = .ok (.iload_n 3, 1) := by decide +kernel
theorem dX8_areStationsSound_44 : decode cX8_areStationsSound 44 = .ok (.if_icmp .gt 15, 3) := by decide +kernel
theorem dX8_areStationsSound_47 : decode cX8_areStationsSound 47 = .ok (.aload_n 0, 1) := by decide +kernel
theorem dX8_areStationsSound_48 : decode cX8_areStationsSound 48 = .ok (.getfield 36, 3) := by decide +kernel
theorem dX8_areStationsSound_51 : decode cX8_areStationsSound 51 = .ok (.iload_n 1, 1) := by decide +kernel
theorem dX8_areStationsSound_52 : decode cX8_areStationsSound 52 = .ok (.invokevirtual 422, 3) := by decide +kernel
theorem dX8_areStationsSound_55 : decode cX8_areStationsSound 55 = .ok (.iload_n 2, 1) := by decide +kernel
theorem dX8_areStationsSound_56 : decode cX8_areStationsSound 56 = .ok (.if_icmp .le 5, 3) := by decide +kernel
theorem dX8_areStationsSound_59 : decode cX8_areStationsSound 59 = .ok (.iconst 0, 1) := by decide +kernel
theorem dX8_areStationsSound_60 : decode cX8_areStationsSound 60 = .ok (.ireturn, 1) := by decide +kernel
theorem dX8_areStationsSound_61 : decode cX8_areStationsSound 61 = .ok (.iinc 1 1, 3) := by decide +kernel
theorem dX8_areStationsSound_64 : decode cX8_areStationsSound 64 = .ok (.goto (-62), 3) := by decide +kernel
theorem dX8_areStationsSound_67 : decode cX8_areStationsSound 67 = .ok (.iconst 1, 1) := by decide +kernel
theorem dX8_areStationsSound_68 : decode cX8_areStationsSound 68 = .ok (.ireturn, 1) := by decide +kernel
theorem dX8_digestLand_0 : decode cX8_digestLand 0 = .ok (.lload_n 1, 1) := by decide +kernel
theorem dX8_digestLand_1 : decode cX8_digestLand 1 = .ok (.lstore_n 3, 1) := by decide +kernel
theorem dX8_digestLand_2 : decode cX8_digestLand 2 = .ok (.iconst 0, 1) := by decide +kernel
theorem dX8_digestLand_3 : decode cX8_digestLand 3 = .ok (.istore 5, 2) := by decide +kernel
theorem dX8_digestLand_5 : decode cX8_digestLand 5 = .ok (.iload 5, 2) := by decide +kernel
theorem dX8_digestLand_7 : decode cX8_digestLand 7 = .ok (.aload_n 0, 1) := by decide +kernel
theorem dX8_digestLand_8 : decode cX8_digestLand 8 = .ok (.getfield 10, 3) := by decide +kernel
theorem dX8_digestLand_11 : decode cX8_digestLand 11 = .ok (.invokevirtual 88, 3) := by decide +kernel
theorem dX8_digestLand_14 : decode cX8_digestLand 14 = .ok (.if_icmp .ge 40, 3) := by decide +kernel
theorem dX8_digestLand_17 : decode cX8_digestLand 17 = .ok (.iconst 0, 1) := by decide +kernel
theorem dX8_digestLand_18 : decode cX8_digestLand 18 = .ok (.istore 6, 2) := by decide +kernel
theorem dX8_digestLand_20 : decode cX8_digestLand 20 = .ok (.iload 6, 2) := by decide +kernel
theorem dX8_digestLand_22 : decode cX8_digestLand 22 = .ok (.iconst 5, 1) := by decide +kernel
theorem dX8_digestLand_23 : decode cX8_digestLand 23 = .ok (.if_icmp .gt 25, 3) := by decide +kernel
theorem dX8_digestLand_26 : decode cX8_digestLand 26 = .ok (.lload_n 3, 1) := by decide +kernel
theorem dX8_digestLand_27 : decode cX8_digestLand 27 = .ok (.ldc2_w 404, 3) := by decide +kernel
theorem dX8_digestLand_30 : decode cX8_digestLand 30 = .ok (.lmul, 1) := by decide +kernel
theorem dX8_digestLand_31 : decode cX8_digestLand 31 = .ok (.aload_n 0, 1) := by decide +kernel
theorem dX8_digestLand_32 : decode cX8_digestLand 32 = .ok (.iload 5, 2) := by decide +kernel
theorem dX8_digestLand_34 : decode cX8_digestLand 34 = .ok (.iload 6, 2) := by decide +kernel
theorem dX8_digestLand_36 : decode cX8_digestLand 36 = .ok (.invokevirtual 154, 3) := by decide +kernel
theorem dX8_digestLand_39 : decode cX8_digestLand 39 = .ok (.i2l, 1) := by decide +kernel
theorem dX8_digestLand_40 : decode cX8_digestLand 40 = .ok (.ladd, 1) := by decide +kernel
theorem dX8_digestLand_41 : decode cX8_digestLand 41 = .ok (.lstore_n 3, 1) := by decide +kernel
theorem dX8_digestLand_42 : decode cX8_digestLand 42 = .ok (.iinc 6 1, 3) := by decide +kernel
theorem dX8_digestLand_45 : decode cX8_digestLand 45 = .ok (.goto (-25), 3) := by decide +kernel
theorem dX8_digestLand_48 : decode cX8_digestLand 48 = .ok (.iinc 5 1, 3) := by decide +kernel
theorem dX8_digestLand_51 : decode cX8_digestLand 51 = .ok (.goto (-46), 3) := by decide +kernel
theorem dX8_digestLand_54 : decode cX8_digestLand 54 = .ok (.iconst 0, 1) := by decide +kernel
theorem dX8_digestLand_55 : decode cX8_digestLand 55 = .ok (.istore 5, 2) := by decide +kernel
theorem dX8_digestLand_57 : decode cX8_digestLand 57 = .ok (.iload 5, 2) := by decide +kernel
theorem dX8_digestLand_59 : decode cX8_digestLand 59 = .ok (.aload_n 0, 1) := by decide +kernel
theorem dX8_digestLand_60 : decode cX8_digestLand 60 = .ok (.getfield 10, 3) := by decide +kernel
theorem dX8_digestLand_63 : decode cX8_digestLand 63 = .ok (.invokevirtual 118, 3) := by decide +kernel
theorem dX8_digestLand_66 : decode cX8_digestLand 66 = .ok (.if_icmp .ge 41, 3) := by decide +kernel
theorem dX8_digestLand_69 : decode cX8_digestLand 69 = .ok (.iconst 0, 1) := by decide +kernel
theorem dX8_digestLand_70 : decode cX8_digestLand 70 = .ok (.istore 6, 2) := by decide +kernel
theorem dX8_digestLand_72 : decode cX8_digestLand 72 = .ok (.iload 6, 2) := by decide +kernel
theorem dX8_digestLand_74 : decode cX8_digestLand 74 = .ok (.bipush 6, 2) := by decide +kernel
theorem dX8_digestLand_76 : decode cX8_digestLand 76 = .ok (.if_icmp .gt 25, 3) := by decide +kernel
theorem dX8_digestLand_79 : decode cX8_digestLand 79 = .ok (.lload_n 3, 1) := by decide +kernel
theorem dX8_digestLand_80 : decode cX8_digestLand 80 = .ok (.ldc2_w 404, 3) := by decide +kernel
theorem dX8_digestLand_83 : decode cX8_digestLand 83 = .ok (.lmul, 1) := by decide +kernel
theorem dX8_digestLand_84 : decode cX8_digestLand 84 = .ok (.aload_n 0, 1) := by decide +kernel
theorem dX8_digestLand_85 : decode cX8_digestLand 85 = .ok (.iload 5, 2) := by decide +kernel
theorem dX8_digestLand_87 : decode cX8_digestLand 87 = .ok (.iload 6, 2) := by decide +kernel
theorem dX8_digestLand_89 : decode cX8_digestLand 89 = .ok (.invokevirtual 159, 3) := by decide +kernel
theorem dX8_digestLand_92 : decode cX8_digestLand 92 = .ok (.i2l, 1) := by decide +kernel
theorem dX8_digestLand_93 : decode cX8_digestLand 93 = .ok (.ladd, 1) := by decide +kernel
theorem dX8_digestLand_94 : decode cX8_digestLand 94 = .ok (.lstore_n 3, 1) := by decide +kernel
theorem dX8_digestLand_95 : decode cX8_digestLand 95 = .ok (.iinc 6 1, 3) := by decide +kernel
theorem dX8_digestLand_98 : decode cX8_digestLand 98 = .ok (.goto (-26), 3) := by decide +kernel
theorem dX8_digestLand_101 : decode cX8_digestLand 101 = .ok (.iinc 5 1, 3) := by decide +kernel
theorem dX8_digestLand_104 : decode cX8_digestLand 104 = .ok (.goto (-47), 3) := by decide +kernel
theorem dX8_digestLand_107 : decode cX8_digestLand 107 = .ok (.lload_n 3, 1) := by decide +kernel
theorem dX8_digestLand_108 : decode cX8_digestLand 108 = .ok (.lreturn, 1) := by decide +kernel
theorem dX8_digestUnits_0 : decode cX8_digestUnits 0 = .ok (.lload_n 1, 1) := by decide +kernel
theorem dX8_digestUnits_1 : decode cX8_digestUnits 1 = .ok (.lstore_n 3, 1) := by decide +kernel
theorem dX8_digestUnits_2 : decode cX8_digestUnits 2 = .ok (.iconst 0, 1) := by decide +kernel
theorem dX8_digestUnits_3 : decode cX8_digestUnits 3 = .ok (.istore 5, 2) := by decide +kernel
theorem dX8_digestUnits_5 : decode cX8_digestUnits 5 = .ok (.iload 5, 2) := by decide +kernel
theorem dX8_digestUnits_7 : decode cX8_digestUnits 7 = .ok (.aload_n 0, 1) := by decide +kernel
theorem dX8_digestUnits_8 : decode cX8_digestUnits 8 = .ok (.getfield 19, 3) := by decide +kernel
theorem dX8_digestUnits_11 : decode cX8_digestUnits 11 = .ok (.invokevirtual 171, 3) := by decide +kernel
theorem dX8_digestUnits_14 : decode cX8_digestUnits 14 = .ok (.if_icmp .ge 101, 3) := by decide +kernel
theorem dX8_digestUnits_17 : decode cX8_digestUnits 17 = .ok (.iconst 0, 1) := by decide +kernel
theorem dX8_digestUnits_18 : decode cX8_digestUnits 18 = .ok (.istore 6, 2) := by decide +kernel
theorem dX8_digestUnits_20 : decode cX8_digestUnits 20 = .ok (.iload 6, 2) := by decide +kernel
theorem dX8_digestUnits_22 : decode cX8_digestUnits 22 = .ok (.bipush 12, 2) := by decide +kernel
theorem dX8_digestUnits_24 : decode cX8_digestUnits 24 = .ok (.if_icmp .gt 25, 3) := by decide +kernel
theorem dX8_digestUnits_27 : decode cX8_digestUnits 27 = .ok (.lload_n 3, 1) := by decide +kernel
theorem dX8_digestUnits_28 : decode cX8_digestUnits 28 = .ok (.ldc2_w 404, 3) := by decide +kernel
theorem dX8_digestUnits_31 : decode cX8_digestUnits 31 = .ok (.lmul, 1) := by decide +kernel
theorem dX8_digestUnits_32 : decode cX8_digestUnits 32 = .ok (.aload_n 0, 1) := by decide +kernel
theorem dX8_digestUnits_33 : decode cX8_digestUnits 33 = .ok (.iload 5, 2) := by decide +kernel
theorem dX8_digestUnits_35 : decode cX8_digestUnits 35 = .ok (.iload 6, 2) := by decide +kernel
theorem dX8_digestUnits_37 : decode cX8_digestUnits 37 = .ok (.invokevirtual 217, 3) := by decide +kernel
theorem dX8_digestUnits_40 : decode cX8_digestUnits 40 = .ok (.i2l, 1) := by decide +kernel
theorem dX8_digestUnits_41 : decode cX8_digestUnits 41 = .ok (.ladd, 1) := by decide +kernel
theorem dX8_digestUnits_42 : decode cX8_digestUnits 42 = .ok (.lstore_n 3, 1) := by decide +kernel
theorem dX8_digestUnits_43 : decode cX8_digestUnits 43 = .ok (.iinc 6 1, 3) := by decide +kernel
theorem dX8_digestUnits_46 : decode cX8_digestUnits 46 = .ok (.goto (-26), 3) := by decide +kernel
theorem dX8_digestUnits_49 : decode cX8_digestUnits 49 = .ok (.iconst 0, 1) := by decide +kernel
theorem dX8_digestUnits_50 : decode cX8_digestUnits 50 = .ok (.istore 6, 2) := by decide +kernel
theorem dX8_digestUnits_52 : decode cX8_digestUnits 52 = .ok (.iload 6, 2) := by decide +kernel
theorem dX8_digestUnits_54 : decode cX8_digestUnits 54 = .ok (.aload_n 0, 1) := by decide +kernel
theorem dX8_digestUnits_55 : decode cX8_digestUnits 55 = .ok (.getfield 19, 3) := by decide +kernel
theorem dX8_digestUnits_58 : decode cX8_digestUnits 58 = .ok (.iload 5, 2) := by decide +kernel
theorem dX8_digestUnits_60 : decode cX8_digestUnits 60 = .ok (.iconst 1, 1) := by decide +kernel
theorem dX8_digestUnits_61 : decode cX8_digestUnits 61 = .ok (.invokevirtual 200, 3) := by decide +kernel
theorem dX8_digestUnits_64 : decode cX8_digestUnits 64 = .ok (.if_icmp .ge 45, 3) := by decide +kernel
theorem dX8_digestUnits_67 : decode cX8_digestUnits 67 = .ok (.iconst 0, 1) := by decide +kernel
theorem dX8_digestUnits_68 : decode cX8_digestUnits 68 = .ok (.istore 7, 2) := by decide +kernel
theorem dX8_digestUnits_70 : decode cX8_digestUnits 70 = .ok (.iload 7, 2) := by decide +kernel
theorem dX8_digestUnits_72 : decode cX8_digestUnits 72 = .ok (.iconst 2, 1) := by decide +kernel
theorem dX8_digestUnits_73 : decode cX8_digestUnits 73 = .ok (.if_icmp .gt 30, 3) := by decide +kernel
theorem dX8_digestUnits_76 : decode cX8_digestUnits 76 = .ok (.lload_n 3, 1) := by decide +kernel
theorem dX8_digestUnits_77 : decode cX8_digestUnits 77 = .ok (.ldc2_w 404, 3) := by decide +kernel
theorem dX8_digestUnits_80 : decode cX8_digestUnits 80 = .ok (.lmul, 1) := by decide +kernel
theorem dX8_digestUnits_81 : decode cX8_digestUnits 81 = .ok (.aload_n 0, 1) := by decide +kernel
theorem dX8_digestUnits_82 : decode cX8_digestUnits 82 = .ok (.iload 5, 2) := by decide +kernel
theorem dX8_digestUnits_84 : decode cX8_digestUnits 84 = .ok (.iload 6, 2) := by decide +kernel
theorem dX8_digestUnits_86 : decode cX8_digestUnits 86 = .ok (.invokestatic 249, 3) := by decide +kernel
theorem dX8_digestUnits_89 : decode cX8_digestUnits 89 = .ok (.iload 7, 2) := by decide +kernel
theorem dX8_digestUnits_91 : decode cX8_digestUnits 91 = .ok (.invokevirtual 252, 3) := by decide +kernel
theorem dX8_digestUnits_94 : decode cX8_digestUnits 94 = .ok (.i2l, 1) := by decide +kernel
theorem dX8_digestUnits_95 : decode cX8_digestUnits 95 = .ok (.ladd, 1) := by decide +kernel
theorem dX8_digestUnits_96 : decode cX8_digestUnits 96 = .ok (.lstore_n 3, 1) := by decide +kernel
theorem dX8_digestUnits_97 : decode cX8_digestUnits 97 = .ok (.iinc 7 1, 3) := by decide +kernel
theorem dX8_digestUnits_100 : decode cX8_digestUnits 100 = .ok (.goto (-30), 3) := by decide +kernel
theorem dX8_digestUnits_103 : decode cX8_digestUnits 103 = .ok (.iinc 6 1, 3) := by decide +kernel
theorem dX8_digestUnits_106 : decode cX8_digestUnits 106 = .ok (.goto (-54), 3) := by decide +kernel
theorem dX8_digestUnits_109 : decode cX8_digestUnits 109 = .ok (.iinc 5 1, 3) := by decide +kernel
theorem dX8_digestUnits_112 : decode cX8_digestUnits 112 = .ok (.goto (-107), 3) := by decide +kernel
theorem dX8_digestUnits_115 : decode cX8_digestUnits 115 = .ok (.lload_n 3, 1) := by decide +kernel
theorem dX8_digestUnits_116 : decode cX8_digestUnits 116 = .ok (.lreturn, 1) := by decide +kernel
theorem dX8_digestTrains_0 : decode cX8_digestTrains 0 = .ok (.lload_n 1, 1) := by decide +kernel
theorem dX8_digestTrains_1 : decode cX8_digestTrains 1 = .ok (.lstore_n 3, 1) := by decide +kernel
theorem dX8_digestTrains_2 : decode cX8_digestTrains 2 = .ok (.iconst 0, 1) := by decide +kernel
theorem dX8_digestTrains_3 : decode cX8_digestTrains 3 = .ok (.istore 5, 2) := by decide +kernel
theorem dX8_digestTrains_5 : decode cX8_digestTrains 5 = .ok (.iload 5, 2) := by decide +kernel
theorem dX8_digestTrains_7 : decode cX8_digestTrains 7 = .ok (.aload_n 0, 1) := by decide +kernel
theorem dX8_digestTrains_8 : decode cX8_digestTrains 8 = .ok (.getfield 36, 3) := by decide +kernel
theorem dX8_digestTrains_11 : decode cX8_digestTrains 11 = .ok (.invokevirtual 449, 3) := by decide +kernel
theorem dX8_digestTrains_14 : decode cX8_digestTrains 14 = .ok (.if_icmp .ge 62, 3) := by decide +kernel
theorem dX8_digestTrains_17 : decode cX8_digestTrains 17 = .ok (.iconst 0, 1) := by decide +kernel
theorem dX8_digestTrains_18 : decode cX8_digestTrains 18 = .ok (.istore 6, 2) := by decide +kernel
theorem dX8_digestTrains_20 : decode cX8_digestTrains 20 = .ok (.iload 6, 2) := by decide +kernel
theorem dX8_digestTrains_22 : decode cX8_digestTrains 22 = .ok (.bipush 9, 2) := by decide +kernel
theorem dX8_digestTrains_24 : decode cX8_digestTrains 24 = .ok (.if_icmp .gt 25, 3) := by decide +kernel
theorem dX8_digestTrains_27 : decode cX8_digestTrains 27 = .ok (.lload_n 3, 1) := by decide +kernel
theorem dX8_digestTrains_28 : decode cX8_digestTrains 28 = .ok (.ldc2_w 404, 3) := by decide +kernel
theorem dX8_digestTrains_31 : decode cX8_digestTrains 31 = .ok (.lmul, 1) := by decide +kernel
theorem dX8_digestTrains_32 : decode cX8_digestTrains 32 = .ok (.aload_n 0, 1) := by decide +kernel
theorem dX8_digestTrains_33 : decode cX8_digestTrains 33 = .ok (.iload 5, 2) := by decide +kernel
theorem dX8_digestTrains_35 : decode cX8_digestTrains 35 = .ok (.iload 6, 2) := by decide +kernel
theorem dX8_digestTrains_37 : decode cX8_digestTrains 37 = .ok (.invokevirtual 298, 3) := by decide +kernel
theorem dX8_digestTrains_40 : decode cX8_digestTrains 40 = .ok (.i2l, 1) := by decide +kernel
theorem dX8_digestTrains_41 : decode cX8_digestTrains 41 = .ok (.ladd, 1) := by decide +kernel
theorem dX8_digestTrains_42 : decode cX8_digestTrains 42 = .ok (.lstore_n 3, 1) := by decide +kernel
theorem dX8_digestTrains_43 : decode cX8_digestTrains 43 = .ok (.iinc 6 1, 3) := by decide +kernel
theorem dX8_digestTrains_46 : decode cX8_digestTrains 46 = .ok (.goto (-26), 3) := by decide +kernel
theorem dX8_digestTrains_49 : decode cX8_digestTrains 49 = .ok (.lload_n 3, 1) := by decide +kernel
theorem dX8_digestTrains_50 : decode cX8_digestTrains 50 = .ok (.ldc2_w 404, 3) := by decide +kernel
theorem dX8_digestTrains_53 : decode cX8_digestTrains 53 = .ok (.lmul, 1) := by decide +kernel
theorem dX8_digestTrains_54 : decode cX8_digestTrains 54 = .ok (.aload_n 0, 1) := by decide +kernel
theorem dX8_digestTrains_55 : decode cX8_digestTrains 55 = .ok (.getfield 36, 3) := by decide +kernel
theorem dX8_digestTrains_58 : decode cX8_digestTrains 58 = .ok (.iload 5, 2) := by decide +kernel
theorem dX8_digestTrains_60 : decode cX8_digestTrains 60 = .ok (.aload_n 0, 1) := by decide +kernel
theorem dX8_digestTrains_61 : decode cX8_digestTrains 61 = .ok (.getfield 10, 3) := by decide +kernel
theorem dX8_digestTrains_64 : decode cX8_digestTrains 64 = .ok (.invokevirtual 301, 3) := by decide +kernel
theorem dX8_digestTrains_67 : decode cX8_digestTrains 67 = .ok (.i2l, 1) := by decide +kernel
theorem dX8_digestTrains_68 : decode cX8_digestTrains 68 = .ok (.ladd, 1) := by decide +kernel
theorem dX8_digestTrains_69 : decode cX8_digestTrains 69 = .ok (.lstore_n 3, 1) := by decide +kernel
theorem dX8_digestTrains_70 : decode cX8_digestTrains 70 = .ok (.iinc 5 1, 3) := by decide +kernel
theorem dX8_digestTrains_73 : decode cX8_digestTrains 73 = .ok (.goto (-68), 3) := by decide +kernel
theorem dX8_digestTrains_76 : decode cX8_digestTrains 76 = .ok (.lload_n 3, 1) := by decide +kernel
theorem dX8_digestTrains_77 : decode cX8_digestTrains 77 = .ok (.lreturn, 1) := by decide +kernel
theorem dX8_digestSectors_0 : decode cX8_digestSectors 0 = .ok (.lload_n 1, 1) := by decide +kernel
theorem dX8_digestSectors_1 : decode cX8_digestSectors 1 = .ok (.lstore_n 3, 1) := by decide +kernel
theorem dX8_digestSectors_2 : decode cX8_digestSectors 2 = .ok (.iconst 0, 1) := by decide +kernel
theorem dX8_digestSectors_3 : decode cX8_digestSectors 3 = .ok (.istore 5, 2) := by decide +kernel
theorem dX8_digestSectors_5 : decode cX8_digestSectors 5 = .ok (.iload 5, 2) := by decide +kernel
theorem dX8_digestSectors_7 : decode cX8_digestSectors 7 = .ok (.iconst 3, 1) := by decide +kernel
theorem dX8_digestSectors_8 : decode cX8_digestSectors 8 = .ok (.if_icmp .ge 57, 3) := by decide +kernel
theorem dX8_digestSectors_11 : decode cX8_digestSectors 11 = .ok (.iconst 0, 1) := by decide +kernel
theorem dX8_digestSectors_12 : decode cX8_digestSectors 12 = .ok (.istore 6, 2) := by decide +kernel
theorem dX8_digestSectors_14 : decode cX8_digestSectors 14 = .ok (.iload 6, 2) := by decide +kernel
theorem dX8_digestSectors_16 : decode cX8_digestSectors 16 = .ok (.bipush 12, 2) := by decide +kernel
theorem dX8_digestSectors_18 : decode cX8_digestSectors 18 = .ok (.if_icmp .gt 25, 3) := by decide +kernel
theorem dX8_digestSectors_21 : decode cX8_digestSectors 21 = .ok (.lload_n 3, 1) := by decide +kernel
theorem dX8_digestSectors_22 : decode cX8_digestSectors 22 = .ok (.ldc2_w 404, 3) := by decide +kernel
theorem dX8_digestSectors_25 : decode cX8_digestSectors 25 = .ok (.lmul, 1) := by decide +kernel
theorem dX8_digestSectors_26 : decode cX8_digestSectors 26 = .ok (.aload_n 0, 1) := by decide +kernel
theorem dX8_digestSectors_27 : decode cX8_digestSectors 27 = .ok (.iload 5, 2) := by decide +kernel
theorem dX8_digestSectors_29 : decode cX8_digestSectors 29 = .ok (.iload 6, 2) := by decide +kernel
theorem dX8_digestSectors_31 : decode cX8_digestSectors 31 = .ok (.invokevirtual 347, 3) := by decide +kernel
theorem dX8_digestSectors_34 : decode cX8_digestSectors 34 = .ok (.i2l, 1) := by decide +kernel
theorem dX8_digestSectors_35 : decode cX8_digestSectors 35 = .ok (.ladd, 1) := by decide +kernel
theorem dX8_digestSectors_36 : decode cX8_digestSectors 36 = .ok (.lstore_n 3, 1) := by decide +kernel
theorem dX8_digestSectors_37 : decode cX8_digestSectors 37 = .ok (.iinc 6 1, 3) := by decide +kernel
theorem dX8_digestSectors_40 : decode cX8_digestSectors 40 = .ok (.goto (-26), 3) := by decide +kernel
theorem dX8_digestSectors_43 : decode cX8_digestSectors 43 = .ok (.lload_n 3, 1) := by decide +kernel
theorem dX8_digestSectors_44 : decode cX8_digestSectors 44 = .ok (.ldc2_w 404, 3) := by decide +kernel
theorem dX8_digestSectors_47 : decode cX8_digestSectors 47 = .ok (.lmul, 1) := by decide +kernel
theorem dX8_digestSectors_48 : decode cX8_digestSectors 48 = .ok (.aload_n 0, 1) := by decide +kernel
theorem dX8_digestSectors_49 : decode cX8_digestSectors 49 = .ok (.iload 5, 2) := by decide +kernel
theorem dX8_digestSectors_51 : decode cX8_digestSectors 51 = .ok (.bipush 13, 2) := by decide +kernel
theorem dX8_digestSectors_53 : decode cX8_digestSectors 53 = .ok (.invokevirtual 352, 3) := by decide +kernel
theorem dX8_digestSectors_56 : decode cX8_digestSectors 56 = .ok (.i2l, 1) := by decide +kernel
theorem dX8_digestSectors_57 : decode cX8_digestSectors 57 = .ok (.ladd, 1) := by decide +kernel
theorem dX8_digestSectors_58 : decode cX8_digestSectors 58 = .ok (.lstore_n 3, 1) := by decide +kernel
theorem dX8_digestSectors_59 : decode cX8_digestSectors 59 = .ok (.iinc 5 1, 3) := by decide +kernel
theorem dX8_digestSectors_62 : decode cX8_digestSectors 62 = .ok (.goto (-57), 3) := by decide +kernel
theorem dX8_digestSectors_65 : decode cX8_digestSectors 65 = .ok (.lload_n 3, 1) := by decide +kernel
theorem dX8_digestSectors_66 : decode cX8_digestSectors 66 = .ok (.lreturn, 1) := by decide +kernel
