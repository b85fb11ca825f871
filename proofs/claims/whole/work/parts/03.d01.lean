theorem dX3_coffeesGiven_2 : decode cX3_coffeesGiven 2 = .ok (.iconst 0, 1) := by decide +kernel
theorem dX3_coffeesGiven_3 : decode cX3_coffeesGiven 3 = .ok (.istore_n 2, 1) := by decide +kernel
theorem dX3_coffeesGiven_4 : decode cX3_coffeesGiven 4 = .ok (.iload_n 2, 1) := by decide +kernel
theorem dX3_coffeesGiven_5 : decode cX3_coffeesGiven 5 = .ok (.aload_n 0, 1) := by decide +kernel
theorem dX3_coffeesGiven_6 : decode cX3_coffeesGiven 6 = .ok (.getfield 27, 3) := by decide +kernel
theorem dX3_coffeesGiven_9 : decode cX3_coffeesGiven 9 = .ok (.if_icmp .ge 18, 3) := by decide +kernel
theorem dX3_coffeesGiven_12 : decode cX3_coffeesGiven 12 = .ok (.iload_n 1, 1) := by decide +kernel
theorem dX3_coffeesGiven_13 : decode cX3_coffeesGiven 13 = .ok (.aload_n 0, 1) := by decide +kernel
theorem dX3_coffeesGiven_14 : decode cX3_coffeesGiven 14 = .ok (.getfield 15, 3) := by decide +kernel
theorem dX3_coffeesGiven_17 : decode cX3_coffeesGiven 17 = .ok (.iload_n 2, 1) := by decide +kernel
theorem dX3_coffeesGiven_18 : decode cX3_coffeesGiven 18 = .ok (.iaload, 1) := by decide +kernel
theorem dX3_coffeesGiven_19 : decode cX3_coffeesGiven 19 = .ok (.iadd, 1) := by decide +kernel
theorem dX3_coffeesGiven_20 : decode cX3_coffeesGiven 20 = .ok (.istore_n 1, 1) := by decide +kernel
theorem dX3_coffeesGiven_21 : decode cX3_coffeesGiven 21 = .ok (.iinc 2 1, 3) := by decide +kernel
theorem dX3_coffeesGiven_24 : decode cX3_coffeesGiven 24 = .ok (.goto (-20), 3) := by decide +kernel
theorem dX3_coffeesGiven_27 : decode cX3_coffeesGiven 27 = .ok (.iload_n 1, 1) := by decide +kernel
theorem dX3_coffeesGiven_28 : decode cX3_coffeesGiven 28 = .ok (.ireturn, 1) := by decide +kernel
theorem dX3_takeOver_0 : decode cX3_takeOver 0 = .ok (.aload_n 1, 1) := by decide +kernel
theorem dX3_takeOver_1 : decode cX3_takeOver 1 = .ok (.getfield 9, 3) := by decide +kernel
theorem dX3_takeOver_4 : decode cX3_takeOver 4 = .ok (.iconst 0, 1) := by decide +kernel
theorem dX3_takeOver_5 : decode cX3_takeOver 5 = .ok (.aload_n 0, 1) := by decide +kernel
theorem dX3_takeOver_6 : decode cX3_takeOver 6 = .ok (.getfield 9, 3) := by decide +kernel
theorem dX3_takeOver_9 : decode cX3_takeOver 9 = .ok (.iconst 0, 1) := by decide +kernel
theorem dX3_takeOver_10 : decode cX3_takeOver 10 = .ok (.iconst 4, 1) := by decide +kernel
theorem dX3_takeOver_11 : decode cX3_takeOver 11 = .ok (.invokestatic 59, 3) := by decide +kernel
theorem dX3_takeOver_14 : decode cX3_takeOver 14 = .ok (.aload_n 1, 1) := by decide +kernel
theorem dX3_takeOver_15 : decode cX3_takeOver 15 = .ok (.getfield 15, 3) := by decide +kernel
theorem dX3_takeOver_18 : decode cX3_takeOver 18 = .ok (.iconst 0, 1) := by decide +kernel
theorem dX3_takeOver_19 : decode cX3_takeOver 19 = .ok (.aload_n 0, 1) := by decide +kernel
theorem dX3_takeOver_20 : decode cX3_takeOver 20 = .ok (.getfield 15, 3) := by decide +kernel
theorem dX3_takeOver_23 : decode cX3_takeOver 23 = .ok (.iconst 0, 1) := by decide +kernel
theorem dX3_takeOver_24 : decode cX3_takeOver 24 = .ok (.iconst 4, 1) := by decide +kernel
theorem dX3_takeOver_25 : decode cX3_takeOver 25 = .ok (.invokestatic 59, 3) := by decide +kernel
theorem dX3_takeOver_28 : decode cX3_takeOver 28 = .ok (.aload_n 1, 1) := by decide +kernel
theorem dX3_takeOver_29 : decode cX3_takeOver 29 = .ok (.getfield 18, 3) := by decide +kernel
theorem dX3_takeOver_32 : decode cX3_takeOver 32 = .ok (.iconst 0, 1) := by decide +kernel
theorem dX3_takeOver_33 : decode cX3_takeOver 33 = .ok (.aload_n 0, 1) := by decide +kernel
theorem dX3_takeOver_34 : decode cX3_takeOver 34 = .ok (.getfield 18, 3) := by decide +kernel
theorem dX3_takeOver_37 : decode cX3_takeOver 37 = .ok (.iconst 0, 1) := by decide +kernel
theorem dX3_takeOver_38 : decode cX3_takeOver 38 = .ok (.iconst 4, 1) := by decide +kernel
theorem dX3_takeOver_39 : decode cX3_takeOver 39 = .ok (.invokestatic 59, 3) := by decide +kernel
theorem dX3_takeOver_42 : decode cX3_takeOver 42 = .ok (.aload_n 1, 1) := by decide +kernel
theorem dX3_takeOver_43 : decode cX3_takeOver 43 = .ok (.getfield 21, 3) := by decide +kernel
theorem dX3_takeOver_46 : decode cX3_takeOver 46 = .ok (.iconst 0, 1) := by decide +kernel
theorem dX3_takeOver_47 : decode cX3_takeOver 47 = .ok (.aload_n 0, 1) := by decide +kernel
theorem dX3_takeOver_48 : decode cX3_takeOver 48 = .ok (.getfield 21, 3) := by decide +kernel
theorem dX3_takeOver_51 : decode cX3_takeOver 51 = .ok (.iconst 0, 1) := by decide +kernel
theorem dX3_takeOver_52 : decode cX3_takeOver 52 = .ok (.bipush 6, 2) := by decide +kernel
theorem dX3_takeOver_54 : decode cX3_takeOver 54 = .ok (.invokestatic 59, 3) := by decide +kernel
theorem dX3_takeOver_57 : decode cX3_takeOver 57 = .ok (.aload_n 1, 1) := by decide +kernel
theorem dX3_takeOver_58 : decode cX3_takeOver 58 = .ok (.getfield 24, 3) := by decide +kernel
theorem dX3_takeOver_61 : decode cX3_takeOver 61 = .ok (.iconst 0, 1) := by decide +kernel
theorem dX3_takeOver_62 : decode cX3_takeOver 62 = .ok (.aload_n 0, 1) := by decide +kernel
theorem dX3_takeOver_63 : decode cX3_takeOver 63 = .ok (.getfield 24, 3) := by decide +kernel
theorem dX3_takeOver_66 : decode cX3_takeOver 66 = .ok (.iconst 0, 1) := by decide +kernel
theorem dX3_takeOver_67 : decode cX3_takeOver 67 = .ok (.bipush 6, 2) := by decide +kernel
theorem dX3_takeOver_69 : decode cX3_takeOver 69 = .ok (.invokestatic 59, 3) := by decide +kernel
theorem dX3_takeOver_72 : decode cX3_takeOver 72 = .ok (.aload_n 0, 1) := by decide +kernel
theorem dX3_takeOver_73 : decode cX3_takeOver 73 = .ok (.aload_n 1, 1) := by decide +kernel
theorem dX3_takeOver_74 : decode cX3_takeOver 74 = .ok (.getfield 31, 3) := by decide +kernel
theorem dX3_takeOver_77 : decode cX3_takeOver 77 = .ok (.putfield 31, 3) := by decide +kernel
theorem dX3_takeOver_80 : decode cX3_takeOver 80 = .ok (.aload_n 0, 1) := by decide +kernel
theorem dX3_takeOver_81 : decode cX3_takeOver 81 = .ok (.aload_n 1, 1) := by decide +kernel
theorem dX3_takeOver_82 : decode cX3_takeOver 82 = .ok (.getfield 27, 3) := by decide +kernel
theorem dX3_takeOver_85 : decode cX3_takeOver 85 = .ok (.putfield 27, 3) := by decide +kernel
theorem dX3_takeOver_88 : decode cX3_takeOver 88 = .ok (.aload_n 0, 1) := by decide +kernel
theorem dX3_takeOver_89 : decode cX3_takeOver 89 = .ok (.aload_n 1, 1) := by decide +kernel
theorem dX3_takeOver_90 : decode cX3_takeOver 90 = .ok (.getfield 34, 3) := by decide +kernel
theorem dX3_takeOver_93 : decode cX3_takeOver 93 = .ok (.putfield 34, 3) := by decide +kernel
theorem dX3_takeOver_96 : decode cX3_takeOver 96 = .ok (.aload_n 0, 1) := by decide +kernel
theorem dX3_takeOver_97 : decode cX3_takeOver 97 = .ok (.aload_n 1, 1) := by decide +kernel
theorem dX3_takeOver_98 : decode cX3_takeOver 98 = .ok (.getfield 37, 3) := by decide +kernel
theorem dX3_takeOver_101 : decode cX3_takeOver 101 = .ok (.putfield 37, 3) := by decide +kernel
theorem dX3_takeOver_104 : decode cX3_takeOver 104 = .ok (.aload_n 0, 1) := by decide +kernel
theorem dX3_takeOver_105 : decode cX3_takeOver 105 = .ok (.aload_n 1, 1) := by decide +kernel
theorem dX3_takeOver_106 : decode cX3_takeOver 106 = .ok (.getfield 40, 3) := by decide +kernel
theorem dX3_takeOver_109 : decode cX3_takeOver 109 = .ok (.putfield 40, 3) := by decide +kernel
theorem dX3_takeOver_112 : decode cX3_takeOver 112 = .ok (.aload_n 0, 1) := by decide +kernel
theorem dX3_takeOver_113 : decode cX3_takeOver 113 = .ok (.aload_n 1, 1) := by decide +kernel
theorem dX3_takeOver_114 : decode cX3_takeOver 114 = .ok (.getfield 43, 3) := by decide +kernel
theorem dX3_takeOver_117 : decode cX3_takeOver 117 = .ok (.putfield 43, 3) := by decide +kernel
theorem dX3_takeOver_120 : decode cX3_takeOver 120 = .ok (.aload_n 0, 1) := by decide +kernel
theorem dX3_takeOver_121 : decode cX3_takeOver 121 = .ok (.aload_n 1, 1) := by decide +kernel
theorem dX3_takeOver_122 : decode cX3_takeOver 122 = .ok (.getfield 46, 3) := by decide +kernel
theorem dX3_takeOver_125 : decode cX3_takeOver 125 = .ok (.putfield 46, 3) := by decide +kernel
theorem dX3_takeOver_128 : decode cX3_takeOver 128 = .ok (.return_, 1) := by decide +kernel
theorem dX4_init_0 : decode cX4_init 0 = .ok (.aload_n 0, 1) := by decide +kernel
theorem dX4_init_1 : decode cX4_init 1 = .ok (.invokespecial 3, 3) := by decide +kernel
theorem dX4_init_4 : decode cX4_init 4 = .ok (.aload_n 0, 1) := by decide +kernel
theorem dX4_init_5 : decode cX4_init 5 = .ok (.bipush 10, 2) := by decide +kernel
theorem dX4_init_7 : decode cX4_init 7 = .ok (.newarray .int, 2) := by decide +kernel
theorem dX4_init_9 : decode cX4_init 9 = .ok (.putfield 9, 3) := by decide +kernel
theorem dX4_init_12 : decode cX4_init 12 = .ok (.aload_n 0, 1) := by decide +kernel
theorem dX4_init_13 : decode cX4_init 13 = .ok (.iconst 5, 1) := by decide +kernel
theorem dX4_init_14 : decode cX4_init 14 = .ok (.newarray .int, 2) := by decide +kernel
theorem dX4_init_16 : decode cX4_init 16 = .ok (.putfield 15, 3) := by decide +kernel
theorem dX4_init_19 : decode cX4_init 19 = .ok (.aload_n 0, 1) := by decide +kernel
theorem dX4_init_20 : decode cX4_init 20 = .ok (.aload_n 1, 1) := by decide +kernel
theorem dX4_init_21 : decode cX4_init 21 = .ok (.putfield 18, 3) := by decide +kernel
theorem dX4_init_24 : decode cX4_init 24 = .ok (.aload_n 0, 1) := by decide +kernel
theorem dX4_init_25 : decode cX4_init 25 = .ok (.aload_n 2, 1) := by decide +kernel
theorem dX4_init_26 : decode cX4_init 26 = .ok (.putfield 22, 3) := by decide +kernel
theorem dX4_init_29 : decode cX4_init 29 = .ok (.aload_n 0, 1) := by decide +kernel
theorem dX4_init_30 : decode cX4_init 30 = .ok (.aload_n 3, 1) := by decide +kernel
theorem dX4_init_31 : decode cX4_init 31 = .ok (.putfield 26, 3) := by decide +kernel
theorem dX4_init_34 : decode cX4_init 34 = .ok (.return_, 1) := by decide +kernel
theorem dX4_study_0 : decode cX4_study 0 = .ok (.aload_n 0, 1) := by decide +kernel
theorem dX4_study_1 : decode cX4_study 1 = .ok (.iconst 0, 1) := by decide +kernel
theorem dX4_study_2 : decode cX4_study 2 = .ok (.putfield 30, 3) := by decide +kernel
theorem dX4_study_5 : decode cX4_study 5 = .ok (.iconst 0, 1) := by decide +kernel
theorem dX4_study_6 : decode cX4_study 6 = .ok (.istore_n 2, 1) := by decide +kernel
theorem dX4_study_7 : decode cX4_study 7 = .ok (.iload_n 2, 1) := by decide +kernel
theorem dX4_study_8 : decode cX4_study 8 = .ok (.bipush 9, 2) := by decide +kernel
theorem dX4_study_10 : decode cX4_study 10 = .ok (.if_icmp .gt 59, 3) := by decide +kernel
theorem dX4_study_13 : decode cX4_study 13 = .ok (.aload_n 0, 1) := by decide +kernel
theorem dX4_study_14 : decode cX4_study 14 = .ok (.getfield 26, 3) := by decide +kernel
theorem dX4_study_17 : decode cX4_study 17 = .ok (.aload_n 0, 1) := by decide +kernel
theorem dX4_study_18 : decode cX4_study 18 = .ok (.getfield 22, 3) := by decide +kernel
theorem dX4_study_21 : decode cX4_study 21 = .ok (.getfield 34, 3) := by decide +kernel
theorem dX4_study_24 : decode cX4_study 24 = .ok (.iload_n 1, 1) := by decide +kernel
theorem dX4_study_25 : decode cX4_study 25 = .ok (.iload_n 2, 1) := by decide +kernel
theorem dX4_study_26 : decode cX4_study 26 = .ok (.invokestatic 39, 3) := by decide +kernel
theorem dX4_study_29 : decode cX4_study 29 = .ok (.invokevirtual 45, 3) := by decide +kernel
theorem dX4_study_32 : decode cX4_study 32 = .ok (.istore_n 3, 1) := by decide +kernel
theorem dX4_study_33 : decode cX4_study 33 = .ok (.aload_n 0, 1) := by decide +kernel
theorem dX4_study_34 : decode cX4_study 34 = .ok (.getfield 9, 3) := by decide +kernel
theorem dX4_study_37 : decode cX4_study 37 = .ok (.iload_n 2, 1) := by decide +kernel
theorem dX4_study_38 : decode cX4_study 38 = .ok (.iload_n 3, 1) := by decide +kernel
theorem dX4_study_39 : decode cX4_study 39 = .ok (.iastore, 1) := by decide +kernel
theorem dX4_study_40 : decode cX4_study 40 = .ok (.aload_n 0, 1) := by decide +kernel
theorem dX4_study_41 : decode cX4_study 41 = .ok (.getfield 22, 3) := by decide +kernel
theorem dX4_study_44 : decode cX4_study 44 = .ok (.iload_n 3, 1) := by decide +kernel
theorem dX4_study_45 : decode cX4_study 45 = .ok (.invokevirtual 51, 3) := by decide +kernel
theorem dX4_study_48 : decode cX4_study 48 = .ok (.ifCond .eq 15, 3) := by decide +kernel
theorem dX4_study_51 : decode cX4_study 51 = .ok (.aload_n 0, 1) := by decide +kernel
theorem dX4_study_52 : decode cX4_study 52 = .ok (.dup, 1) := by decide +kernel
theorem dX4_study_53 : decode cX4_study 53 = .ok (.getfield 30, 3) := by decide +kernel
theorem dX4_study_56 : decode cX4_study 56 = .ok (.iconst 1, 1) := by decide +kernel
theorem dX4_study_57 : decode cX4_study 57 = .ok (.iload_n 2, 1) := by decide +kernel
theorem dX4_study_58 : decode cX4_study 58 = .ok (.ishl, 1) := by decide +kernel
theorem dX4_study_59 : decode cX4_study 59 = .ok (.ior, 1) := by decide +kernel
theorem dX4_study_60 : decode cX4_study 60 = .ok (.putfield 30, 3) := by decide +kernel
theorem dX4_study_63 : decode cX4_study 63 = .ok (.iinc 2 1, 3) := by decide +kernel
theorem dX4_study_66 : decode cX4_study 66 = .ok (.goto (-59), 3) := by decide +kernel
theorem dX4_study_69 : decode cX4_study 69 = .ok (.return_, 1) := by decide +kernel
theorem dX4_bestBar_0 : decode cX4_bestBar 0 = .ok (.aload_n 0, 1) := by decide +kernel
theorem dX4_bestBar_1 : decode cX4_bestBar 1 = .ok (.getfield 30, 3) := by decide +kernel
theorem dX4_bestBar_4 : decode cX4_bestBar 4 = .ok (.ifCond .ne 5, 3) := by decide +kernel
theorem dX4_bestBar_7 : decode cX4_bestBar 7 = .ok (.iconst (-1), 1) := by decide +kernel
theorem dX4_bestBar_8 : decode cX4_bestBar 8 = .ok (.ireturn, 1) := by decide +kernel
theorem dX4_bestBar_9 : decode cX4_bestBar 9 = .ok (.iconst (-1), 1) := by decide +kernel
theorem dX4_bestBar_10 : decode cX4_bestBar 10 = .ok (.istore_n 1, 1) := by decide +kernel
theorem dX4_bestBar_11 : decode cX4_bestBar 11 = .ok (.bipush 11, 2) := by decide +kernel
theorem dX4_bestBar_13 : decode cX4_bestBar 13 = .ok (.istore_n 2, 1) := by decide +kernel
theorem dX4_bestBar_14 : decode cX4_bestBar 14 = .ok (.iconst 0, 1) := by decide +kernel
theorem dX4_bestBar_15 : decode cX4_bestBar 15 = .ok (.istore_n 3, 1) := by decide +kernel
theorem dX4_bestBar_16 : decode cX4_bestBar 16 = .ok (.iload_n 3, 1) := by decide +kernel
theorem dX4_bestBar_17 : decode cX4_bestBar 17 = .ok (.aload_n 0, 1) := by decide +kernel
theorem dX4_bestBar_18 : decode cX4_bestBar 18 = .ok (.getfield 18, 3) := by decide +kernel
theorem dX4_bestBar_21 : decode cX4_bestBar 21 = .ok (.getfield 55, 3) := by decide +kernel
theorem dX4_bestBar_24 : decode cX4_bestBar 24 = .ok (.if_icmp .ge 27, 3) := by decide +kernel
theorem dX4_bestBar_27 : decode cX4_bestBar 27 = .ok (.aload_n 0, 1) := by decide +kernel
theorem dX4_bestBar_28 : decode cX4_bestBar 28 = .ok (.iload_n 3, 1) := by decide +kernel
theorem dX4_bestBar_29 : decode cX4_bestBar 29 = .ok (.invokevirtual 60, 3) := by decide +kernel
theorem dX4_bestBar_32 : decode cX4_bestBar 32 = .ok (.istore 4, 2) := by decide +kernel
theorem dX4_bestBar_34 : decode cX4_bestBar 34 = .ok (.iload 4, 2) := by decide +kernel
theorem dX4_bestBar_36 : decode cX4_bestBar 36 = .ok (.iload_n 2, 1) := by decide +kernel
theorem dX4_bestBar_37 : decode cX4_bestBar 37 = .ok (.if_icmp .ge 8, 3) := by decide +kernel
theorem dX4_bestBar_40 : decode cX4_bestBar 40 = .ok (.iload_n 3, 1) := by decide +kernel
theorem dX4_bestBar_41 : decode cX4_bestBar 41 = .ok (.istore_n 1, 1) := by decide +kernel
theorem dX4_bestBar_42 : decode cX4_bestBar 42 = .ok (.iload 4, 2) := by decide +kernel
theorem dX4_bestBar_44 : decode cX4_bestBar 44 = .ok (.istore_n 2, 1) := by decide +kernel
theorem dX4_bestBar_45 : decode cX4_bestBar 45 = .ok (.iinc 3 1, 3) := by decide +kernel
theorem dX4_bestBar_48 : decode cX4_bestBar 48 = .ok (.goto (-32), 3) := by decide +kernel
theorem dX4_bestBar_51 : decode cX4_bestBar 51 = .ok (.iload_n 1, 1) := by decide +kernel
theorem dX4_bestBar_52 : decode cX4_bestBar 52 = .ok (.ireturn, 1) := by decide +kernel
theorem dX4_mostLeftBy_0 : decode cX4_mostLeftBy 0 = .ok (.iconst 0, 1) := by decide +kernel
theorem dX4_mostLeftBy_1 : decode cX4_mostLeftBy 1 = .ok (.istore_n 2, 1) := by decide +kernel
theorem dX4_mostLeftBy_2 : decode cX4_mostLeftBy 2 = .ok (.iconst 0, 1) := by decide +kernel
theorem dX4_mostLeftBy_3 : decode cX4_mostLeftBy 3 = .ok (.istore_n 3, 1) := by decide +kernel
theorem dX4_mostLeftBy_4 : decode cX4_mostLeftBy 4 = .ok (.iload_n 3, 1) := by decide +kernel
theorem dX4_mostLeftBy_5 : decode cX4_mostLeftBy 5 = .ok (.iconst 4, 1) := by decide +kernel
theorem dX4_mostLeftBy_6 : decode cX4_mostLeftBy 6 = .ok (.if_icmp .gt 16, 3) := by decide +kernel
theorem dX4_mostLeftBy_9 : decode cX4_mostLeftBy 9 = .ok (.aload_n 0, 1) := by decide +kernel
theorem dX4_mostLeftBy_10 : decode cX4_mostLeftBy 10 = .ok (.getfield 15, 3) := by decide +kernel
theorem dX4_mostLeftBy_13 : decode cX4_mostLeftBy 13 = .ok (.iload_n 3, 1) := by decide +kernel
theorem dX4_mostLeftBy_14 : decode cX4_mostLeftBy 14 = .ok (.iconst 0, 1) := by decide +kernel
theorem dX4_mostLeftBy_15 : decode cX4_mostLeftBy 15 = .ok (.iastore, 1) := by decide +kernel
theorem dX4_mostLeftBy_16 : decode cX4_mostLeftBy 16 = .ok (.iinc 3 1, 3) := by decide +kernel
theorem dX4_mostLeftBy_19 : decode cX4_mostLeftBy 19 = .ok (.goto (-15), 3) := by decide +kernel
theorem dX4_mostLeftBy_22 : decode cX4_mostLeftBy 22 = .ok (.iconst 0, 1) := by decide +kernel
theorem dX4_mostLeftBy_23 : decode cX4_mostLeftBy 23 = .ok (.istore_n 3, 1) := by decide +kernel
theorem dX4_mostLeftBy_24 : decode cX4_mostLeftBy 24 = .ok (.iload_n 3, 1) := by decide +kernel
theorem dX4_mostLeftBy_25 : decode cX4_mostLeftBy 25 = .ok (.bipush 9, 2) := by decide +kernel
theorem dX4_mostLeftBy_27 : decode cX4_mostLeftBy 27 = .ok (.if_icmp .gt 62, 3) := by decide +kernel
theorem dX4_mostLeftBy_30 : decode cX4_mostLeftBy 30 = .ok (.aload_n 0, 1) := by decide +kernel
theorem dX4_mostLeftBy_31 : decode cX4_mostLeftBy 31 = .ok (.getfield 9, 3) := by decide +kernel
theorem dX4_mostLeftBy_34 : decode cX4_mostLeftBy 34 = .ok (.iload_n 3, 1) := by decide +kernel
theorem dX4_mostLeftBy_35 : decode cX4_mostLeftBy 35 = .ok (.iaload, 1) := by decide +kernel
theorem dX4_mostLeftBy_36 : decode cX4_mostLeftBy 36 = .ok (.iload_n 1, 1) := by decide +kernel
theorem dX4_mostLeftBy_37 : decode cX4_mostLeftBy 37 = .ok (.invokestatic 63, 3) := by decide +kernel
theorem dX4_mostLeftBy_40 : decode cX4_mostLeftBy 40 = .ok (.istore 4, 2) := by decide +kernel
theorem dX4_mostLeftBy_42 : decode cX4_mostLeftBy 42 = .ok (.aload_n 0, 1) := by decide +kernel
theorem dX4_mostLeftBy_43 : decode cX4_mostLeftBy 43 = .ok (.getfield 30, 3) := by decide +kernel
theorem dX4_mostLeftBy_46 : decode cX4_mostLeftBy 46 = .ok (.iload_n 3, 1) := by decide +kernel
theorem dX4_mostLeftBy_47 : decode cX4_mostLeftBy 47 = .ok (.ishr, 1) := by decide +kernel
theorem dX4_mostLeftBy_48 : decode cX4_mostLeftBy 48 = .ok (.iconst 1, 1) := by decide +kernel
theorem dX4_mostLeftBy_49 : decode cX4_mostLeftBy 49 = .ok (.iand, 1) := by decide +kernel
theorem dX4_mostLeftBy_50 : decode cX4_mostLeftBy 50 = .ok (.iconst 1, 1) := by decide +kernel
theorem dX4_mostLeftBy_51 : decode cX4_mostLeftBy 51 = .ok (.if_icmp .ne 32, 3) := by decide +kernel
theorem dX4_mostLeftBy_54 : decode cX4_mostLeftBy 54 = .ok (.iload 4, 2) := by decide +kernel
theorem dX4_mostLeftBy_56 : decode cX4_mostLeftBy 56 = .ok (.iconst 4, 1) := by decide +kernel
theorem dX4_mostLeftBy_57 : decode cX4_mostLeftBy 57 = .ok (.if_icmp .gt 26, 3) := by decide +kernel
theorem dX4_mostLeftBy_60 : decode cX4_mostLeftBy 60 = .ok (.aload_n 0, 1) := by decide +kernel
theorem dX4_mostLeftBy_61 : decode cX4_mostLeftBy 61 = .ok (.getfield 15, 3) := by decide +kernel
theorem dX4_mostLeftBy_64 : decode cX4_mostLeftBy 64 = .ok (.iload 4, 2) := by decide +kernel
theorem dX4_mostLeftBy_66 : decode cX4_mostLeftBy 66 = .ok (.dup2, 1) := by decide +kernel
theorem dX4_mostLeftBy_67 : decode cX4_mostLeftBy 67 = .ok (.iaload, 1) := by decide +kernel
theorem dX4_mostLeftBy_68 : decode cX4_mostLeftBy 68 = .ok (.iconst 1, 1) := by decide +kernel
theorem dX4_mostLeftBy_69 : decode cX4_mostLeftBy 69 = .ok (.iadd, 1) := by decide +kernel
theorem dX4_mostLeftBy_70 : decode cX4_mostLeftBy 70 = .ok (.iastore, 1) := by decide +kernel
theorem dX4_mostLeftBy_71 : decode cX4_mostLeftBy 71 = .ok (.iload_n 2, 1) := by decide +kernel
theorem dX4_mostLeftBy_72 : decode cX4_mostLeftBy 72 = .ok (.aload_n 0, 1) := by decide +kernel
theorem dX4_mostLeftBy_73 : decode cX4_mostLeftBy 73 = .ok (.getfield 15, 3) := by decide +kernel
theorem dX4_mostLeftBy_76 : decode cX4_mostLeftBy 76 = .ok (.iload 4, 2) := by decide +kernel
theorem dX4_mostLeftBy_78 : decode cX4_mostLeftBy 78 = .ok (.iaload, 1) := by decide +kernel
theorem dX4_mostLeftBy_79 : decode cX4_mostLeftBy 79 = .ok (.invokestatic 67, 3) := by decide +kernel
theorem dX4_mostLeftBy_82 : decode cX4_mostLeftBy 82 = .ok (.istore_n 2, 1) := by decide +kernel
theorem dX4_mostLeftBy_83 : decode cX4_mostLeftBy 83 = .ok (.iinc 3 1, 3) := by decide +kernel
theorem dX4_mostLeftBy_86 : decode cX4_mostLeftBy 86 = .ok (.goto (-62), 3) := by decide +kernel
theorem dX4_mostLeftBy_89 : decode cX4_mostLeftBy 89 = .ok (.iload_n 2, 1) := by decide +kernel
theorem dX4_mostLeftBy_90 : decode cX4_mostLeftBy 90 = .ok (.ireturn, 1) := by decide +kernel
theorem dX5_get_0 : decode cX5_get 0 = .ok (.iload_n 0, 1) := by decide +kernel
theorem dX5_get_1 : decode cX5_get 1 = .ok (.iconst 4, 1) := by decide +kernel
theorem dX5_get_2 : decode cX5_get 2 = .ok (.iload_n 1, 1) := by decide +kernel
theorem dX5_get_3 : decode cX5_get 3 = .ok (.imul, 1) := by decide +kernel
theorem dX5_get_4 : decode cX5_get 4 = .ok (.ishr, 1) := by decide +kernel
theorem dX5_get_5 : decode cX5_get 5 = .ok (.bipush 15, 2) := by decide +kernel
theorem dX5_get_7 : decode cX5_get 7 = .ok (.iand, 1) := by decide +kernel
theorem dX5_get_8 : decode cX5_get 8 = .ok (.ireturn, 1) := by decide +kernel
theorem dX5_with_0 : decode cX5_with 0 = .ok (.iload_n 0, 1) := by decide +kernel
theorem dX5_with_1 : decode cX5_with 1 = .ok (.bipush 15, 2) := by decide +kernel
theorem dX5_with_3 : decode cX5_with 3 = .ok (.iconst 4, 1) := by decide +kernel
theorem dX5_with_4 : decode cX5_with 4 = .ok (.iload_n 1, 1) := by decide +kernel
theorem dX5_with_5 : decode cX5_with 5 = .ok (.imul, 1) := by decide +kernel
theorem dX5_with_6 : decode cX5_with 6 = .ok (.ishl, 1) := by decide +kernel
theorem dX5_with_7 : decode cX5_with 7 = .ok (.iconst (-1), 1) := by decide +kernel
theorem dX5_with_8 : decode cX5_with 8 = .ok (.ixor, 1) := by decide +kernel
theorem dX5_with_9 : decode cX5_with 9 = .ok (.iand, 1) := by decide +kernel
theorem dX5_with_10 : decode cX5_with 10 = .ok (.iload_n 2, 1) := by decide +kernel
theorem dX5_with_11 : decode cX5_with 11 = .ok (.iconst 4, 1) := by decide +kernel
theorem dX5_with_12 : decode cX5_with 12 = .ok (.iload_n 1, 1) := by decide +kernel
theorem dX5_with_13 : decode cX5_with 13 = .ok (.imul, 1) := by decide +kernel
theorem dX5_with_14 : decode cX5_with 14 = .ok (.ishl, 1) := by decide +kernel
theorem dX5_with_15 : decode cX5_with 15 = .ok (.ior, 1) := by decide +kernel
theorem dX5_with_16 : decode cX5_with 16 = .ok (.ireturn, 1) := by decide +kernel
theorem dX5_sum_0 : decode cX5_sum 0 = .ok (.iconst 0, 1) := by decide +kernel
theorem dX5_sum_1 : decode cX5_sum 1 = .ok (.istore_n 1, 1) := by decide +kernel
theorem dX5_sum_2 : decode cX5_sum 2 = .ok (.iconst 0, 1) := by decide +kernel
theorem dX5_sum_3 : decode cX5_sum 3 = .ok (.istore_n 2, 1) := by decide +kernel
theorem dX5_sum_4 : decode cX5_sum 4 = .ok (.iload_n 2, 1) := by decide +kernel
theorem dX5_sum_5 : decode cX5_sum 5 = .ok (.bipush 6, 2) := by decide +kernel
theorem dX5_sum_7 : decode cX5_sum 7 = .ok (.if_icmp .ge 17, 3) := by decide +kernel
theorem dX5_sum_10 : decode cX5_sum 10 = .ok (.iload_n 1, 1) := by decide +kernel
theorem dX5_sum_11 : decode cX5_sum 11 = .ok (.iload_n 0, 1) := by decide +kernel
theorem dX5_sum_12 : decode cX5_sum 12 = .ok (.iload_n 2, 1) := by decide +kernel
theorem dX5_sum_13 : decode cX5_sum 13 = .ok (.invokestatic 9, 3) := by decide +kernel
theorem dX5_sum_16 : decode cX5_sum 16 = .ok (.iadd, 1) := by decide +kernel
theorem dX5_sum_17 : decode cX5_sum 17 = .ok (.istore_n 1, 1) := by decide +kernel
theorem dX5_sum_18 : decode cX5_sum 18 = .ok (.iinc 2 1, 3) := by decide +kernel
theorem dX5_sum_21 : decode cX5_sum 21 = .ok (.goto (-17), 3) := by decide +kernel
theorem dX5_sum_24 : decode cX5_sum 24 = .ok (.iload_n 1, 1) := by decide +kernel
theorem dX5_sum_25 : decode cX5_sum 25 = .ok (.ireturn, 1) := by decide +kernel
theorem dX5_firstAboveZero_0 : decode cX5_firstAboveZero 0 = .ok (.iconst 0, 1) := by decide +kernel
theorem dX5_firstAboveZero_1 : decode cX5_firstAboveZero 1 = .ok (.istore_n 1, 1) := by decide +kernel
theorem dX5_firstAboveZero_2 : decode cX5_firstAboveZero 2 = .ok (.iload_n 1, 1) := by decide +kernel
theorem dX5_firstAboveZero_3 : decode cX5_firstAboveZero 3 = .ok (.bipush 6, 2) := by decide +kernel
theorem dX5_firstAboveZero_5 : decode cX5_firstAboveZero 5 = .ok (.if_icmp .ge 19, 3) := by decide +kernel
theorem dX5_firstAboveZero_8 : decode cX5_firstAboveZero 8 = .ok (.iload_n 0, 1) := by decide +kernel
theorem dX5_firstAboveZero_9 : decode cX5_firstAboveZero 9 = .ok (.iload_n 1, 1) := by decide +kernel
theorem dX5_firstAboveZero_10 : decode cX5_firstAboveZero 10 = .ok (.invokestatic 9, 3) := by decide +kernel
theorem dX5_firstAboveZero_13 : decode cX5_firstAboveZero 13 = .ok (.ifCond .le 5, 3) := by decide +kernel
theorem dX5_firstAboveZero_16 : decode cX5_firstAboveZero 16 = .ok (.iload_n 1, 1) := by decide +kernel
theorem dX5_firstAboveZero_17 : decode cX5_firstAboveZero 17 = .ok (.ireturn, 1) := by decide +kernel
theorem dX5_firstAboveZero_18 : decode cX5_firstAboveZero 18 = .ok (.iinc 1 1, 3) := by decide +kernel
theorem dX5_firstAboveZero_21 : decode cX5_firstAboveZero 21 = .ok (.goto (-19), 3) := by decide +kernel
theorem dX5_firstAboveZero_24 : decode cX5_firstAboveZero 24 = .ok (.iconst (-1), 1) := by decide +kernel
theorem dX5_firstAboveZero_25 : decode cX5_firstAboveZero 25 = .ok (.ireturn, 1) := by decide +kernel
theorem dX6_init_0 : decode cX6_init 0 = .ok (.aload_n 0, 1) := by decide +kernel
theorem dX6_init_1 : decode cX6_init 1 = .ok (.invokespecial 3, 3) := by decide +kernel
theorem dX6_init_4 : decode cX6_init 4 = .ok (.aload_n 0, 1) := by decide +kernel
theorem dX6_init_5 : decode cX6_init 5 = .ok (.bipush 6, 2) := by decide +kernel
theorem dX6_init_7 : decode cX6_init 7 = .ok (.newarray .int, 2) := by decide +kernel
theorem dX6_init_9 : decode cX6_init 9 = .ok (.putfield 9, 3) := by decide +kernel
theorem dX6_init_12 : decode cX6_init 12 = .ok (.aload_n 0, 1) := by decide +kernel
theorem dX6_init_13 : decode cX6_init 13 = .ok (.bipush 6, 2) := by decide +kernel
theorem dX6_init_15 : decode cX6_init 15 = .ok (.newarray .int, 2) := by decide +kernel
theorem dX6_init_17 : decode cX6_init 17 = .ok (.putfield 15, 3) := by decide +kernel
theorem dX6_init_20 : decode cX6_init 20 = .ok (.aload_n 0, 1) := by decide +kernel
theorem dX6_init_21 : decode cX6_init 21 = .ok (.aload_n 1, 1) := by decide +kernel
theorem dX6_init_22 : decode cX6_init 22 = .ok (.putfield 18, 3) := by decide +kernel
theorem dX6_init_25 : decode cX6_init 25 = .ok (.aload_n 0, 1) := by decide +kernel
theorem dX6_init_26 : decode cX6_init 26 = .ok (.aload_n 2, 1) := by decide +kernel
theorem dX6_init_27 : decode cX6_init 27 = .ok (.putfield 22, 3) := by decide +kernel
theorem dX6_init_30 : decode cX6_init 30 = .ok (.return_, 1) := by decide +kernel
theorem dX6_run_0 : decode cX6_run 0 = .ok (.aload_n 0, 1) := by decide +kernel
theorem dX6_run_1 : decode cX6_run 1 = .ok (.bipush 25, 2) := by decide +kernel
theorem dX6_run_3 : decode cX6_run 3 = .ok (.putfield 26, 3) := by decide +kernel
theorem dX6_run_6 : decode cX6_run 6 = .ok (.aload_n 0, 1) := by decide +kernel
theorem dX6_run_7 : decode cX6_run 7 = .ok (.iconst 0, 1) := by decide +kernel
theorem dX6_run_8 : decode cX6_run 8 = .ok (.iconst 0, 1) := by decide +kernel
theorem dX6_run_9 : decode cX6_run 9 = .ok (.iload_n 1, 1) := by decide +kernel
theorem dX6_run_10 : decode cX6_run 10 = .ok (.iconst 0, 1) := by decide +kernel
theorem dX6_run_11 : decode cX6_run 11 = .ok (.invokevirtual 30, 3) := by decide +kernel
theorem dX6_run_14 : decode cX6_run 14 = .ok (.return_, 1) := by decide +kernel
theorem dX6_barAt_0 : decode cX6_barAt 0 = .ok (.aload_n 0, 1) := by decide +kernel
theorem dX6_barAt_1 : decode cX6_barAt 1 = .ok (.getfield 18, 3) := by decide +kernel
theorem dX6_barAt_4 : decode cX6_barAt 4 = .ok (.iload_n 1, 1) := by decide +kernel
theorem dX6_barAt_5 : decode cX6_barAt 5 = .ok (.invokevirtual 34, 3) := by decide +kernel
theorem dX6_barAt_8 : decode cX6_barAt 8 = .ok (.ifCond .eq 12, 3) := by decide +kernel
theorem dX6_barAt_11 : decode cX6_barAt 11 = .ok (.aload_n 0, 1) := by decide +kernel
theorem dX6_barAt_12 : decode cX6_barAt 12 = .ok (.getfield 15, 3) := by decide +kernel
theorem dX6_barAt_15 : decode cX6_barAt 15 = .ok (.iload_n 1, 1) := by decide +kernel
theorem dX6_barAt_16 : decode cX6_barAt 16 = .ok (.iaload, 1) := by decide +kernel
theorem dX6_barAt_17 : decode cX6_barAt 17 = .ok (.goto 4, 3) := by decide +kernel
theorem dX6_barAt_20 : decode cX6_barAt 20 = .ok (.iconst (-1), 1) := by decide +kernel
theorem dX6_barAt_21 : decode cX6_barAt 21 = .ok (.ireturn, 1) := by decide +kernel
theorem dX6_tryFrom_0 : decode cX6_tryFrom 0 = .ok (.iload 4, 2) := by decide +kernel
theorem dX6_tryFrom_2 : decode cX6_tryFrom 2 = .ok (.aload_n 0, 1) := by decide +kernel
theorem dX6_tryFrom_3 : decode cX6_tryFrom 3 = .ok (.getfield 26, 3) := by decide +kernel
theorem dX6_tryFrom_6 : decode cX6_tryFrom 6 = .ok (.if_icmp .lt 4, 3) := by decide +kernel
theorem dX6_tryFrom_9 : decode cX6_tryFrom 9 = .ok (.return_, 1) := by decide +kernel
theorem dX6_tryFrom_10 : decode cX6_tryFrom 10 = .ok (.aload_n 0, 1) := by decide +kernel
theorem dX6_tryFrom_11 : decode cX6_tryFrom 11 = .ok (.getfield 18, 3) := by decide +kernel
theorem dX6_tryFrom_14 : decode cX6_tryFrom 14 = .ok (.iload_n 1, 1) := by decide +kernel
theorem dX6_tryFrom_15 : decode cX6_tryFrom 15 = .ok (.invokevirtual 34, 3) := by decide +kernel
theorem dX6_tryFrom_18 : decode cX6_tryFrom 18 = .ok (.ifCond .ne 25, 3) := by decide +kernel
theorem dX6_tryFrom_21 : decode cX6_tryFrom 21 = .ok (.aload_n 0, 1) := by decide +kernel
theorem dX6_tryFrom_22 : decode cX6_tryFrom 22 = .ok (.iload 4, 2) := by decide +kernel
theorem dX6_tryFrom_24 : decode cX6_tryFrom 24 = .ok (.putfield 26, 3) := by decide +kernel
theorem dX6_tryFrom_27 : decode cX6_tryFrom 27 = .ok (.aload_n 0, 1) := by decide +kernel
theorem dX6_tryFrom_28 : decode cX6_tryFrom 28 = .ok (.getfield 9, 3) := by decide +kernel
theorem dX6_tryFrom_31 : decode cX6_tryFrom 31 = .ok (.iconst 0, 1) := by decide +kernel
theorem dX6_tryFrom_32 : decode cX6_tryFrom 32 = .ok (.aload_n 0, 1) := by decide +kernel
theorem dX6_tryFrom_33 : decode cX6_tryFrom 33 = .ok (.getfield 15, 3) := by decide +kernel
theorem dX6_tryFrom_36 : decode cX6_tryFrom 36 = .ok (.iconst 0, 1) := by decide +kernel
theorem dX6_tryFrom_37 : decode cX6_tryFrom 37 = .ok (.bipush 6, 2) := by decide +kernel
theorem dX6_tryFrom_39 : decode cX6_tryFrom 39 = .ok (.invokestatic 40, 3) := by decide +kernel
theorem dX6_tryFrom_42 : decode cX6_tryFrom 42 = .ok (.return_, 1) := by decide +kernel
theorem dX6_tryFrom_43 : decode cX6_tryFrom 43 = .ok (.iconst 0, 1) := by decide +kernel
theorem dX6_tryFrom_44 : decode cX6_tryFrom 44 = .ok (.istore 5, 2) := by decide +kernel
theorem dX6_tryFrom_46 : decode cX6_tryFrom 46 = .ok (.iload 5, 2) := by decide +kernel
theorem dX6_tryFrom_48 : decode cX6_tryFrom 48 = .ok (.aload_n 0, 1) := by decide +kernel
theorem dX6_tryFrom_49 : decode cX6_tryFrom 49 = .ok (.getfield 18, 3) := by decide +kernel
theorem dX6_tryFrom_52 : decode cX6_tryFrom 52 = .ok (.getfield 46, 3) := by decide +kernel
theorem dX6_tryFrom_55 : decode cX6_tryFrom 55 = .ok (.if_icmp .ge 90, 3) := by decide +kernel
theorem dX6_tryFrom_58 : decode cX6_tryFrom 58 = .ok (.iload_n 2, 1) := by decide +kernel
theorem dX6_tryFrom_59 : decode cX6_tryFrom 59 = .ok (.iload 5, 2) := by decide +kernel
theorem dX6_tryFrom_61 : decode cX6_tryFrom 61 = .ok (.ishr, 1) := by decide +kernel
theorem dX6_tryFrom_62 : decode cX6_tryFrom 62 = .ok (.iconst 1, 1) := by decide +kernel
theorem dX6_tryFrom_63 : decode cX6_tryFrom 63 = .ok (.iand, 1) := by decide +kernel
theorem dX6_tryFrom_64 : decode cX6_tryFrom 64 = .ok (.ifCond .ne 75, 3) := by decide +kernel
theorem dX6_tryFrom_67 : decode cX6_tryFrom 67 = .ok (.aload_n 0, 1) := by decide +kernel
theorem dX6_tryFrom_68 : decode cX6_tryFrom 68 = .ok (.getfield 9, 3) := by decide +kernel
theorem dX6_tryFrom_71 : decode cX6_tryFrom 71 = .ok (.iload_n 1, 1) := by decide +kernel
theorem dX6_tryFrom_72 : decode cX6_tryFrom 72 = .ok (.iload 5, 2) := by decide +kernel
theorem dX6_tryFrom_74 : decode cX6_tryFrom 74 = .ok (.iastore, 1) := by decide +kernel
theorem dX6_tryFrom_75 : decode cX6_tryFrom 75 = .ok (.aload_n 0, 1) := by decide +kernel
theorem dX6_tryFrom_76 : decode cX6_tryFrom 76 = .ok (.getfield 22, 3) := by decide +kernel
theorem dX6_tryFrom_79 : decode cX6_tryFrom 79 = .ok (.iload 5, 2) := by decide +kernel
theorem dX6_tryFrom_81 : decode cX6_tryFrom 81 = .ok (.iload_n 3, 1) := by decide +kernel
theorem dX6_tryFrom_82 : decode cX6_tryFrom 82 = .ok (.invokevirtual 49, 3) := by decide +kernel
theorem dX6_tryFrom_85 : decode cX6_tryFrom 85 = .ok (.istore 6, 2) := by decide +kernel
theorem dX6_tryFrom_87 : decode cX6_tryFrom 87 = .ok (.iload 4, 2) := by decide +kernel
theorem dX6_tryFrom_89 : decode cX6_tryFrom 89 = .ok (.aload_n 0, 1) := by decide +kernel
theorem dX6_tryFrom_90 : decode cX6_tryFrom 90 = .ok (.getfield 18, 3) := by decide +kernel
theorem dX6_tryFrom_93 : decode cX6_tryFrom 93 = .ok (.getfield 55, 3) := by decide +kernel
theorem dX6_tryFrom_96 : decode cX6_tryFrom 96 = .ok (.iload 5, 2) := by decide +kernel
theorem dX6_tryFrom_98 : decode cX6_tryFrom 98 = .ok (.iaload, 1) := by decide +kernel
theorem dX6_tryFrom_99 : decode cX6_tryFrom 99 = .ok (.iadd, 1) := by decide +kernel
theorem dX6_tryFrom_100 : decode cX6_tryFrom 100 = .ok (.iload 6, 2) := by decide +kernel
theorem dX6_tryFrom_102 : decode cX6_tryFrom 102 = .ok (.invokestatic 58, 3) := by decide +kernel
theorem dX6_tryFrom_105 : decode cX6_tryFrom 105 = .ok (.isub, 1) := by decide +kernel
theorem dX6_tryFrom_106 : decode cX6_tryFrom 106 = .ok (.istore 7, 2) := by decide +kernel
theorem dX6_tryFrom_108 : decode cX6_tryFrom 108 = .ok (.aload_n 0, 1) := by decide +kernel
theorem dX6_tryFrom_109 : decode cX6_tryFrom 109 = .ok (.getfield 22, 3) := by decide +kernel
theorem dX6_tryFrom_112 : decode cX6_tryFrom 112 = .ok (.iload 5, 2) := by decide +kernel
theorem dX6_tryFrom_114 : decode cX6_tryFrom 114 = .ok (.iload_n 3, 1) := by decide +kernel
theorem dX6_tryFrom_115 : decode cX6_tryFrom 115 = .ok (.iload 6, 2) := by decide +kernel
theorem dX6_tryFrom_117 : decode cX6_tryFrom 117 = .ok (.invokevirtual 64, 3) := by decide +kernel
theorem dX6_tryFrom_120 : decode cX6_tryFrom 120 = .ok (.istore 8, 2) := by decide +kernel
theorem dX6_tryFrom_122 : decode cX6_tryFrom 122 = .ok (.aload_n 0, 1) := by decide +kernel
theorem dX6_tryFrom_123 : decode cX6_tryFrom 123 = .ok (.iload_n 1, 1) := by decide +kernel
theorem dX6_tryFrom_124 : decode cX6_tryFrom 124 = .ok (.iconst 1, 1) := by decide +kernel
theorem dX6_tryFrom_125 : decode cX6_tryFrom 125 = .ok (.iadd, 1) := by decide +kernel
theorem dX6_tryFrom_126 : decode cX6_tryFrom 126 = .ok (.iload_n 2, 1) := by decide +kernel
theorem dX6_tryFrom_127 : decode cX6_tryFrom 127 = .ok (.iconst 1, 1) := by decide +kernel
theorem dX6_tryFrom_128 : decode cX6_tryFrom 128 = .ok (.iload 5, 2) := by decide +kernel
theorem dX6_tryFrom_130 : decode cX6_tryFrom 130 = .ok (.ishl, 1) := by decide +kernel
theorem dX6_tryFrom_131 : decode cX6_tryFrom 131 = .ok (.ior, 1) := by decide +kernel
theorem dX6_tryFrom_132 : decode cX6_tryFrom 132 = .ok (.iload 8, 2) := by decide +kernel
theorem dX6_tryFrom_134 : decode cX6_tryFrom 134 = .ok (.iload 7, 2) := by decide +kernel
theorem dX6_tryFrom_136 : decode cX6_tryFrom 136 = .ok (.invokevirtual 30, 3) := by decide +kernel
theorem dX6_tryFrom_139 : decode cX6_tryFrom 139 = .ok (.iinc 5 1, 3) := by decide +kernel
theorem dX6_tryFrom_142 : decode cX6_tryFrom 142 = .ok (.goto (-96), 3) := by decide +kernel
theorem dX6_tryFrom_145 : decode cX6_tryFrom 145 = .ok (.return_, 1) := by decide +kernel
theorem dX7_init_0 : decode cX7_init 0 = .ok (.aload_n 0, 1) := by decide +kernel
theorem dX7_init_1 : decode cX7_init 1 = .ok (.invokespecial 3, 3) := by decide +kernel
theorem dX7_init_4 : decode cX7_init 4 = .ok (.aload_n 0, 1) := by decide +kernel
theorem dX7_init_5 : decode cX7_init 5 = .ok (.bipush 22, 2) := by decide +kernel
theorem dX7_init_7 : decode cX7_init 7 = .ok (.newarray .int, 2) := by decide +kernel
theorem dX7_init_9 : decode cX7_init 9 = .ok (.putfield 9, 3) := by decide +kernel
theorem dX7_init_12 : decode cX7_init 12 = .ok (.return_, 1) := by decide +kernel
theorem dX7_write_0 : decode cX7_write 0 = .ok (.aload_n 0, 1) := by decide +kernel
theorem dX7_write_1 : decode cX7_write 1 = .ok (.getfield 15, 3) := by decide +kernel
theorem dX7_write_4 : decode cX7_write 4 = .ok (.bipush 22, 2) := by decide +kernel
theorem dX7_write_6 : decode cX7_write 6 = .ok (.if_icmp .ge 23, 3) := by decide +kernel
theorem dX7_write_9 : decode cX7_write 9 = .ok (.aload_n 0, 1) := by decide +kernel
theorem dX7_write_10 : decode cX7_write 10 = .ok (.getfield 9, 3) := by decide +kernel
theorem dX7_write_13 : decode cX7_write 13 = .ok (.aload_n 0, 1) := by decide +kernel
theorem dX7_write_14 : decode cX7_write 14 = .ok (.getfield 15, 3) := by decide +kernel
theorem dX7_write_17 : decode cX7_write 17 = .ok (.iload_n 1, 1) := by decide +kernel
theorem dX7_write_18 : decode cX7_write 18 = .ok (.iastore, 1) := by decide +kernel
theorem dX7_write_19 : decode cX7_write 19 = .ok (.aload_n 0, 1) := by decide +kernel
theorem dX7_write_20 : decode cX7_write 20 = .ok (.dup, 1) := by decide +kernel
theorem dX7_write_21 : decode cX7_write 21 = .ok (.getfield 15, 3) := by decide +kernel
theorem dX7_write_24 : decode cX7_write 24 = .ok (.iconst 1, 1) := by decide +kernel
theorem dX7_write_25 : decode cX7_write 25 = .ok (.iadd, 1) := by decide +kernel
theorem dX7_write_26 : decode cX7_write 26 = .ok (.putfield 15, 3) := by decide +kernel
theorem dX7_write_29 : decode cX7_write 29 = .ok (.return_, 1) := by decide +kernel
theorem dX7_firstFault_0 : decode cX7_firstFault 0 = .ok (.iconst 0, 1) := by decide +kernel
theorem dX7_firstFault_1 : decode cX7_firstFault 1 = .ok (.istore_n 1, 1) := by decide +kernel
theorem dX7_firstFault_2 : decode cX7_firstFault 2 = .ok (.iload_n 1, 1) := by decide +kernel
theorem dX7_firstFault_3 : decode cX7_firstFault 3 = .ok (.aload_n 0, 1) := by decide +kernel
theorem dX7_firstFault_4 : decode cX7_firstFault 4 = .ok (.getfield 15, 3) := by decide +kernel
theorem dX7_firstFault_7 : decode cX7_firstFault 7 = .ok (.if_icmp .ge 19, 3) := by decide +kernel
theorem dX7_firstFault_10 : decode cX7_firstFault 10 = .ok (.aload_n 0, 1) := by decide +kernel
theorem dX7_firstFault_11 : decode cX7_firstFault 11 = .ok (.iload_n 1, 1) := by decide +kernel
theorem dX7_firstFault_12 : decode cX7_firstFault 12 = .ok (.invokevirtual 19, 3) := by decide +kernel
theorem dX7_firstFault_15 : decode cX7_firstFault 15 = .ok (.ifCond .ne 5, 3) := by decide +kernel
theorem dX7_firstFault_18 : decode cX7_firstFault 18 = .ok (.iload_n 1, 1) := by decide +kernel
theorem dX7_firstFault_19 : decode cX7_firstFault 19 = .ok (.ireturn, 1) := by decide +kernel
theorem dX7_firstFault_20 : decode cX7_firstFault 20 = .ok (.iinc 1 1, 3) := by decide +kernel
theorem dX7_firstFault_23 : decode cX7_firstFault 23 = .ok (.goto (-21), 3) := by decide +kernel
theorem dX7_firstFault_26 : decode cX7_firstFault 26 = .ok (.aload_n 0, 1) := by decide +kernel
theorem dX7_firstFault_27 : decode cX7_firstFault 27 = .ok (.getfield 15, 3) := by decide +kernel
theorem dX7_firstFault_30 : decode cX7_firstFault 30 = .ok (.ireturn, 1) := by decide +kernel
theorem dX7_isWhole_0 : decode cX7_isWhole 0 = .ok (.aload_n 0, 1) := by decide +kernel
theorem dX7_isWhole_1 : decode cX7_isWhole 1 = .ok (.getfield 15, 3) := by decide +kernel
theorem dX7_isWhole_4 : decode cX7_isWhole 4 = .ok (.iconst 2, 1) := by decide +kernel
theorem dX7_isWhole_5 : decode cX7_isWhole 5 = .ok (.if_icmp .lt 34, 3) := by decide +kernel
theorem dX7_isWhole_8 : decode cX7_isWhole 8 = .ok (.aload_n 0, 1) := by decide +kernel
theorem dX7_isWhole_9 : decode cX7_isWhole 9 = .ok (.getfield 9, 3) := by decide +kernel
theorem dX7_isWhole_12 : decode cX7_isWhole 12 = .ok (.aload_n 0, 1) := by decide +kernel
theorem dX7_isWhole_13 : decode cX7_isWhole 13 = .ok (.getfield 15, 3) := by decide +kernel
theorem dX7_isWhole_16 : decode cX7_isWhole 16 = .ok (.iconst 2, 1) := by decide +kernel
theorem dX7_isWhole_17 : decode cX7_isWhole 17 = .ok (.isub, 1) := by decide +kernel
theorem dX7_isWhole_18 : decode cX7_isWhole 18 = .ok (.iaload, 1) := by decide +kernel
theorem dX7_isWhole_19 : decode cX7_isWhole 19 = .ok (.bipush 59, 2) := by decide +kernel
theorem dX7_isWhole_21 : decode cX7_isWhole 21 = .ok (.if_icmp .ne 18, 3) := by decide +kernel
theorem dX7_isWhole_24 : decode cX7_isWhole 24 = .ok (.aload_n 0, 1) := by decide +kernel
theorem dX7_isWhole_25 : decode cX7_isWhole 25 = .ok (.invokevirtual 23, 3) := by decide +kernel
theorem dX7_isWhole_28 : decode cX7_isWhole 28 = .ok (.aload_n 0, 1) := by decide +kernel
theorem dX7_isWhole_29 : decode cX7_isWhole 29 = .ok (.getfield 15, 3) := by decide +kernel
theorem dX7_isWhole_32 : decode cX7_isWhole 32 = .ok (.if_icmp .ne 7, 3) := by decide +kernel
theorem dX7_isWhole_35 : decode cX7_isWhole 35 = .ok (.iconst 1, 1) := by decide +kernel
theorem dX7_isWhole_36 : decode cX7_isWhole 36 = .ok (.goto 4, 3) := by decide +kernel
theorem dX7_isWhole_39 : decode cX7_isWhole 39 = .ok (.iconst 0, 1) := by decide +kernel
theorem dX7_isWhole_40 : decode cX7_isWhole 40 = .ok (.ireturn, 1) := by decide +kernel
theorem dX7_fits_0 : decode cX7_fits 0 = .ok (.aload_n 0, 1) := by decide +kernel
theorem dX7_fits_1 : decode cX7_fits 1 = .ok (.getfield 9, 3) := by decide +kernel
theorem dX7_fits_4 : decode cX7_fits 4 = .ok (.iload_n 1, 1) := by decide +kernel
theorem dX7_fits_5 : decode cX7_fits 5 = .ok (.iaload, 1) := by decide +kernel
theorem dX7_fits_6 : decode cX7_fits 6 = .ok (.istore_n 2, 1) := by decide +kernel
theorem dX7_fits_7 : decode cX7_fits 7 = .ok (.iload_n 1, 1) := by decide +kernel
theorem dX7_fits_8 : decode cX7_fits 8 = .ok (.iconst 2, 1) := by decide +kernel
theorem dX7_fits_9 : decode cX7_fits 9 = .ok (.if_icmp .lt 18, 3) := by decide +kernel
theorem dX7_fits_12 : decode cX7_fits 12 = .ok (.aload_n 0, 1) := by decide +kernel
theorem dX7_fits_13 : decode cX7_fits 13 = .ok (.getfield 9, 3) := by decide +kernel
theorem dX7_fits_16 : decode cX7_fits 16 = .ok (.iload_n 1, 1) := by decide +kernel
theorem dX7_fits_17 : decode cX7_fits 17 = .ok (.iconst 2, 1) := by decide +kernel
theorem dX7_fits_18 : decode cX7_fits 18 = .ok (.isub, 1) := by decide +kernel
theorem dX7_fits_19 : decode cX7_fits 19 = .ok (.iaload, 1) := by decide +kernel
theorem dX7_fits_20 : decode cX7_fits 20 = .ok (.bipush 59, 2) := by decide +kernel
theorem dX7_fits_22 : decode cX7_fits 22 = .ok (.if_icmp .ne 5, 3) := by decide +kernel
theorem dX7_fits_25 : decode cX7_fits 25 = .ok (.iconst 0, 1) := by decide +kernel
theorem dX7_fits_26 : decode cX7_fits 26 = .ok (.ireturn, 1) := by decide +kernel
theorem dX7_fits_27 : decode cX7_fits 27 = .ok (.iload_n 1, 1) := by decide +kernel
theorem dX7_fits_28 : decode cX7_fits 28 = .ok (.iconst 1, 1) := by decide +kernel
theorem dX7_fits_29 : decode cX7_fits 29 = .ok (.if_icmp .lt 34, 3) := by decide +kernel
theorem dX7_fits_32 : decode cX7_fits 32 = .ok (.aload_n 0, 1) := by decide +kernel
theorem dX7_fits_33 : decode cX7_fits 33 = .ok (.getfield 9, 3) := by decide +kernel
theorem dX7_fits_36 : decode cX7_fits 36 = .ok (.iload_n 1, 1) := by decide +kernel
theorem dX7_fits_37 : decode cX7_fits 37 = .ok (.iconst 1, 1) := by decide +kernel
theorem dX7_fits_38 : decode cX7_fits 38 = .ok (.isub, 1) := by decide +kernel
theorem dX7_fits_39 : decode cX7_fits 39 = .ok (.iaload, 1) := by decide +kernel
theorem dX7_fits_40 : decode cX7_fits 40 = .ok (.bipush 59, 2) := by decide +kernel
theorem dX7_fits_42 : decode cX7_fits 42 = .ok (.if_icmp .ne 21, 3) := by decide +kernel
theorem dX7_fits_45 : decode cX7_fits 45 = .ok (.iload_n 2, 1) := by decide +kernel
theorem dX7_fits_46 : decode cX7_fits 46 = .ok (.bipush 49, 2) := by decide +kernel
theorem dX7_fits_48 : decode cX7_fits 48 = .ok (.if_icmp .lt 13, 3) := by decide +kernel
theorem dX7_fits_51 : decode cX7_fits 51 = .ok (.iload_n 2, 1) := by decide +kernel
theorem dX7_fits_52 : decode cX7_fits 52 = .ok (.bipush 57, 2) := by decide +kernel
theorem dX7_fits_54 : decode cX7_fits 54 = .ok (.if_icmp .gt 7, 3) := by decide +kernel
theorem dX7_fits_57 : decode cX7_fits 57 = .ok (.iconst 1, 1) := by decide +kernel
theorem dX7_fits_58 : decode cX7_fits 58 = .ok (.goto 4, 3) := by decide +kernel
theorem dX7_fits_61 : decode cX7_fits 61 = .ok (.iconst 0, 1) := by decide +kernel
theorem dX7_fits_62 : decode cX7_fits 62 = .ok (.ireturn, 1) := by decide +kernel
theorem dX7_fits_63 : decode cX7_fits 63 = .ok (.iload_n 1, 1) := by decide +kernel
theorem dX7_fits_64 : decode cX7_fits 64 = .ok (.iconst 3, 1) := by decide +kernel
theorem dX7_fits_65 : decode cX7_fits 65 = .ok (.irem, 1) := by decide +kernel
theorem dX7_fits_66 : decode cX7_fits 66 = .ok (.lookupswitch 58 #[(0, 26), (1, 40)], 26) := by decide +kernel
theorem dX7_fits_92 : decode cX7_fits 92 = .ok (.iload_n 2, 1) := by decide +kernel
theorem dX7_fits_93 : decode cX7_fits 93 = .ok (.invokestatic 27, 3) := by decide +kernel
theorem dX7_fits_96 : decode cX7_fits 96 = .ok (.iconst (-1), 1) := by decide +kernel
theorem dX7_fits_97 : decode cX7_fits 97 = .ok (.if_icmp .eq 7, 3) := by decide +kernel
theorem dX7_fits_100 : decode cX7_fits 100 = .ok (.iconst 1, 1) := by decide +kernel
theorem dX7_fits_101 : decode cX7_fits 101 = .ok (.goto 4, 3) := by decide +kernel
theorem dX7_fits_104 : decode cX7_fits 104 = .ok (.iconst 0, 1) := by decide +kernel
theorem dX7_fits_105 : decode cX7_fits 105 = .ok (.ireturn, 1) := by decide +kernel
theorem dX7_fits_106 : decode cX7_fits 106 = .ok (.iload_n 2, 1) := by decide +kernel
theorem dX7_fits_107 : decode cX7_fits 107 = .ok (.bipush 49, 2) := by decide +kernel
theorem dX7_fits_109 : decode cX7_fits 109 = .ok (.if_icmp .lt 13, 3) := by decide +kernel
theorem dX7_fits_112 : decode cX7_fits 112 = .ok (.iload_n 2, 1) := by decide +kernel
theorem dX7_fits_113 : decode cX7_fits 113 = .ok (.bipush 52, 2) := by decide +kernel
theorem dX7_fits_115 : decode cX7_fits 115 = .ok (.if_icmp .gt 7, 3) := by decide +kernel
theorem dX7_fits_118 : decode cX7_fits 118 = .ok (.iconst 1, 1) := by decide +kernel
theorem dX7_fits_119 : decode cX7_fits 119 = .ok (.goto 4, 3) := by decide +kernel
theorem dX7_fits_122 : decode cX7_fits 122 = .ok (.iconst 0, 1) := by decide +kernel
theorem dX7_fits_123 : decode cX7_fits 123 = .ok (.ireturn, 1) := by decide +kernel
theorem dX7_fits_124 : decode cX7_fits 124 = .ok (.iload_n 2, 1) := by decide +kernel
theorem dX7_fits_125 : decode cX7_fits 125 = .ok (.bipush 59, 2) := by decide +kernel
theorem dX7_fits_127 : decode cX7_fits 127 = .ok (.if_icmp .eq 19, 3) := by decide +kernel
theorem dX7_fits_130 : decode cX7_fits 130 = .ok (.iload_n 2, 1) := by decide +kernel
theorem dX7_fits_131 : decode cX7_fits 131 = .ok (.bipush 44, 2) := by decide +kernel
theorem dX7_fits_133 : decode cX7_fits 133 = .ok (.if_icmp .ne 17, 3) := by decide +kernel
theorem dX7_fits_136 : decode cX7_fits 136 = .ok (.iload_n 1, 1) := by decide +kernel
theorem dX7_fits_137 : decode cX7_fits 137 = .ok (.iconst 3, 1) := by decide +kernel
theorem dX7_fits_138 : decode cX7_fits 138 = .ok (.idiv, 1) := by decide +kernel
theorem dX7_fits_139 : decode cX7_fits 139 = .ok (.iconst 1, 1) := by decide +kernel
theorem dX7_fits_140 : decode cX7_fits 140 = .ok (.iadd, 1) := by decide +kernel
theorem dX7_fits_141 : decode cX7_fits 141 = .ok (.bipush 6, 2) := by decide +kernel
theorem dX7_fits_143 : decode cX7_fits 143 = .ok (.if_icmp .ge 7, 3) := by decide +kernel
theorem dX7_fits_146 : decode cX7_fits 146 = .ok (.iconst 1, 1) := by decide +kernel
theorem dX7_fits_147 : decode cX7_fits 147 = .ok (.goto 4, 3) := by decide +kernel
theorem dX7_fits_150 : decode cX7_fits 150 = .ok (.iconst 0, 1) := by decide +kernel
theorem dX7_fits_151 : decode cX7_fits 151 = .ok (.ireturn, 1) := by decide +kernel
theorem dX8_init_0 : decode cX8_init 0 = .ok (.aload_n 0, 1) := by decide +kernel
theorem dX8_init_1 : decode cX8_init 1 = .ok (.invokespecial 3, 3) := by decide +kernel
theorem dX8_init_4 : decode cX8_init 4 = .ok (.aload_n 0, 1) := by decide +kernel
theorem dX8_init_5 : decode cX8_init 5 = .ok (.bipush 6, 2) := by decide +kernel
theorem dX8_init_7 : decode cX8_init 7 = .ok (.newarray .int, 2) := by decide +kernel
theorem dX8_init_9 : decode cX8_init 9 = .ok (.putfield 9, 3) := by decide +kernel
theorem dX8_init_12 : decode cX8_init 12 = .ok (.aload_n 0, 1) := by decide +kernel
theorem dX8_init_13 : decode cX8_init 13 = .ok (.bipush 6, 2) := by decide +kernel
theorem dX8_init_15 : decode cX8_init 15 = .ok (.newarray .int, 2) := by decide +kernel
theorem dX8_init_17 : decode cX8_init 17 = .ok (.putfield 15, 3) := by decide +kernel
theorem dX8_init_20 : decode cX8_init 20 = .ok (.return_, 1) := by decide +kernel
theorem dX8_sortOf_0 : decode cX8_sortOf 0 = .ok (.iconst 0, 1) := by decide +kernel
theorem dX8_sortOf_1 : decode cX8_sortOf 1 = .ok (.istore_n 1, 1) := by decide +kernel
theorem dX8_sortOf_2 : decode cX8_sortOf 2 = .ok (.iload_n 1, 1) := by decide +kernel
theorem dX8_sortOf_3 : decode cX8_sortOf 3 = .ok (.iconst 4, 1) := by decide +kernel
theorem dX8_sortOf_4 : decode cX8_sortOf 4 = .ok (.if_icmp .ge 20, 3) := by decide +kernel
theorem dX8_sortOf_7 : decode cX8_sortOf 7 = .ok (.getstatic 18, 3) := by decide +kernel
theorem dX8_sortOf_10 : decode cX8_sortOf 10 = .ok (.iload_n 1, 1) := by decide +kernel
theorem dX8_sortOf_11 : decode cX8_sortOf 11 = .ok (.caload, 1) := by decide +kernel
theorem dX8_sortOf_12 : decode cX8_sortOf 12 = .ok (.iload_n 0, 1) := by decide +kernel
theorem dX8_sortOf_13 : decode cX8_sortOf 13 = .ok (.if_icmp .ne 5, 3) := by decide +kernel
theorem dX8_sortOf_16 : decode cX8_sortOf 16 = .ok (.iload_n 1, 1) := by decide +kernel
theorem dX8_sortOf_17 : decode cX8_sortOf 17 = .ok (.ireturn, 1) := by decide +kernel
theorem dX8_sortOf_18 : decode cX8_sortOf 18 = .ok (.iinc 1 1, 3) := by decide +kernel
theorem dX8_sortOf_21 : decode cX8_sortOf 21 = .ok (.goto (-19), 3) := by decide +kernel
theorem dX8_sortOf_24 : decode cX8_sortOf 24 = .ok (.iconst (-1), 1) := by decide +kernel
theorem dX8_sortOf_25 : decode cX8_sortOf 25 = .ok (.ireturn, 1) := by decide +kernel
theorem dX8_has_0 : decode cX8_has 0 = .ok (.iload_n 1, 1) := by decide +kernel
theorem dX8_has_1 : decode cX8_has 1 = .ok (.ifCond .lt 15, 3) := by decide +kernel
theorem dX8_has_4 : decode cX8_has 4 = .ok (.iload_n 1, 1) := by decide +kernel
theorem dX8_has_5 : decode cX8_has 5 = .ok (.aload_n 0, 1) := by decide +kernel
theorem dX8_has_6 : decode cX8_has 6 = .ok (.getfield 22, 3) := by decide +kernel
theorem dX8_has_9 : decode cX8_has 9 = .ok (.if_icmp .ge 7, 3) := by decide +kernel
theorem dX8_has_12 : decode cX8_has 12 = .ok (.iconst 1, 1) := by decide +kernel
theorem dX8_has_13 : decode cX8_has 13 = .ok (.goto 4, 3) := by decide +kernel
theorem dX8_has_16 : decode cX8_has 16 = .ok (.iconst 0, 1) := by decide +kernel
theorem dX8_has_17 : decode cX8_has 17 = .ok (.ireturn, 1) := by decide +kernel
theorem dX8_read_0 : decode cX8_read 0 = .ok (.aload_n 0, 1) := by decide +kernel
theorem dX8_read_1 : decode cX8_read 1 = .ok (.bipush 6, 2) := by decide +kernel
theorem dX8_read_3 : decode cX8_read 3 = .ok (.aload_n 1, 1) := by decide +kernel
theorem dX8_read_4 : decode cX8_read 4 = .ok (.getfield 26, 3) := by decide +kernel
theorem dX8_read_7 : decode cX8_read 7 = .ok (.iconst 3, 1) := by decide +kernel
theorem dX8_read_8 : decode cX8_read 8 = .ok (.idiv, 1) := by decide +kernel
theorem dX8_read_9 : decode cX8_read 9 = .ok (.invokestatic 31, 3) := by decide +kernel
theorem dX8_read_12 : decode cX8_read 12 = .ok (.putfield 22, 3) := by decide +kernel
theorem dX8_read_15 : decode cX8_read 15 = .ok (.iconst 0, 1) := by decide +kernel
theorem dX8_read_16 : decode cX8_read 16 = .ok (.istore_n 2, 1) := by decide +kernel
theorem dX8_read_17 : decode cX8_read 17 = .ok (.iload_n 2, 1) := by decide +kernel
theorem dX8_read_18 : decode cX8_read 18 = .ok (.aload_n 0, 1) := by decide +kernel
theorem dX8_read_19 : decode cX8_read 19 = .ok (.getfield 22, 3) := by decide +kernel
theorem dX8_read_22 : decode cX8_read 22 = .ok (.if_icmp .ge 49, 3) := by decide +kernel
theorem dX8_read_25 : decode cX8_read 25 = .ok (.aload_n 0, 1) := by decide +kernel
theorem dX8_read_26 : decode cX8_read 26 = .ok (.getfield 9, 3) := by decide +kernel
theorem dX8_read_29 : decode cX8_read 29 = .ok (.iload_n 2, 1) := by decide +kernel
theorem dX8_read_30 : decode cX8_read 30 = .ok (.iconst 0, 1) := by decide +kernel
theorem dX8_read_31 : decode cX8_read 31 = .ok (.aload_n 1, 1) := by decide +kernel
theorem dX8_read_32 : decode cX8_read 32 = .ok (.getfield 37, 3) := by decide +kernel
theorem dX8_read_35 : decode cX8_read 35 = .ok (.iconst 3, 1) := by decide +kernel
theorem dX8_read_36 : decode cX8_read 36 = .ok (.iload_n 2, 1) := by decide +kernel
theorem dX8_read_37 : decode cX8_read 37 = .ok (.imul, 1) := by decide +kernel
theorem dX8_read_38 : decode cX8_read 38 = .ok (.iaload, 1) := by decide +kernel
theorem dX8_read_39 : decode cX8_read 39 = .ok (.invokestatic 40, 3) := by decide +kernel
theorem dX8_read_42 : decode cX8_read 42 = .ok (.invokestatic 44, 3) := by decide +kernel
theorem dX8_read_45 : decode cX8_read 45 = .ok (.iastore, 1) := by decide +kernel
theorem dX8_read_46 : decode cX8_read 46 = .ok (.aload_n 0, 1) := by decide +kernel
theorem dX8_read_47 : decode cX8_read 47 = .ok (.getfield 15, 3) := by decide +kernel
theorem dX8_read_50 : decode cX8_read 50 = .ok (.iload_n 2, 1) := by decide +kernel
theorem dX8_read_51 : decode cX8_read 51 = .ok (.aload_n 1, 1) := by decide +kernel
theorem dX8_read_52 : decode cX8_read 52 = .ok (.getfield 37, 3) := by decide +kernel
theorem dX8_read_55 : decode cX8_read 55 = .ok (.iconst 3, 1) := by decide +kernel
theorem dX8_read_56 : decode cX8_read 56 = .ok (.iload_n 2, 1) := by decide +kernel
theorem dX8_read_57 : decode cX8_read 57 = .ok (.imul, 1) := by decide +kernel
theorem dX8_read_58 : decode cX8_read 58 = .ok (.iconst 1, 1) := by decide +kernel
theorem dX8_read_59 : decode cX8_read 59 = .ok (.iadd, 1) := by decide +kernel
theorem dX8_read_60 : decode cX8_read 60 = .ok (.iaload, 1) := by decide +kernel
theorem dX8_read_61 : decode cX8_read 61 = .ok (.bipush 48, 2) := by decide +kernel
theorem dX8_read_63 : decode cX8_read 63 = .ok (.isub, 1) := by decide +kernel
theorem dX8_read_64 : decode cX8_read 64 = .ok (.iastore, 1) := by decide +kernel
theorem dX8_read_65 : decode cX8_read 65 = .ok (.iinc 2 1, 3) := by decide +kernel
theorem dX8_read_68 : decode cX8_read 68 = .ok (.goto (-51), 3) := by decide +kernel
theorem dX8_read_71 : decode cX8_read 71 = .ok (.aload_n 0, 1) := by decide +kernel
theorem dX8_read_72 : decode cX8_read 72 = .ok (.aload_n 1, 1) := by decide +kernel
theorem dX8_read_73 : decode cX8_read 73 = .ok (.getfield 37, 3) := by decide +kernel
theorem dX8_read_76 : decode cX8_read 76 = .ok (.iconst 3, 1) := by decide +kernel
theorem dX8_read_77 : decode cX8_read 77 = .ok (.aload_n 0, 1) := by decide +kernel
theorem dX8_read_78 : decode cX8_read 78 = .ok (.getfield 22, 3) := by decide +kernel
theorem dX8_read_81 : decode cX8_read 81 = .ok (.imul, 1) := by decide +kernel
theorem dX8_read_82 : decode cX8_read 82 = .ok (.iaload, 1) := by decide +kernel
theorem dX8_read_83 : decode cX8_read 83 = .ok (.bipush 48, 2) := by decide +kernel
theorem dX8_read_85 : decode cX8_read 85 = .ok (.isub, 1) := by decide +kernel
theorem dX8_read_86 : decode cX8_read 86 = .ok (.putfield 47, 3) := by decide +kernel
theorem dX8_read_89 : decode cX8_read 89 = .ok (.return_, 1) := by decide +kernel
theorem dX9_init_0 : decode cX9_init 0 = .ok (.aload_n 0, 1) := by decide +kernel
theorem dX9_init_1 : decode cX9_init 1 = .ok (.invokespecial 1, 3) := by decide +kernel
theorem dX9_init_4 : decode cX9_init 4 = .ok (.aload_n 0, 1) := by decide +kernel
theorem dX9_init_5 : decode cX9_init 5 = .ok (.new 7, 3) := by decide +kernel
theorem dX9_init_8 : decode cX9_init 8 = .ok (.dup, 1) := by decide +kernel
theorem dX9_init_9 : decode cX9_init 9 = .ok (.invokespecial 9, 3) := by decide +kernel
theorem dX9_init_12 : decode cX9_init 12 = .ok (.putfield 10, 3) := by decide +kernel
theorem dX9_init_15 : decode cX9_init 15 = .ok (.aload_n 0, 1) := by decide +kernel
theorem dX9_init_16 : decode cX9_init 16 = .ok (.new 16, 3) := by decide +kernel
theorem dX9_init_19 : decode cX9_init 19 = .ok (.dup, 1) := by decide +kernel
theorem dX9_init_20 : decode cX9_init 20 = .ok (.invokespecial 18, 3) := by decide +kernel
theorem dX9_init_23 : decode cX9_init 23 = .ok (.putfield 19, 3) := by decide +kernel
theorem dX9_init_26 : decode cX9_init 26 = .ok (.aload_n 0, 1) := by decide +kernel
theorem dX9_init_27 : decode cX9_init 27 = .ok (.new 23, 3) := by decide +kernel
theorem dX9_init_30 : decode cX9_init 30 = .ok (.dup, 1) := by decide +kernel
theorem dX9_init_31 : decode cX9_init 31 = .ok (.invokespecial 25, 3) := by decide +kernel
theorem dX9_init_34 : decode cX9_init 34 = .ok (.putfield 26, 3) := by decide +kernel
theorem dX9_init_37 : decode cX9_init 37 = .ok (.aload_n 0, 1) := by decide +kernel
theorem dX9_init_38 : decode cX9_init 38 = .ok (.new 23, 3) := by decide +kernel
theorem dX9_init_41 : decode cX9_init 41 = .ok (.dup, 1) := by decide +kernel
theorem dX9_init_42 : decode cX9_init 42 = .ok (.invokespecial 25, 3) := by decide +kernel
theorem dX9_init_45 : decode cX9_init 45 = .ok (.putfield 30, 3) := by decide +kernel
theorem dX9_init_48 : decode cX9_init 48 = .ok (.aload_n 0, 1) := by decide +kernel
theorem dX9_init_49 : decode cX9_init 49 = .ok (.new 33, 3) := by decide +kernel
theorem dX9_init_52 : decode cX9_init 52 = .ok (.dup, 1) := by decide +kernel
theorem dX9_init_53 : decode cX9_init 53 = .ok (.aload_n 0, 1) := by decide +kernel
theorem dX9_init_54 : decode cX9_init 54 = .ok (.getfield 19, 3) := by decide +kernel
theorem dX9_init_57 : decode cX9_init 57 = .ok (.aload_n 0, 1) := by decide +kernel
theorem dX9_init_58 : decode cX9_init 58 = .ok (.getfield 26, 3) := by decide +kernel
theorem dX9_init_61 : decode cX9_init 61 = .ok (.invokespecial 35, 3) := by decide +kernel
theorem dX9_init_64 : decode cX9_init 64 = .ok (.putfield 38, 3) := by decide +kernel
theorem dX9_init_67 : decode cX9_init 67 = .ok (.aload_n 0, 1) := by decide +kernel
theorem dX9_init_68 : decode cX9_init 68 = .ok (.new 42, 3) := by decide +kernel
theorem dX9_init_71 : decode cX9_init 71 = .ok (.dup, 1) := by decide +kernel
theorem dX9_init_72 : decode cX9_init 72 = .ok (.aload_n 0, 1) := by decide +kernel
theorem dX9_init_73 : decode cX9_init 73 = .ok (.getfield 19, 3) := by decide +kernel
theorem dX9_init_76 : decode cX9_init 76 = .ok (.aload_n 0, 1) := by decide +kernel
theorem dX9_init_77 : decode cX9_init 77 = .ok (.getfield 26, 3) := by decide +kernel
theorem dX9_init_80 : decode cX9_init 80 = .ok (.aload_n 0, 1) := by decide +kernel
theorem dX9_init_81 : decode cX9_init 81 = .ok (.getfield 38, 3) := by decide +kernel
theorem dX9_init_84 : decode cX9_init 84 = .ok (.invokespecial 44, 3) := by decide +kernel
theorem dX9_init_87 : decode cX9_init 87 = .ok (.putfield 47, 3) := by decide +kernel
theorem dX9_init_90 : decode cX9_init 90 = .ok (.aload_n 0, 1) := by decide +kernel
theorem dX9_init_91 : decode cX9_init 91 = .ok (.new 51, 3) := by decide +kernel
theorem dX9_init_94 : decode cX9_init 94 = .ok (.dup, 1) := by decide +kernel
theorem dX9_init_95 : decode cX9_init 95 = .ok (.aload_n 0, 1) := by decide +kernel
theorem dX9_init_96 : decode cX9_init 96 = .ok (.getfield 19, 3) := by decide +kernel
theorem dX9_init_99 : decode cX9_init 99 = .ok (.aload_n 0, 1) := by decide +kernel
theorem dX9_init_100 : decode cX9_init 100 = .ok (.getfield 38, 3) := by decide +kernel
theorem dX9_init_103 : decode cX9_init 103 = .ok (.invokespecial 53, 3) := by decide +kernel
theorem dX9_init_106 : decode cX9_init 106 = .ok (.putfield 56, 3) := by decide +kernel
theorem dX9_init_109 : decode cX9_init 109 = .ok (.aload_n 0, 1) := by decide +kernel
theorem dX9_init_110 : decode cX9_init 110 = .ok (.new 60, 3) := by decide +kernel
theorem dX9_init_113 : decode cX9_init 113 = .ok (.dup, 1) := by decide +kernel
theorem dX9_init_114 : decode cX9_init 114 = .ok (.aload_n 0, 1) := by decide +kernel
theorem dX9_init_115 : decode cX9_init 115 = .ok (.getfield 19, 3) := by decide +kernel
theorem dX9_init_118 : decode cX9_init 118 = .ok (.aload_n 0, 1) := by decide +kernel
theorem dX9_init_119 : decode cX9_init 119 = .ok (.getfield 26, 3) := by decide +kernel
theorem dX9_init_122 : decode cX9_init 122 = .ok (.aload_n 0, 1) := by decide +kernel
theorem dX9_init_123 : decode cX9_init 123 = .ok (.getfield 38, 3) := by decide +kernel
theorem dX9_init_126 : decode cX9_init 126 = .ok (.invokespecial 62, 3) := by decide +kernel
