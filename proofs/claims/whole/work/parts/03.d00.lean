theorem dX0_init_0 : decode cX0_init 0 = .ok (.aload_n 0, 1) := by decide +kernel
theorem dX0_init_1 : decode cX0_init 1 = .ok (.invokespecial 3, 3) := by decide +kernel
theorem dX0_init_4 : decode cX0_init 4 = .ok (.aload_n 0, 1) := by decide +kernel
theorem dX0_init_5 : decode cX0_init 5 = .ok (.bipush 6, 2) := by decide +kernel
theorem dX0_init_7 : decode cX0_init 7 = .ok (.newarray .int, 2) := by decide +kernel
theorem dX0_init_9 : decode cX0_init 9 = .ok (.putfield 9, 3) := by decide +kernel
theorem dX0_init_12 : decode cX0_init 12 = .ok (.aload_n 0, 1) := by decide +kernel
theorem dX0_init_13 : decode cX0_init 13 = .ok (.bipush 6, 2) := by decide +kernel
theorem dX0_init_15 : decode cX0_init 15 = .ok (.newarray .int, 2) := by decide +kernel
theorem dX0_init_17 : decode cX0_init 17 = .ok (.putfield 15, 3) := by decide +kernel
theorem dX0_init_20 : decode cX0_init 20 = .ok (.aload_n 0, 1) := by decide +kernel
theorem dX0_init_21 : decode cX0_init 21 = .ok (.aload_n 1, 1) := by decide +kernel
theorem dX0_init_22 : decode cX0_init 22 = .ok (.putfield 18, 3) := by decide +kernel
theorem dX0_init_25 : decode cX0_init 25 = .ok (.aload_n 0, 1) := by decide +kernel
theorem dX0_init_26 : decode cX0_init 26 = .ok (.aload_n 2, 1) := by decide +kernel
theorem dX0_init_27 : decode cX0_init 27 = .ok (.putfield 22, 3) := by decide +kernel
theorem dX0_init_30 : decode cX0_init 30 = .ok (.aload_n 0, 1) := by decide +kernel
theorem dX0_init_31 : decode cX0_init 31 = .ok (.aload_n 3, 1) := by decide +kernel
theorem dX0_init_32 : decode cX0_init 32 = .ok (.putfield 26, 3) := by decide +kernel
theorem dX0_init_35 : decode cX0_init 35 = .ok (.return_, 1) := by decide +kernel
theorem dX0_run_0 : decode cX0_run 0 = .ok (.aload_n 0, 1) := by decide +kernel
theorem dX0_run_1 : decode cX0_run 1 = .ok (.bipush 7, 2) := by decide +kernel
theorem dX0_run_3 : decode cX0_run 3 = .ok (.putfield 30, 3) := by decide +kernel
theorem dX0_run_6 : decode cX0_run 6 = .ok (.aload_n 0, 1) := by decide +kernel
theorem dX0_run_7 : decode cX0_run 7 = .ok (.iconst 0, 1) := by decide +kernel
theorem dX0_run_8 : decode cX0_run 8 = .ok (.aload_n 0, 1) := by decide +kernel
theorem dX0_run_9 : decode cX0_run 9 = .ok (.getfield 22, 3) := by decide +kernel
theorem dX0_run_12 : decode cX0_run 12 = .ok (.getfield 34, 3) := by decide +kernel
theorem dX0_run_15 : decode cX0_run 15 = .ok (.iconst 0, 1) := by decide +kernel
theorem dX0_run_16 : decode cX0_run 16 = .ok (.invokevirtual 39, 3) := by decide +kernel
theorem dX0_run_19 : decode cX0_run 19 = .ok (.return_, 1) := by decide +kernel
theorem dX0_fewest_0 : decode cX0_fewest 0 = .ok (.aload_n 0, 1) := by decide +kernel
theorem dX0_fewest_1 : decode cX0_fewest 1 = .ok (.getfield 30, 3) := by decide +kernel
theorem dX0_fewest_4 : decode cX0_fewest 4 = .ok (.bipush 6, 2) := by decide +kernel
theorem dX0_fewest_6 : decode cX0_fewest 6 = .ok (.if_icmp .le 7, 3) := by decide +kernel
theorem dX0_fewest_9 : decode cX0_fewest 9 = .ok (.iconst (-1), 1) := by decide +kernel
theorem dX0_fewest_10 : decode cX0_fewest 10 = .ok (.goto 7, 3) := by decide +kernel
theorem dX0_fewest_13 : decode cX0_fewest 13 = .ok (.aload_n 0, 1) := by decide +kernel
theorem dX0_fewest_14 : decode cX0_fewest 14 = .ok (.getfield 30, 3) := by decide +kernel
theorem dX0_fewest_17 : decode cX0_fewest 17 = .ok (.ireturn, 1) := by decide +kernel
theorem dX0_whomAheadOf_0 : decode cX0_whomAheadOf 0 = .ok (.aload_n 0, 1) := by decide +kernel
theorem dX0_whomAheadOf_1 : decode cX0_whomAheadOf 1 = .ok (.getfield 30, 3) := by decide +kernel
theorem dX0_whomAheadOf_4 : decode cX0_whomAheadOf 4 = .ok (.bipush 6, 2) := by decide +kernel
theorem dX0_whomAheadOf_6 : decode cX0_whomAheadOf 6 = .ok (.if_icmp .gt 14, 3) := by decide +kernel
theorem dX0_whomAheadOf_9 : decode cX0_whomAheadOf 9 = .ok (.aload_n 0, 1) := by decide +kernel
theorem dX0_whomAheadOf_10 : decode cX0_whomAheadOf 10 = .ok (.getfield 18, 3) := by decide +kernel
theorem dX0_whomAheadOf_13 : decode cX0_whomAheadOf 13 = .ok (.iload_n 1, 1) := by decide +kernel
theorem dX0_whomAheadOf_14 : decode cX0_whomAheadOf 14 = .ok (.invokevirtual 43, 3) := by decide +kernel
theorem dX0_whomAheadOf_17 : decode cX0_whomAheadOf 17 = .ok (.ifCond .ne 7, 3) := by decide +kernel
theorem dX0_whomAheadOf_20 : decode cX0_whomAheadOf 20 = .ok (.iconst (-1), 1) := by decide +kernel
theorem dX0_whomAheadOf_21 : decode cX0_whomAheadOf 21 = .ok (.goto 9, 3) := by decide +kernel
theorem dX0_whomAheadOf_24 : decode cX0_whomAheadOf 24 = .ok (.aload_n 0, 1) := by decide +kernel
theorem dX0_whomAheadOf_25 : decode cX0_whomAheadOf 25 = .ok (.getfield 15, 3) := by decide +kernel
theorem dX0_whomAheadOf_28 : decode cX0_whomAheadOf 28 = .ok (.iload_n 1, 1) := by decide +kernel
theorem dX0_whomAheadOf_29 : decode cX0_whomAheadOf 29 = .ok (.iaload, 1) := by decide +kernel
theorem dX0_whomAheadOf_30 : decode cX0_whomAheadOf 30 = .ok (.ireturn, 1) := by decide +kernel
theorem dX0_tryFrom_0 : decode cX0_tryFrom 0 = .ok (.iload_n 3, 1) := by decide +kernel
theorem dX0_tryFrom_1 : decode cX0_tryFrom 1 = .ok (.aload_n 0, 1) := by decide +kernel
theorem dX0_tryFrom_2 : decode cX0_tryFrom 2 = .ok (.getfield 30, 3) := by decide +kernel
theorem dX0_tryFrom_5 : decode cX0_tryFrom 5 = .ok (.if_icmp .lt 4, 3) := by decide +kernel
theorem dX0_tryFrom_8 : decode cX0_tryFrom 8 = .ok (.return_, 1) := by decide +kernel
theorem dX0_tryFrom_9 : decode cX0_tryFrom 9 = .ok (.aload_n 0, 1) := by decide +kernel
theorem dX0_tryFrom_10 : decode cX0_tryFrom 10 = .ok (.getfield 18, 3) := by decide +kernel
theorem dX0_tryFrom_13 : decode cX0_tryFrom 13 = .ok (.iload_n 1, 1) := by decide +kernel
theorem dX0_tryFrom_14 : decode cX0_tryFrom 14 = .ok (.invokevirtual 43, 3) := by decide +kernel
theorem dX0_tryFrom_17 : decode cX0_tryFrom 17 = .ok (.ifCond .ne 24, 3) := by decide +kernel
theorem dX0_tryFrom_20 : decode cX0_tryFrom 20 = .ok (.aload_n 0, 1) := by decide +kernel
theorem dX0_tryFrom_21 : decode cX0_tryFrom 21 = .ok (.iload_n 3, 1) := by decide +kernel
theorem dX0_tryFrom_22 : decode cX0_tryFrom 22 = .ok (.putfield 30, 3) := by decide +kernel
theorem dX0_tryFrom_25 : decode cX0_tryFrom 25 = .ok (.aload_n 0, 1) := by decide +kernel
theorem dX0_tryFrom_26 : decode cX0_tryFrom 26 = .ok (.getfield 9, 3) := by decide +kernel
theorem dX0_tryFrom_29 : decode cX0_tryFrom 29 = .ok (.iconst 0, 1) := by decide +kernel
theorem dX0_tryFrom_30 : decode cX0_tryFrom 30 = .ok (.aload_n 0, 1) := by decide +kernel
theorem dX0_tryFrom_31 : decode cX0_tryFrom 31 = .ok (.getfield 15, 3) := by decide +kernel
theorem dX0_tryFrom_34 : decode cX0_tryFrom 34 = .ok (.iconst 0, 1) := by decide +kernel
theorem dX0_tryFrom_35 : decode cX0_tryFrom 35 = .ok (.bipush 6, 2) := by decide +kernel
theorem dX0_tryFrom_37 : decode cX0_tryFrom 37 = .ok (.invokestatic 49, 3) := by decide +kernel
theorem dX0_tryFrom_40 : decode cX0_tryFrom 40 = .ok (.return_, 1) := by decide +kernel
theorem dX0_tryFrom_41 : decode cX0_tryFrom 41 = .ok (.aload_n 0, 1) := by decide +kernel
theorem dX0_tryFrom_42 : decode cX0_tryFrom 42 = .ok (.getfield 9, 3) := by decide +kernel
theorem dX0_tryFrom_45 : decode cX0_tryFrom 45 = .ok (.iload_n 1, 1) := by decide +kernel
theorem dX0_tryFrom_46 : decode cX0_tryFrom 46 = .ok (.iconst (-1), 1) := by decide +kernel
theorem dX0_tryFrom_47 : decode cX0_tryFrom 47 = .ok (.iastore, 1) := by decide +kernel
theorem dX0_tryFrom_48 : decode cX0_tryFrom 48 = .ok (.aload_n 0, 1) := by decide +kernel
theorem dX0_tryFrom_49 : decode cX0_tryFrom 49 = .ok (.iload_n 1, 1) := by decide +kernel
theorem dX0_tryFrom_50 : decode cX0_tryFrom 50 = .ok (.iload_n 2, 1) := by decide +kernel
theorem dX0_tryFrom_51 : decode cX0_tryFrom 51 = .ok (.iload_n 3, 1) := by decide +kernel
theorem dX0_tryFrom_52 : decode cX0_tryFrom 52 = .ok (.invokevirtual 55, 3) := by decide +kernel
theorem dX0_tryFrom_55 : decode cX0_tryFrom 55 = .ok (.iconst 0, 1) := by decide +kernel
theorem dX0_tryFrom_56 : decode cX0_tryFrom 56 = .ok (.istore 4, 2) := by decide +kernel
theorem dX0_tryFrom_58 : decode cX0_tryFrom 58 = .ok (.iload 4, 2) := by decide +kernel
theorem dX0_tryFrom_60 : decode cX0_tryFrom 60 = .ok (.aload_n 0, 1) := by decide +kernel
theorem dX0_tryFrom_61 : decode cX0_tryFrom 61 = .ok (.getfield 22, 3) := by decide +kernel
theorem dX0_tryFrom_64 : decode cX0_tryFrom 64 = .ok (.getfield 58, 3) := by decide +kernel
theorem dX0_tryFrom_67 : decode cX0_tryFrom 67 = .ok (.if_icmp .ge 40, 3) := by decide +kernel
theorem dX0_tryFrom_70 : decode cX0_tryFrom 70 = .ok (.iload_n 2, 1) := by decide +kernel
theorem dX0_tryFrom_71 : decode cX0_tryFrom 71 = .ok (.iload 4, 2) := by decide +kernel
theorem dX0_tryFrom_73 : decode cX0_tryFrom 73 = .ok (.invokestatic 61, 3) := by decide +kernel
theorem dX0_tryFrom_76 : decode cX0_tryFrom 76 = .ok (.ifCond .le 25, 3) := by decide +kernel
theorem dX0_tryFrom_79 : decode cX0_tryFrom 79 = .ok (.aload_n 0, 1) := by decide +kernel
theorem dX0_tryFrom_80 : decode cX0_tryFrom 80 = .ok (.getfield 9, 3) := by decide +kernel
theorem dX0_tryFrom_83 : decode cX0_tryFrom 83 = .ok (.iload_n 1, 1) := by decide +kernel
theorem dX0_tryFrom_84 : decode cX0_tryFrom 84 = .ok (.iload 4, 2) := by decide +kernel
theorem dX0_tryFrom_86 : decode cX0_tryFrom 86 = .ok (.iastore, 1) := by decide +kernel
theorem dX0_tryFrom_87 : decode cX0_tryFrom 87 = .ok (.aload_n 0, 1) := by decide +kernel
theorem dX0_tryFrom_88 : decode cX0_tryFrom 88 = .ok (.iload_n 1, 1) := by decide +kernel
theorem dX0_tryFrom_89 : decode cX0_tryFrom 89 = .ok (.iload_n 2, 1) := by decide +kernel
theorem dX0_tryFrom_90 : decode cX0_tryFrom 90 = .ok (.iload 4, 2) := by decide +kernel
theorem dX0_tryFrom_92 : decode cX0_tryFrom 92 = .ok (.invokestatic 67, 3) := by decide +kernel
theorem dX0_tryFrom_95 : decode cX0_tryFrom 95 = .ok (.iload_n 3, 1) := by decide +kernel
theorem dX0_tryFrom_96 : decode cX0_tryFrom 96 = .ok (.iconst 1, 1) := by decide +kernel
theorem dX0_tryFrom_97 : decode cX0_tryFrom 97 = .ok (.iadd, 1) := by decide +kernel
theorem dX0_tryFrom_98 : decode cX0_tryFrom 98 = .ok (.invokevirtual 55, 3) := by decide +kernel
theorem dX0_tryFrom_101 : decode cX0_tryFrom 101 = .ok (.iinc 4 1, 3) := by decide +kernel
theorem dX0_tryFrom_104 : decode cX0_tryFrom 104 = .ok (.goto (-46), 3) := by decide +kernel
theorem dX0_tryFrom_107 : decode cX0_tryFrom 107 = .ok (.return_, 1) := by decide +kernel
theorem dX0_tryBar_0 : decode cX0_tryBar 0 = .ok (.aload_n 0, 1) := by decide +kernel
theorem dX0_tryBar_1 : decode cX0_tryBar 1 = .ok (.getfield 26, 3) := by decide +kernel
theorem dX0_tryBar_4 : decode cX0_tryBar 4 = .ok (.iload_n 1, 1) := by decide +kernel
theorem dX0_tryBar_5 : decode cX0_tryBar 5 = .ok (.iload_n 2, 1) := by decide +kernel
theorem dX0_tryBar_6 : decode cX0_tryBar 6 = .ok (.invokevirtual 70, 3) := by decide +kernel
theorem dX0_tryBar_9 : decode cX0_tryBar 9 = .ok (.istore 4, 2) := by decide +kernel
theorem dX0_tryBar_11 : decode cX0_tryBar 11 = .ok (.iload 4, 2) := by decide +kernel
theorem dX0_tryBar_13 : decode cX0_tryBar 13 = .ok (.invokestatic 75, 3) := by decide +kernel
theorem dX0_tryBar_16 : decode cX0_tryBar 16 = .ok (.aload_n 0, 1) := by decide +kernel
theorem dX0_tryBar_17 : decode cX0_tryBar 17 = .ok (.getfield 18, 3) := by decide +kernel
theorem dX0_tryBar_20 : decode cX0_tryBar 20 = .ok (.getfield 79, 3) := by decide +kernel
theorem dX0_tryBar_23 : decode cX0_tryBar 23 = .ok (.iload_n 1, 1) := by decide +kernel
theorem dX0_tryBar_24 : decode cX0_tryBar 24 = .ok (.iaload, 1) := by decide +kernel
theorem dX0_tryBar_25 : decode cX0_tryBar 25 = .ok (.if_icmp .ne 22, 3) := by decide +kernel
theorem dX0_tryBar_28 : decode cX0_tryBar 28 = .ok (.aload_n 0, 1) := by decide +kernel
theorem dX0_tryBar_29 : decode cX0_tryBar 29 = .ok (.iload_n 1, 1) := by decide +kernel
theorem dX0_tryBar_30 : decode cX0_tryBar 30 = .ok (.iconst 1, 1) := by decide +kernel
theorem dX0_tryBar_31 : decode cX0_tryBar 31 = .ok (.iadd, 1) := by decide +kernel
theorem dX0_tryBar_32 : decode cX0_tryBar 32 = .ok (.aload_n 0, 1) := by decide +kernel
theorem dX0_tryBar_33 : decode cX0_tryBar 33 = .ok (.getfield 26, 3) := by decide +kernel
theorem dX0_tryBar_36 : decode cX0_tryBar 36 = .ok (.iload_n 1, 1) := by decide +kernel
theorem dX0_tryBar_37 : decode cX0_tryBar 37 = .ok (.iload_n 2, 1) := by decide +kernel
theorem dX0_tryBar_38 : decode cX0_tryBar 38 = .ok (.iload 4, 2) := by decide +kernel
theorem dX0_tryBar_40 : decode cX0_tryBar 40 = .ok (.invokevirtual 82, 3) := by decide +kernel
theorem dX0_tryBar_43 : decode cX0_tryBar 43 = .ok (.iload_n 3, 1) := by decide +kernel
theorem dX0_tryBar_44 : decode cX0_tryBar 44 = .ok (.invokevirtual 39, 3) := by decide +kernel
theorem dX0_tryBar_47 : decode cX0_tryBar 47 = .ok (.return_, 1) := by decide +kernel
theorem dX1_init_0 : decode cX1_init 0 = .ok (.aload_n 0, 1) := by decide +kernel
theorem dX1_init_1 : decode cX1_init 1 = .ok (.invokespecial 3, 3) := by decide +kernel
theorem dX1_init_4 : decode cX1_init 4 = .ok (.aload_n 0, 1) := by decide +kernel
theorem dX1_init_5 : decode cX1_init 5 = .ok (.aload_n 1, 1) := by decide +kernel
theorem dX1_init_6 : decode cX1_init 6 = .ok (.putfield 9, 3) := by decide +kernel
theorem dX1_init_9 : decode cX1_init 9 = .ok (.aload_n 0, 1) := by decide +kernel
theorem dX1_init_10 : decode cX1_init 10 = .ok (.aload_n 2, 1) := by decide +kernel
theorem dX1_init_11 : decode cX1_init 11 = .ok (.putfield 15, 3) := by decide +kernel
theorem dX1_init_14 : decode cX1_init 14 = .ok (.aload_n 0, 1) := by decide +kernel
theorem dX1_init_15 : decode cX1_init 15 = .ok (.aload_n 3, 1) := by decide +kernel
theorem dX1_init_16 : decode cX1_init 16 = .ok (.putfield 19, 3) := by decide +kernel
theorem dX1_init_19 : decode cX1_init 19 = .ok (.return_, 1) := by decide +kernel
theorem dX1_blow_0 : decode cX1_blow 0 = .ok (.aload_n 0, 1) := by decide +kernel
theorem dX1_blow_1 : decode cX1_blow 1 = .ok (.iconst 0, 1) := by decide +kernel
theorem dX1_blow_2 : decode cX1_blow 2 = .ok (.putfield 23, 3) := by decide +kernel
theorem dX1_blow_5 : decode cX1_blow 5 = .ok (.aload_n 0, 1) := by decide +kernel
theorem dX1_blow_6 : decode cX1_blow 6 = .ok (.iconst 0, 1) := by decide +kernel
theorem dX1_blow_7 : decode cX1_blow 7 = .ok (.putfield 27, 3) := by decide +kernel
theorem dX1_blow_10 : decode cX1_blow 10 = .ok (.aload_n 0, 1) := by decide +kernel
theorem dX1_blow_11 : decode cX1_blow 11 = .ok (.iload_n 2, 1) := by decide +kernel
theorem dX1_blow_12 : decode cX1_blow 12 = .ok (.putfield 30, 3) := by decide +kernel
theorem dX1_blow_15 : decode cX1_blow 15 = .ok (.iconst 0, 1) := by decide +kernel
theorem dX1_blow_16 : decode cX1_blow 16 = .ok (.istore_n 3, 1) := by decide +kernel
theorem dX1_blow_17 : decode cX1_blow 17 = .ok (.iload_n 3, 1) := by decide +kernel
theorem dX1_blow_18 : decode cX1_blow 18 = .ok (.iload_n 1, 1) := by decide +kernel
theorem dX1_blow_19 : decode cX1_blow 19 = .ok (.if_icmp .ge 13, 3) := by decide +kernel
theorem dX1_blow_22 : decode cX1_blow 22 = .ok (.aload_n 0, 1) := by decide +kernel
theorem dX1_blow_23 : decode cX1_blow 23 = .ok (.invokevirtual 33, 3) := by decide +kernel
theorem dX1_blow_26 : decode cX1_blow 26 = .ok (.iinc 3 1, 3) := by decide +kernel
theorem dX1_blow_29 : decode cX1_blow 29 = .ok (.goto (-12), 3) := by decide +kernel
theorem dX1_blow_32 : decode cX1_blow 32 = .ok (.return_, 1) := by decide +kernel
theorem dX1_blowOnce_0 : decode cX1_blowOnce 0 = .ok (.aload_n 0, 1) := by decide +kernel
theorem dX1_blowOnce_1 : decode cX1_blowOnce 1 = .ok (.getfield 15, 3) := by decide +kernel
theorem dX1_blowOnce_4 : decode cX1_blowOnce 4 = .ok (.getfield 36, 3) := by decide +kernel
theorem dX1_blowOnce_7 : decode cX1_blowOnce 7 = .ok (.istore_n 1, 1) := by decide +kernel
theorem dX1_blowOnce_8 : decode cX1_blowOnce 8 = .ok (.iconst 0, 1) := by decide +kernel
theorem dX1_blowOnce_9 : decode cX1_blowOnce 9 = .ok (.istore_n 2, 1) := by decide +kernel
theorem dX1_blowOnce_10 : decode cX1_blowOnce 10 = .ok (.iload_n 2, 1) := by decide +kernel
theorem dX1_blowOnce_11 : decode cX1_blowOnce 11 = .ok (.aload_n 0, 1) := by decide +kernel
theorem dX1_blowOnce_12 : decode cX1_blowOnce 12 = .ok (.getfield 9, 3) := by decide +kernel
theorem dX1_blowOnce_15 : decode cX1_blowOnce 15 = .ok (.getfield 41, 3) := by decide +kernel
theorem dX1_blowOnce_18 : decode cX1_blowOnce 18 = .ok (.if_icmp .ge 93, 3) := by decide +kernel
theorem dX1_blowOnce_21 : decode cX1_blowOnce 21 = .ok (.aload_n 0, 1) := by decide +kernel
theorem dX1_blowOnce_22 : decode cX1_blowOnce 22 = .ok (.aload_n 0, 1) := by decide +kernel
theorem dX1_blowOnce_23 : decode cX1_blowOnce 23 = .ok (.getfield 15, 3) := by decide +kernel
theorem dX1_blowOnce_26 : decode cX1_blowOnce 26 = .ok (.getfield 46, 3) := by decide +kernel
theorem dX1_blowOnce_29 : decode cX1_blowOnce 29 = .ok (.invokevirtual 49, 3) := by decide +kernel
theorem dX1_blowOnce_32 : decode cX1_blowOnce 32 = .ok (.istore_n 3, 1) := by decide +kernel
theorem dX1_blowOnce_33 : decode cX1_blowOnce 33 = .ok (.aload_n 0, 1) := by decide +kernel
theorem dX1_blowOnce_34 : decode cX1_blowOnce 34 = .ok (.bipush 6, 2) := by decide +kernel
theorem dX1_blowOnce_36 : decode cX1_blowOnce 36 = .ok (.invokevirtual 49, 3) := by decide +kernel
theorem dX1_blowOnce_39 : decode cX1_blowOnce 39 = .ok (.ifCond .ne 19, 3) := by decide +kernel
theorem dX1_blowOnce_42 : decode cX1_blowOnce 42 = .ok (.iload_n 1, 1) := by decide +kernel
theorem dX1_blowOnce_43 : decode cX1_blowOnce 43 = .ok (.iload_n 3, 1) := by decide +kernel
theorem dX1_blowOnce_44 : decode cX1_blowOnce 44 = .ok (.invokestatic 53, 3) := by decide +kernel
theorem dX1_blowOnce_47 : decode cX1_blowOnce 47 = .ok (.istore_n 1, 1) := by decide +kernel
theorem dX1_blowOnce_48 : decode cX1_blowOnce 48 = .ok (.aload_n 0, 1) := by decide +kernel
theorem dX1_blowOnce_49 : decode cX1_blowOnce 49 = .ok (.dup, 1) := by decide +kernel
theorem dX1_blowOnce_50 : decode cX1_blowOnce 50 = .ok (.getfield 27, 3) := by decide +kernel
theorem dX1_blowOnce_53 : decode cX1_blowOnce 53 = .ok (.iconst 1, 1) := by decide +kernel
theorem dX1_blowOnce_54 : decode cX1_blowOnce 54 = .ok (.iadd, 1) := by decide +kernel
theorem dX1_blowOnce_55 : decode cX1_blowOnce 55 = .ok (.putfield 27, 3) := by decide +kernel
theorem dX1_blowOnce_58 : decode cX1_blowOnce 58 = .ok (.aload_n 0, 1) := by decide +kernel
theorem dX1_blowOnce_59 : decode cX1_blowOnce 59 = .ok (.getfield 19, 3) := by decide +kernel
theorem dX1_blowOnce_62 : decode cX1_blowOnce 62 = .ok (.iload_n 2, 1) := by decide +kernel
theorem dX1_blowOnce_63 : decode cX1_blowOnce 63 = .ok (.iload_n 1, 1) := by decide +kernel
theorem dX1_blowOnce_64 : decode cX1_blowOnce 64 = .ok (.invokevirtual 57, 3) := by decide +kernel
theorem dX1_blowOnce_67 : decode cX1_blowOnce 67 = .ok (.istore 4, 2) := by decide +kernel
theorem dX1_blowOnce_69 : decode cX1_blowOnce 69 = .ok (.aload_n 0, 1) := by decide +kernel
theorem dX1_blowOnce_70 : decode cX1_blowOnce 70 = .ok (.dup, 1) := by decide +kernel
theorem dX1_blowOnce_71 : decode cX1_blowOnce 71 = .ok (.getfield 23, 3) := by decide +kernel
theorem dX1_blowOnce_74 : decode cX1_blowOnce 74 = .ok (.aload_n 0, 1) := by decide +kernel
theorem dX1_blowOnce_75 : decode cX1_blowOnce 75 = .ok (.getfield 9, 3) := by decide +kernel
theorem dX1_blowOnce_78 : decode cX1_blowOnce 78 = .ok (.getfield 62, 3) := by decide +kernel
theorem dX1_blowOnce_81 : decode cX1_blowOnce 81 = .ok (.iload_n 2, 1) := by decide +kernel
theorem dX1_blowOnce_82 : decode cX1_blowOnce 82 = .ok (.iaload, 1) := by decide +kernel
theorem dX1_blowOnce_83 : decode cX1_blowOnce 83 = .ok (.iload 4, 2) := by decide +kernel
theorem dX1_blowOnce_85 : decode cX1_blowOnce 85 = .ok (.invokestatic 66, 3) := by decide +kernel
theorem dX1_blowOnce_88 : decode cX1_blowOnce 88 = .ok (.isub, 1) := by decide +kernel
theorem dX1_blowOnce_89 : decode cX1_blowOnce 89 = .ok (.iadd, 1) := by decide +kernel
theorem dX1_blowOnce_90 : decode cX1_blowOnce 90 = .ok (.putfield 23, 3) := by decide +kernel
theorem dX1_blowOnce_93 : decode cX1_blowOnce 93 = .ok (.aload_n 0, 1) := by decide +kernel
theorem dX1_blowOnce_94 : decode cX1_blowOnce 94 = .ok (.getfield 19, 3) := by decide +kernel
theorem dX1_blowOnce_97 : decode cX1_blowOnce 97 = .ok (.iload_n 2, 1) := by decide +kernel
theorem dX1_blowOnce_98 : decode cX1_blowOnce 98 = .ok (.iload_n 1, 1) := by decide +kernel
theorem dX1_blowOnce_99 : decode cX1_blowOnce 99 = .ok (.iload 4, 2) := by decide +kernel
theorem dX1_blowOnce_101 : decode cX1_blowOnce 101 = .ok (.invokevirtual 71, 3) := by decide +kernel
theorem dX1_blowOnce_104 : decode cX1_blowOnce 104 = .ok (.istore_n 1, 1) := by decide +kernel
theorem dX1_blowOnce_105 : decode cX1_blowOnce 105 = .ok (.iinc 2 1, 3) := by decide +kernel
theorem dX1_blowOnce_108 : decode cX1_blowOnce 108 = .ok (.goto (-98), 3) := by decide +kernel
theorem dX1_blowOnce_111 : decode cX1_blowOnce 111 = .ok (.return_, 1) := by decide +kernel
theorem dX1_draw_0 : decode cX1_draw 0 = .ok (.aload_n 0, 1) := by decide +kernel
theorem dX1_draw_1 : decode cX1_draw 1 = .ok (.ldc2_w 75, 3) := by decide +kernel
theorem dX1_draw_4 : decode cX1_draw 4 = .ok (.aload_n 0, 1) := by decide +kernel
theorem dX1_draw_5 : decode cX1_draw 5 = .ok (.getfield 30, 3) := by decide +kernel
theorem dX1_draw_8 : decode cX1_draw 8 = .ok (.i2l, 1) := by decide +kernel
theorem dX1_draw_9 : decode cX1_draw 9 = .ok (.lmul, 1) := by decide +kernel
theorem dX1_draw_10 : decode cX1_draw 10 = .ok (.ldc2_w 77, 3) := by decide +kernel
theorem dX1_draw_13 : decode cX1_draw 13 = .ok (.ladd, 1) := by decide +kernel
theorem dX1_draw_14 : decode cX1_draw 14 = .ok (.ldc2_w 79, 3) := by decide +kernel
theorem dX1_draw_17 : decode cX1_draw 17 = .ok (.land, 1) := by decide +kernel
theorem dX1_draw_18 : decode cX1_draw 18 = .ok (.l2i, 1) := by decide +kernel
theorem dX1_draw_19 : decode cX1_draw 19 = .ok (.putfield 30, 3) := by decide +kernel
theorem dX1_draw_22 : decode cX1_draw 22 = .ok (.iload_n 1, 1) := by decide +kernel
theorem dX1_draw_23 : decode cX1_draw 23 = .ok (.ifCond .le 15, 3) := by decide +kernel
theorem dX1_draw_26 : decode cX1_draw 26 = .ok (.aload_n 0, 1) := by decide +kernel
theorem dX1_draw_27 : decode cX1_draw 27 = .ok (.getfield 30, 3) := by decide +kernel
theorem dX1_draw_30 : decode cX1_draw 30 = .ok (.ldc 81, 2) := by decide +kernel
theorem dX1_draw_32 : decode cX1_draw 32 = .ok (.idiv, 1) := by decide +kernel
theorem dX1_draw_33 : decode cX1_draw 33 = .ok (.iload_n 1, 1) := by decide +kernel
theorem dX1_draw_34 : decode cX1_draw 34 = .ok (.irem, 1) := by decide +kernel
theorem dX1_draw_35 : decode cX1_draw 35 = .ok (.goto 4, 3) := by decide +kernel
theorem dX1_draw_38 : decode cX1_draw 38 = .ok (.iconst 0, 1) := by decide +kernel
theorem dX1_draw_39 : decode cX1_draw 39 = .ok (.ireturn, 1) := by decide +kernel
theorem dX2_init_0 : decode cX2_init 0 = .ok (.aload_n 0, 1) := by decide +kernel
theorem dX2_init_1 : decode cX2_init 1 = .ok (.invokespecial 3, 3) := by decide +kernel
theorem dX2_init_4 : decode cX2_init 4 = .ok (.aload_n 0, 1) := by decide +kernel
theorem dX2_init_5 : decode cX2_init 5 = .ok (.aload_n 1, 1) := by decide +kernel
theorem dX2_init_6 : decode cX2_init 6 = .ok (.putfield 9, 3) := by decide +kernel
theorem dX2_init_9 : decode cX2_init 9 = .ok (.aload_n 0, 1) := by decide +kernel
theorem dX2_init_10 : decode cX2_init 10 = .ok (.aload_n 2, 1) := by decide +kernel
theorem dX2_init_11 : decode cX2_init 11 = .ok (.putfield 15, 3) := by decide +kernel
theorem dX2_init_14 : decode cX2_init 14 = .ok (.return_, 1) := by decide +kernel
theorem dX2_awakeOf_0 : decode cX2_awakeOf 0 = .ok (.iconst 0, 1) := by decide +kernel
theorem dX2_awakeOf_1 : decode cX2_awakeOf 1 = .ok (.istore_n 2, 1) := by decide +kernel
theorem dX2_awakeOf_2 : decode cX2_awakeOf 2 = .ok (.iconst 0, 1) := by decide +kernel
theorem dX2_awakeOf_3 : decode cX2_awakeOf 3 = .ok (.istore_n 3, 1) := by decide +kernel
theorem dX2_awakeOf_4 : decode cX2_awakeOf 4 = .ok (.iload_n 3, 1) := by decide +kernel
theorem dX2_awakeOf_5 : decode cX2_awakeOf 5 = .ok (.aload_n 0, 1) := by decide +kernel
theorem dX2_awakeOf_6 : decode cX2_awakeOf 6 = .ok (.getfield 15, 3) := by decide +kernel
theorem dX2_awakeOf_9 : decode cX2_awakeOf 9 = .ok (.getfield 19, 3) := by decide +kernel
theorem dX2_awakeOf_12 : decode cX2_awakeOf 12 = .ok (.if_icmp .ge 30, 3) := by decide +kernel
theorem dX2_awakeOf_15 : decode cX2_awakeOf 15 = .ok (.iload_n 1, 1) := by decide +kernel
theorem dX2_awakeOf_16 : decode cX2_awakeOf 16 = .ok (.iload_n 3, 1) := by decide +kernel
theorem dX2_awakeOf_17 : decode cX2_awakeOf 17 = .ok (.invokestatic 25, 3) := by decide +kernel
theorem dX2_awakeOf_20 : decode cX2_awakeOf 20 = .ok (.aload_n 0, 1) := by decide +kernel
theorem dX2_awakeOf_21 : decode cX2_awakeOf 21 = .ok (.getfield 9, 3) := by decide +kernel
theorem dX2_awakeOf_24 : decode cX2_awakeOf 24 = .ok (.getfield 31, 3) := by decide +kernel
theorem dX2_awakeOf_27 : decode cX2_awakeOf 27 = .ok (.if_icmp .ge 9, 3) := by decide +kernel
theorem dX2_awakeOf_30 : decode cX2_awakeOf 30 = .ok (.iload_n 2, 1) := by decide +kernel
theorem dX2_awakeOf_31 : decode cX2_awakeOf 31 = .ok (.iconst 1, 1) := by decide +kernel
theorem dX2_awakeOf_32 : decode cX2_awakeOf 32 = .ok (.iload_n 3, 1) := by decide +kernel
theorem dX2_awakeOf_33 : decode cX2_awakeOf 33 = .ok (.ishl, 1) := by decide +kernel
theorem dX2_awakeOf_34 : decode cX2_awakeOf 34 = .ok (.ior, 1) := by decide +kernel
theorem dX2_awakeOf_35 : decode cX2_awakeOf 35 = .ok (.istore_n 2, 1) := by decide +kernel
theorem dX2_awakeOf_36 : decode cX2_awakeOf 36 = .ok (.iinc 3 1, 3) := by decide +kernel
theorem dX2_awakeOf_39 : decode cX2_awakeOf 39 = .ok (.goto (-35), 3) := by decide +kernel
theorem dX2_awakeOf_42 : decode cX2_awakeOf 42 = .ok (.iload_n 2, 1) := by decide +kernel
theorem dX2_awakeOf_43 : decode cX2_awakeOf 43 = .ok (.ireturn, 1) := by decide +kernel
theorem dX2_heardWith_0 : decode cX2_heardWith 0 = .ok (.iload_n 1, 1) := by decide +kernel
theorem dX2_heardWith_1 : decode cX2_heardWith 1 = .ok (.aload_n 0, 1) := by decide +kernel
theorem dX2_heardWith_2 : decode cX2_heardWith 2 = .ok (.getfield 15, 3) := by decide +kernel
theorem dX2_heardWith_5 : decode cX2_heardWith 5 = .ok (.getfield 36, 3) := by decide +kernel
theorem dX2_heardWith_8 : decode cX2_heardWith 8 = .ok (.iload_n 1, 1) := by decide +kernel
theorem dX2_heardWith_9 : decode cX2_heardWith 9 = .ok (.iconst 1, 1) := by decide +kernel
theorem dX2_heardWith_10 : decode cX2_heardWith 10 = .ok (.ishl, 1) := by decide +kernel
theorem dX2_heardWith_11 : decode cX2_heardWith 11 = .ok (.iload_n 1, 1) := by decide +kernel
theorem dX2_heardWith_12 : decode cX2_heardWith 12 = .ok (.iconst 1, 1) := by decide +kernel
theorem dX2_heardWith_13 : decode cX2_heardWith 13 = .ok (.ishr, 1) := by decide +kernel
theorem dX2_heardWith_14 : decode cX2_heardWith 14 = .ok (.ior, 1) := by decide +kernel
theorem dX2_heardWith_15 : decode cX2_heardWith 15 = .ok (.iand, 1) := by decide +kernel
theorem dX2_heardWith_16 : decode cX2_heardWith 16 = .ok (.ior, 1) := by decide +kernel
theorem dX2_heardWith_17 : decode cX2_heardWith 17 = .ok (.ireturn, 1) := by decide +kernel
theorem dX2_sharesOf_0 : decode cX2_sharesOf 0 = .ok (.aload_n 0, 1) := by decide +kernel
theorem dX2_sharesOf_1 : decode cX2_sharesOf 1 = .ok (.aload_n 0, 1) := by decide +kernel
theorem dX2_sharesOf_2 : decode cX2_sharesOf 2 = .ok (.iload_n 2, 1) := by decide +kernel
theorem dX2_sharesOf_3 : decode cX2_sharesOf 3 = .ok (.invokevirtual 39, 3) := by decide +kernel
theorem dX2_sharesOf_6 : decode cX2_sharesOf 6 = .ok (.invokevirtual 43, 3) := by decide +kernel
theorem dX2_sharesOf_9 : decode cX2_sharesOf 9 = .ok (.istore_n 3, 1) := by decide +kernel
theorem dX2_sharesOf_10 : decode cX2_sharesOf 10 = .ok (.aload_n 0, 1) := by decide +kernel
theorem dX2_sharesOf_11 : decode cX2_sharesOf 11 = .ok (.getfield 9, 3) := by decide +kernel
theorem dX2_sharesOf_14 : decode cX2_sharesOf 14 = .ok (.getfield 46, 3) := by decide +kernel
theorem dX2_sharesOf_17 : decode cX2_sharesOf 17 = .ok (.iload_n 1, 1) := by decide +kernel
theorem dX2_sharesOf_18 : decode cX2_sharesOf 18 = .ok (.iaload, 1) := by decide +kernel
theorem dX2_sharesOf_19 : decode cX2_sharesOf 19 = .ok (.istore 4, 2) := by decide +kernel
theorem dX2_sharesOf_21 : decode cX2_sharesOf 21 = .ok (.iconst 0, 1) := by decide +kernel
theorem dX2_sharesOf_22 : decode cX2_sharesOf 22 = .ok (.istore 5, 2) := by decide +kernel
theorem dX2_sharesOf_24 : decode cX2_sharesOf 24 = .ok (.iconst 0, 1) := by decide +kernel
theorem dX2_sharesOf_25 : decode cX2_sharesOf 25 = .ok (.istore 6, 2) := by decide +kernel
theorem dX2_sharesOf_27 : decode cX2_sharesOf 27 = .ok (.iload 6, 2) := by decide +kernel
theorem dX2_sharesOf_29 : decode cX2_sharesOf 29 = .ok (.iconst 4, 1) := by decide +kernel
theorem dX2_sharesOf_30 : decode cX2_sharesOf 30 = .ok (.if_icmp .ge 73, 3) := by decide +kernel
theorem dX2_sharesOf_33 : decode cX2_sharesOf 33 = .ok (.iload 4, 2) := by decide +kernel
theorem dX2_sharesOf_35 : decode cX2_sharesOf 35 = .ok (.ifCond .le 68, 3) := by decide +kernel
theorem dX2_sharesOf_38 : decode cX2_sharesOf 38 = .ok (.iload_n 3, 1) := by decide +kernel
theorem dX2_sharesOf_39 : decode cX2_sharesOf 39 = .ok (.ifCond .eq 64, 3) := by decide +kernel
theorem dX2_sharesOf_42 : decode cX2_sharesOf 42 = .ok (.iload_n 3, 1) := by decide +kernel
theorem dX2_sharesOf_43 : decode cX2_sharesOf 43 = .ok (.iload_n 2, 1) := by decide +kernel
theorem dX2_sharesOf_44 : decode cX2_sharesOf 44 = .ok (.invokestatic 50, 3) := by decide +kernel
theorem dX2_sharesOf_47 : decode cX2_sharesOf 47 = .ok (.istore 7, 2) := by decide +kernel
theorem dX2_sharesOf_49 : decode cX2_sharesOf 49 = .ok (.iload 4, 2) := by decide +kernel
theorem dX2_sharesOf_51 : decode cX2_sharesOf 51 = .ok (.getstatic 53, 3) := by decide +kernel
theorem dX2_sharesOf_54 : decode cX2_sharesOf 54 = .ok (.aload_n 0, 1) := by decide +kernel
theorem dX2_sharesOf_55 : decode cX2_sharesOf 55 = .ok (.getfield 15, 3) := by decide +kernel
theorem dX2_sharesOf_58 : decode cX2_sharesOf 58 = .ok (.getfield 56, 3) := by decide +kernel
theorem dX2_sharesOf_61 : decode cX2_sharesOf 61 = .ok (.iload 7, 2) := by decide +kernel
theorem dX2_sharesOf_63 : decode cX2_sharesOf 63 = .ok (.iaload, 1) := by decide +kernel
theorem dX2_sharesOf_64 : decode cX2_sharesOf 64 = .ok (.iaload, 1) := by decide +kernel
theorem dX2_sharesOf_65 : decode cX2_sharesOf 65 = .ok (.invokestatic 59, 3) := by decide +kernel
theorem dX2_sharesOf_68 : decode cX2_sharesOf 68 = .ok (.istore 8, 2) := by decide +kernel
theorem dX2_sharesOf_70 : decode cX2_sharesOf 70 = .ok (.iload 5, 2) := by decide +kernel
theorem dX2_sharesOf_72 : decode cX2_sharesOf 72 = .ok (.iload 7, 2) := by decide +kernel
theorem dX2_sharesOf_74 : decode cX2_sharesOf 74 = .ok (.iload 8, 2) := by decide +kernel
theorem dX2_sharesOf_76 : decode cX2_sharesOf 76 = .ok (.invokestatic 64, 3) := by decide +kernel
theorem dX2_sharesOf_79 : decode cX2_sharesOf 79 = .ok (.istore 5, 2) := by decide +kernel
theorem dX2_sharesOf_81 : decode cX2_sharesOf 81 = .ok (.iload 4, 2) := by decide +kernel
theorem dX2_sharesOf_83 : decode cX2_sharesOf 83 = .ok (.iload 8, 2) := by decide +kernel
theorem dX2_sharesOf_85 : decode cX2_sharesOf 85 = .ok (.isub, 1) := by decide +kernel
theorem dX2_sharesOf_86 : decode cX2_sharesOf 86 = .ok (.istore 4, 2) := by decide +kernel
theorem dX2_sharesOf_88 : decode cX2_sharesOf 88 = .ok (.iload_n 3, 1) := by decide +kernel
theorem dX2_sharesOf_89 : decode cX2_sharesOf 89 = .ok (.iconst 1, 1) := by decide +kernel
theorem dX2_sharesOf_90 : decode cX2_sharesOf 90 = .ok (.iload 7, 2) := by decide +kernel
theorem dX2_sharesOf_92 : decode cX2_sharesOf 92 = .ok (.ishl, 1) := by decide +kernel
theorem dX2_sharesOf_93 : decode cX2_sharesOf 93 = .ok (.iconst (-1), 1) := by decide +kernel
theorem dX2_sharesOf_94 : decode cX2_sharesOf 94 = .ok (.ixor, 1) := by decide +kernel
theorem dX2_sharesOf_95 : decode cX2_sharesOf 95 = .ok (.iand, 1) := by decide +kernel
theorem dX2_sharesOf_96 : decode cX2_sharesOf 96 = .ok (.istore_n 3, 1) := by decide +kernel
theorem dX2_sharesOf_97 : decode cX2_sharesOf 97 = .ok (.iinc 6 1, 3) := by decide +kernel
theorem dX2_sharesOf_100 : decode cX2_sharesOf 100 = .ok (.goto (-73), 3) := by decide +kernel
theorem dX2_sharesOf_103 : decode cX2_sharesOf 103 = .ok (.iload 5, 2) := by decide +kernel
theorem dX2_sharesOf_105 : decode cX2_sharesOf 105 = .ok (.ireturn, 1) := by decide +kernel
theorem dX2_leastTired_0 : decode cX2_leastTired 0 = .ok (.iconst 0, 1) := by decide +kernel
theorem dX2_leastTired_1 : decode cX2_leastTired 1 = .ok (.istore_n 2, 1) := by decide +kernel
theorem dX2_leastTired_2 : decode cX2_leastTired 2 = .ok (.bipush 10, 2) := by decide +kernel
theorem dX2_leastTired_4 : decode cX2_leastTired 4 = .ok (.istore_n 3, 1) := by decide +kernel
theorem dX2_leastTired_5 : decode cX2_leastTired 5 = .ok (.iconst 0, 1) := by decide +kernel
theorem dX2_leastTired_6 : decode cX2_leastTired 6 = .ok (.istore 4, 2) := by decide +kernel
theorem dX2_leastTired_8 : decode cX2_leastTired 8 = .ok (.iload 4, 2) := by decide +kernel
theorem dX2_leastTired_10 : decode cX2_leastTired 10 = .ok (.iconst 4, 1) := by decide +kernel
theorem dX2_leastTired_11 : decode cX2_leastTired 11 = .ok (.if_icmp .ge 39, 3) := by decide +kernel
theorem dX2_leastTired_14 : decode cX2_leastTired 14 = .ok (.iload_n 1, 1) := by decide +kernel
theorem dX2_leastTired_15 : decode cX2_leastTired 15 = .ok (.iload 4, 2) := by decide +kernel
theorem dX2_leastTired_17 : decode cX2_leastTired 17 = .ok (.invokestatic 25, 3) := by decide +kernel
theorem dX2_leastTired_20 : decode cX2_leastTired 20 = .ok (.istore 5, 2) := by decide +kernel
theorem dX2_leastTired_22 : decode cX2_leastTired 22 = .ok (.iload_n 0, 1) := by decide +kernel
theorem dX2_leastTired_23 : decode cX2_leastTired 23 = .ok (.iload 4, 2) := by decide +kernel
theorem dX2_leastTired_25 : decode cX2_leastTired 25 = .ok (.ishr, 1) := by decide +kernel
theorem dX2_leastTired_26 : decode cX2_leastTired 26 = .ok (.iconst 1, 1) := by decide +kernel
theorem dX2_leastTired_27 : decode cX2_leastTired 27 = .ok (.iand, 1) := by decide +kernel
theorem dX2_leastTired_28 : decode cX2_leastTired 28 = .ok (.iconst 1, 1) := by decide +kernel
theorem dX2_leastTired_29 : decode cX2_leastTired 29 = .ok (.if_icmp .ne 15, 3) := by decide +kernel
theorem dX2_leastTired_32 : decode cX2_leastTired 32 = .ok (.iload 5, 2) := by decide +kernel
theorem dX2_leastTired_34 : decode cX2_leastTired 34 = .ok (.iload_n 3, 1) := by decide +kernel
theorem dX2_leastTired_35 : decode cX2_leastTired 35 = .ok (.if_icmp .ge 9, 3) := by decide +kernel
theorem dX2_leastTired_38 : decode cX2_leastTired 38 = .ok (.iload 4, 2) := by decide +kernel
theorem dX2_leastTired_40 : decode cX2_leastTired 40 = .ok (.istore_n 2, 1) := by decide +kernel
theorem dX2_leastTired_41 : decode cX2_leastTired 41 = .ok (.iload 5, 2) := by decide +kernel
theorem dX2_leastTired_43 : decode cX2_leastTired 43 = .ok (.istore_n 3, 1) := by decide +kernel
theorem dX2_leastTired_44 : decode cX2_leastTired 44 = .ok (.iinc 4 1, 3) := by decide +kernel
theorem dX2_leastTired_47 : decode cX2_leastTired 47 = .ok (.goto (-39), 3) := by decide +kernel
theorem dX2_leastTired_50 : decode cX2_leastTired 50 = .ok (.iload_n 2, 1) := by decide +kernel
theorem dX2_leastTired_51 : decode cX2_leastTired 51 = .ok (.ireturn, 1) := by decide +kernel
theorem dX2_tiredBehind_0 : decode cX2_tiredBehind 0 = .ok (.aload_n 0, 1) := by decide +kernel
theorem dX2_tiredBehind_1 : decode cX2_tiredBehind 1 = .ok (.getfield 15, 3) := by decide +kernel
theorem dX2_tiredBehind_4 : decode cX2_tiredBehind 4 = .ok (.getfield 68, 3) := by decide +kernel
theorem dX2_tiredBehind_7 : decode cX2_tiredBehind 7 = .ok (.aload_n 0, 1) := by decide +kernel
theorem dX2_tiredBehind_8 : decode cX2_tiredBehind 8 = .ok (.iload_n 2, 1) := by decide +kernel
theorem dX2_tiredBehind_9 : decode cX2_tiredBehind 9 = .ok (.invokevirtual 39, 3) := by decide +kernel
theorem dX2_tiredBehind_12 : decode cX2_tiredBehind 12 = .ok (.iconst (-1), 1) := by decide +kernel
theorem dX2_tiredBehind_13 : decode cX2_tiredBehind 13 = .ok (.ixor, 1) := by decide +kernel
theorem dX2_tiredBehind_14 : decode cX2_tiredBehind 14 = .ok (.iand, 1) := by decide +kernel
theorem dX2_tiredBehind_15 : decode cX2_tiredBehind 15 = .ok (.istore 4, 2) := by decide +kernel
theorem dX2_tiredBehind_17 : decode cX2_tiredBehind 17 = .ok (.getstatic 71, 3) := by decide +kernel
theorem dX2_tiredBehind_20 : decode cX2_tiredBehind 20 = .ok (.aload_n 0, 1) := by decide +kernel
theorem dX2_tiredBehind_21 : decode cX2_tiredBehind 21 = .ok (.getfield 9, 3) := by decide +kernel
theorem dX2_tiredBehind_24 : decode cX2_tiredBehind 24 = .ok (.getfield 74, 3) := by decide +kernel
theorem dX2_tiredBehind_27 : decode cX2_tiredBehind 27 = .ok (.iload_n 1, 1) := by decide +kernel
theorem dX2_tiredBehind_28 : decode cX2_tiredBehind 28 = .ok (.iaload, 1) := by decide +kernel
theorem dX2_tiredBehind_29 : decode cX2_tiredBehind 29 = .ok (.iaload, 1) := by decide +kernel
theorem dX2_tiredBehind_30 : decode cX2_tiredBehind 30 = .ok (.istore 5, 2) := by decide +kernel
theorem dX2_tiredBehind_32 : decode cX2_tiredBehind 32 = .ok (.iconst 0, 1) := by decide +kernel
theorem dX2_tiredBehind_33 : decode cX2_tiredBehind 33 = .ok (.istore 6, 2) := by decide +kernel
theorem dX2_tiredBehind_35 : decode cX2_tiredBehind 35 = .ok (.iconst 0, 1) := by decide +kernel
theorem dX2_tiredBehind_36 : decode cX2_tiredBehind 36 = .ok (.istore 7, 2) := by decide +kernel
theorem dX2_tiredBehind_38 : decode cX2_tiredBehind 38 = .ok (.iload 7, 2) := by decide +kernel
theorem dX2_tiredBehind_40 : decode cX2_tiredBehind 40 = .ok (.aload_n 0, 1) := by decide +kernel
theorem dX2_tiredBehind_41 : decode cX2_tiredBehind 41 = .ok (.getfield 15, 3) := by decide +kernel
theorem dX2_tiredBehind_44 : decode cX2_tiredBehind 44 = .ok (.getfield 19, 3) := by decide +kernel
theorem dX2_tiredBehind_47 : decode cX2_tiredBehind 47 = .ok (.if_icmp .ge 91, 3) := by decide +kernel
theorem dX2_tiredBehind_50 : decode cX2_tiredBehind 50 = .ok (.iload_n 2, 1) := by decide +kernel
theorem dX2_tiredBehind_51 : decode cX2_tiredBehind 51 = .ok (.iload 7, 2) := by decide +kernel
theorem dX2_tiredBehind_53 : decode cX2_tiredBehind 53 = .ok (.invokestatic 25, 3) := by decide +kernel
theorem dX2_tiredBehind_56 : decode cX2_tiredBehind 56 = .ok (.iload 5, 2) := by decide +kernel
theorem dX2_tiredBehind_58 : decode cX2_tiredBehind 58 = .ok (.iadd, 1) := by decide +kernel
theorem dX2_tiredBehind_59 : decode cX2_tiredBehind 59 = .ok (.istore 8, 2) := by decide +kernel
theorem dX2_tiredBehind_61 : decode cX2_tiredBehind 61 = .ok (.iload 8, 2) := by decide +kernel
theorem dX2_tiredBehind_63 : decode cX2_tiredBehind 63 = .ok (.iload_n 3, 1) := by decide +kernel
theorem dX2_tiredBehind_64 : decode cX2_tiredBehind 64 = .ok (.iload 7, 2) := by decide +kernel
theorem dX2_tiredBehind_66 : decode cX2_tiredBehind 66 = .ok (.invokestatic 25, 3) := by decide +kernel
theorem dX2_tiredBehind_69 : decode cX2_tiredBehind 69 = .ok (.ifCond .le 7, 3) := by decide +kernel
theorem dX2_tiredBehind_72 : decode cX2_tiredBehind 72 = .ok (.iconst 1, 1) := by decide +kernel
theorem dX2_tiredBehind_73 : decode cX2_tiredBehind 73 = .ok (.goto 4, 3) := by decide +kernel
theorem dX2_tiredBehind_76 : decode cX2_tiredBehind 76 = .ok (.iconst 0, 1) := by decide +kernel
theorem dX2_tiredBehind_77 : decode cX2_tiredBehind 77 = .ok (.iadd, 1) := by decide +kernel
theorem dX2_tiredBehind_78 : decode cX2_tiredBehind 78 = .ok (.istore 8, 2) := by decide +kernel
theorem dX2_tiredBehind_80 : decode cX2_tiredBehind 80 = .ok (.iload 8, 2) := by decide +kernel
theorem dX2_tiredBehind_82 : decode cX2_tiredBehind 82 = .ok (.iload 4, 2) := by decide +kernel
theorem dX2_tiredBehind_84 : decode cX2_tiredBehind 84 = .ok (.iload 7, 2) := by decide +kernel
theorem dX2_tiredBehind_86 : decode cX2_tiredBehind 86 = .ok (.iconst 1, 1) := by decide +kernel
theorem dX2_tiredBehind_87 : decode cX2_tiredBehind 87 = .ok (.iadd, 1) := by decide +kernel
theorem dX2_tiredBehind_88 : decode cX2_tiredBehind 88 = .ok (.ishr, 1) := by decide +kernel
theorem dX2_tiredBehind_89 : decode cX2_tiredBehind 89 = .ok (.iconst 1, 1) := by decide +kernel
theorem dX2_tiredBehind_90 : decode cX2_tiredBehind 90 = .ok (.iand, 1) := by decide +kernel
theorem dX2_tiredBehind_91 : decode cX2_tiredBehind 91 = .ok (.isub, 1) := by decide +kernel
theorem dX2_tiredBehind_92 : decode cX2_tiredBehind 92 = .ok (.istore 8, 2) := by decide +kernel
theorem dX2_tiredBehind_94 : decode cX2_tiredBehind 94 = .ok (.iload 8, 2) := by decide +kernel
theorem dX2_tiredBehind_96 : decode cX2_tiredBehind 96 = .ok (.iload 4, 2) := by decide +kernel
theorem dX2_tiredBehind_98 : decode cX2_tiredBehind 98 = .ok (.iconst 1, 1) := by decide +kernel
theorem dX2_tiredBehind_99 : decode cX2_tiredBehind 99 = .ok (.ishl, 1) := by decide +kernel
theorem dX2_tiredBehind_100 : decode cX2_tiredBehind 100 = .ok (.iload 7, 2) := by decide +kernel
theorem dX2_tiredBehind_102 : decode cX2_tiredBehind 102 = .ok (.ishr, 1) := by decide +kernel
theorem dX2_tiredBehind_103 : decode cX2_tiredBehind 103 = .ok (.iconst 1, 1) := by decide +kernel
theorem dX2_tiredBehind_104 : decode cX2_tiredBehind 104 = .ok (.iand, 1) := by decide +kernel
theorem dX2_tiredBehind_105 : decode cX2_tiredBehind 105 = .ok (.isub, 1) := by decide +kernel
theorem dX2_tiredBehind_106 : decode cX2_tiredBehind 106 = .ok (.istore 8, 2) := by decide +kernel
theorem dX2_tiredBehind_108 : decode cX2_tiredBehind 108 = .ok (.iconst 0, 1) := by decide +kernel
theorem dX2_tiredBehind_109 : decode cX2_tiredBehind 109 = .ok (.bipush 9, 2) := by decide +kernel
theorem dX2_tiredBehind_111 : decode cX2_tiredBehind 111 = .ok (.iload 8, 2) := by decide +kernel
theorem dX2_tiredBehind_113 : decode cX2_tiredBehind 113 = .ok (.invokestatic 59, 3) := by decide +kernel
theorem dX2_tiredBehind_116 : decode cX2_tiredBehind 116 = .ok (.invokestatic 77, 3) := by decide +kernel
theorem dX2_tiredBehind_119 : decode cX2_tiredBehind 119 = .ok (.istore 8, 2) := by decide +kernel
theorem dX2_tiredBehind_121 : decode cX2_tiredBehind 121 = .ok (.iload 6, 2) := by decide +kernel
theorem dX2_tiredBehind_123 : decode cX2_tiredBehind 123 = .ok (.iload 7, 2) := by decide +kernel
theorem dX2_tiredBehind_125 : decode cX2_tiredBehind 125 = .ok (.iload 8, 2) := by decide +kernel
theorem dX2_tiredBehind_127 : decode cX2_tiredBehind 127 = .ok (.invokestatic 64, 3) := by decide +kernel
theorem dX2_tiredBehind_130 : decode cX2_tiredBehind 130 = .ok (.istore 6, 2) := by decide +kernel
theorem dX2_tiredBehind_132 : decode cX2_tiredBehind 132 = .ok (.iinc 7 1, 3) := by decide +kernel
theorem dX2_tiredBehind_135 : decode cX2_tiredBehind 135 = .ok (.goto (-97), 3) := by decide +kernel
theorem dX2_tiredBehind_138 : decode cX2_tiredBehind 138 = .ok (.iload 6, 2) := by decide +kernel
theorem dX2_tiredBehind_140 : decode cX2_tiredBehind 140 = .ok (.ireturn, 1) := by decide +kernel
theorem dX2_lossesFrom_0 : decode cX2_lossesFrom 0 = .ok (.iload_n 1, 1) := by decide +kernel
theorem dX2_lossesFrom_1 : decode cX2_lossesFrom 1 = .ok (.istore_n 2, 1) := by decide +kernel
theorem dX2_lossesFrom_2 : decode cX2_lossesFrom 2 = .ok (.iconst 0, 1) := by decide +kernel
theorem dX2_lossesFrom_3 : decode cX2_lossesFrom 3 = .ok (.istore_n 3, 1) := by decide +kernel
theorem dX2_lossesFrom_4 : decode cX2_lossesFrom 4 = .ok (.iconst 0, 1) := by decide +kernel
theorem dX2_lossesFrom_5 : decode cX2_lossesFrom 5 = .ok (.istore 4, 2) := by decide +kernel
theorem dX2_lossesFrom_7 : decode cX2_lossesFrom 7 = .ok (.iload 4, 2) := by decide +kernel
theorem dX2_lossesFrom_9 : decode cX2_lossesFrom 9 = .ok (.aload_n 0, 1) := by decide +kernel
theorem dX2_lossesFrom_10 : decode cX2_lossesFrom 10 = .ok (.getfield 9, 3) := by decide +kernel
theorem dX2_lossesFrom_13 : decode cX2_lossesFrom 13 = .ok (.getfield 80, 3) := by decide +kernel
theorem dX2_lossesFrom_16 : decode cX2_lossesFrom 16 = .ok (.if_icmp .ge 51, 3) := by decide +kernel
theorem dX2_lossesFrom_19 : decode cX2_lossesFrom 19 = .ok (.aload_n 0, 1) := by decide +kernel
theorem dX2_lossesFrom_20 : decode cX2_lossesFrom 20 = .ok (.iload 4, 2) := by decide +kernel
theorem dX2_lossesFrom_22 : decode cX2_lossesFrom 22 = .ok (.iload_n 2, 1) := by decide +kernel
theorem dX2_lossesFrom_23 : decode cX2_lossesFrom 23 = .ok (.invokevirtual 83, 3) := by decide +kernel
theorem dX2_lossesFrom_26 : decode cX2_lossesFrom 26 = .ok (.istore 5, 2) := by decide +kernel
theorem dX2_lossesFrom_28 : decode cX2_lossesFrom 28 = .ok (.iload_n 3, 1) := by decide +kernel
theorem dX2_lossesFrom_29 : decode cX2_lossesFrom 29 = .ok (.iload 4, 2) := by decide +kernel
theorem dX2_lossesFrom_31 : decode cX2_lossesFrom 31 = .ok (.aload_n 0, 1) := by decide +kernel
theorem dX2_lossesFrom_32 : decode cX2_lossesFrom 32 = .ok (.getfield 9, 3) := by decide +kernel
theorem dX2_lossesFrom_35 : decode cX2_lossesFrom 35 = .ok (.getfield 46, 3) := by decide +kernel
theorem dX2_lossesFrom_38 : decode cX2_lossesFrom 38 = .ok (.iload 4, 2) := by decide +kernel
theorem dX2_lossesFrom_40 : decode cX2_lossesFrom 40 = .ok (.iaload, 1) := by decide +kernel
theorem dX2_lossesFrom_41 : decode cX2_lossesFrom 41 = .ok (.iload 5, 2) := by decide +kernel
theorem dX2_lossesFrom_43 : decode cX2_lossesFrom 43 = .ok (.invokestatic 86, 3) := by decide +kernel
theorem dX2_lossesFrom_46 : decode cX2_lossesFrom 46 = .ok (.isub, 1) := by decide +kernel
theorem dX2_lossesFrom_47 : decode cX2_lossesFrom 47 = .ok (.invokestatic 64, 3) := by decide +kernel
theorem dX2_lossesFrom_50 : decode cX2_lossesFrom 50 = .ok (.istore_n 3, 1) := by decide +kernel
theorem dX2_lossesFrom_51 : decode cX2_lossesFrom 51 = .ok (.aload_n 0, 1) := by decide +kernel
theorem dX2_lossesFrom_52 : decode cX2_lossesFrom 52 = .ok (.iload 4, 2) := by decide +kernel
theorem dX2_lossesFrom_54 : decode cX2_lossesFrom 54 = .ok (.iload_n 2, 1) := by decide +kernel
theorem dX2_lossesFrom_55 : decode cX2_lossesFrom 55 = .ok (.iload 5, 2) := by decide +kernel
theorem dX2_lossesFrom_57 : decode cX2_lossesFrom 57 = .ok (.invokevirtual 89, 3) := by decide +kernel
theorem dX2_lossesFrom_60 : decode cX2_lossesFrom 60 = .ok (.istore_n 2, 1) := by decide +kernel
theorem dX2_lossesFrom_61 : decode cX2_lossesFrom 61 = .ok (.iinc 4 1, 3) := by decide +kernel
theorem dX2_lossesFrom_64 : decode cX2_lossesFrom 64 = .ok (.goto (-57), 3) := by decide +kernel
theorem dX2_lossesFrom_67 : decode cX2_lossesFrom 67 = .ok (.iload_n 3, 1) := by decide +kernel
theorem dX2_lossesFrom_68 : decode cX2_lossesFrom 68 = .ok (.ireturn, 1) := by decide +kernel
theorem dX3_init_0 : decode cX3_init 0 = .ok (.aload_n 0, 1) := by decide +kernel
theorem dX3_init_1 : decode cX3_init 1 = .ok (.invokespecial 3, 3) := by decide +kernel
theorem dX3_init_4 : decode cX3_init 4 = .ok (.aload_n 0, 1) := by decide +kernel
theorem dX3_init_5 : decode cX3_init 5 = .ok (.iconst 4, 1) := by decide +kernel
theorem dX3_init_6 : decode cX3_init 6 = .ok (.newarray .int, 2) := by decide +kernel
theorem dX3_init_8 : decode cX3_init 8 = .ok (.putfield 9, 3) := by decide +kernel
theorem dX3_init_11 : decode cX3_init 11 = .ok (.aload_n 0, 1) := by decide +kernel
theorem dX3_init_12 : decode cX3_init 12 = .ok (.iconst 4, 1) := by decide +kernel
theorem dX3_init_13 : decode cX3_init 13 = .ok (.newarray .int, 2) := by decide +kernel
theorem dX3_init_15 : decode cX3_init 15 = .ok (.putfield 15, 3) := by decide +kernel
theorem dX3_init_18 : decode cX3_init 18 = .ok (.aload_n 0, 1) := by decide +kernel
theorem dX3_init_19 : decode cX3_init 19 = .ok (.iconst 4, 1) := by decide +kernel
theorem dX3_init_20 : decode cX3_init 20 = .ok (.newarray .int, 2) := by decide +kernel
theorem dX3_init_22 : decode cX3_init 22 = .ok (.putfield 18, 3) := by decide +kernel
theorem dX3_init_25 : decode cX3_init 25 = .ok (.aload_n 0, 1) := by decide +kernel
theorem dX3_init_26 : decode cX3_init 26 = .ok (.bipush 6, 2) := by decide +kernel
theorem dX3_init_28 : decode cX3_init 28 = .ok (.newarray .int, 2) := by decide +kernel
theorem dX3_init_30 : decode cX3_init 30 = .ok (.putfield 21, 3) := by decide +kernel
theorem dX3_init_33 : decode cX3_init 33 = .ok (.aload_n 0, 1) := by decide +kernel
theorem dX3_init_34 : decode cX3_init 34 = .ok (.bipush 6, 2) := by decide +kernel
theorem dX3_init_36 : decode cX3_init 36 = .ok (.newarray .int, 2) := by decide +kernel
theorem dX3_init_38 : decode cX3_init 38 = .ok (.putfield 24, 3) := by decide +kernel
theorem dX3_init_41 : decode cX3_init 41 = .ok (.return_, 1) := by decide +kernel
theorem dX3_has_0 : decode cX3_has 0 = .ok (.iload_n 1, 1) := by decide +kernel
theorem dX3_has_1 : decode cX3_has 1 = .ok (.ifCond .lt 15, 3) := by decide +kernel
theorem dX3_has_4 : decode cX3_has 4 = .ok (.iload_n 1, 1) := by decide +kernel
theorem dX3_has_5 : decode cX3_has 5 = .ok (.aload_n 0, 1) := by decide +kernel
theorem dX3_has_6 : decode cX3_has 6 = .ok (.getfield 27, 3) := by decide +kernel
theorem dX3_has_9 : decode cX3_has 9 = .ok (.if_icmp .ge 7, 3) := by decide +kernel
theorem dX3_has_12 : decode cX3_has 12 = .ok (.iconst 1, 1) := by decide +kernel
theorem dX3_has_13 : decode cX3_has 13 = .ok (.goto 4, 3) := by decide +kernel
theorem dX3_has_16 : decode cX3_has 16 = .ok (.iconst 0, 1) := by decide +kernel
theorem dX3_has_17 : decode cX3_has 17 = .ok (.ireturn, 1) := by decide +kernel
theorem dX3_beginAnew_0 : decode cX3_beginAnew 0 = .ok (.aload_n 0, 1) := by decide +kernel
theorem dX3_beginAnew_1 : decode cX3_beginAnew 1 = .ok (.iconst 0, 1) := by decide +kernel
theorem dX3_beginAnew_2 : decode cX3_beginAnew 2 = .ok (.putfield 31, 3) := by decide +kernel
theorem dX3_beginAnew_5 : decode cX3_beginAnew 5 = .ok (.aload_n 0, 1) := by decide +kernel
theorem dX3_beginAnew_6 : decode cX3_beginAnew 6 = .ok (.iconst 0, 1) := by decide +kernel
theorem dX3_beginAnew_7 : decode cX3_beginAnew 7 = .ok (.putfield 27, 3) := by decide +kernel
theorem dX3_beginAnew_10 : decode cX3_beginAnew 10 = .ok (.aload_n 0, 1) := by decide +kernel
theorem dX3_beginAnew_11 : decode cX3_beginAnew 11 = .ok (.iconst 0, 1) := by decide +kernel
theorem dX3_beginAnew_12 : decode cX3_beginAnew 12 = .ok (.putfield 34, 3) := by decide +kernel
theorem dX3_beginAnew_15 : decode cX3_beginAnew 15 = .ok (.aload_n 0, 1) := by decide +kernel
theorem dX3_beginAnew_16 : decode cX3_beginAnew 16 = .ok (.iconst 0, 1) := by decide +kernel
theorem dX3_beginAnew_17 : decode cX3_beginAnew 17 = .ok (.putfield 37, 3) := by decide +kernel
theorem dX3_beginAnew_20 : decode cX3_beginAnew 20 = .ok (.aload_n 0, 1) := by decide +kernel
theorem dX3_beginAnew_21 : decode cX3_beginAnew 21 = .ok (.iconst 0, 1) := by decide +kernel
theorem dX3_beginAnew_22 : decode cX3_beginAnew 22 = .ok (.putfield 40, 3) := by decide +kernel
theorem dX3_beginAnew_25 : decode cX3_beginAnew 25 = .ok (.aload_n 0, 1) := by decide +kernel
theorem dX3_beginAnew_26 : decode cX3_beginAnew 26 = .ok (.iconst 0, 1) := by decide +kernel
theorem dX3_beginAnew_27 : decode cX3_beginAnew 27 = .ok (.putfield 43, 3) := by decide +kernel
theorem dX3_beginAnew_30 : decode cX3_beginAnew 30 = .ok (.aload_n 0, 1) := by decide +kernel
theorem dX3_beginAnew_31 : decode cX3_beginAnew 31 = .ok (.iconst 0, 1) := by decide +kernel
theorem dX3_beginAnew_32 : decode cX3_beginAnew 32 = .ok (.putfield 46, 3) := by decide +kernel
theorem dX3_beginAnew_35 : decode cX3_beginAnew 35 = .ok (.return_, 1) := by decide +kernel
theorem dX3_welcome_0 : decode cX3_welcome 0 = .ok (.aload_n 0, 1) := by decide +kernel
theorem dX3_welcome_1 : decode cX3_welcome 1 = .ok (.getfield 27, 3) := by decide +kernel
theorem dX3_welcome_4 : decode cX3_welcome 4 = .ok (.istore_n 3, 1) := by decide +kernel
theorem dX3_welcome_5 : decode cX3_welcome 5 = .ok (.iload_n 3, 1) := by decide +kernel
theorem dX3_welcome_6 : decode cX3_welcome 6 = .ok (.iconst 4, 1) := by decide +kernel
theorem dX3_welcome_7 : decode cX3_welcome 7 = .ok (.if_icmp .lt 5, 3) := by decide +kernel
theorem dX3_welcome_10 : decode cX3_welcome 10 = .ok (.iconst (-1), 1) := by decide +kernel
theorem dX3_welcome_11 : decode cX3_welcome 11 = .ok (.ireturn, 1) := by decide +kernel
theorem dX3_welcome_12 : decode cX3_welcome 12 = .ok (.aload_n 0, 1) := by decide +kernel
theorem dX3_welcome_13 : decode cX3_welcome 13 = .ok (.getfield 9, 3) := by decide +kernel
theorem dX3_welcome_16 : decode cX3_welcome 16 = .ok (.iload_n 3, 1) := by decide +kernel
theorem dX3_welcome_17 : decode cX3_welcome 17 = .ok (.iload_n 1, 1) := by decide +kernel
theorem dX3_welcome_18 : decode cX3_welcome 18 = .ok (.iastore, 1) := by decide +kernel
theorem dX3_welcome_19 : decode cX3_welcome 19 = .ok (.aload_n 0, 1) := by decide +kernel
theorem dX3_welcome_20 : decode cX3_welcome 20 = .ok (.getfield 15, 3) := by decide +kernel
theorem dX3_welcome_23 : decode cX3_welcome 23 = .ok (.iload_n 3, 1) := by decide +kernel
theorem dX3_welcome_24 : decode cX3_welcome 24 = .ok (.iconst 0, 1) := by decide +kernel
theorem dX3_welcome_25 : decode cX3_welcome 25 = .ok (.iastore, 1) := by decide +kernel
theorem dX3_welcome_26 : decode cX3_welcome 26 = .ok (.aload_n 0, 1) := by decide +kernel
theorem dX3_welcome_27 : decode cX3_welcome 27 = .ok (.getfield 18, 3) := by decide +kernel
theorem dX3_welcome_30 : decode cX3_welcome 30 = .ok (.iload_n 3, 1) := by decide +kernel
theorem dX3_welcome_31 : decode cX3_welcome 31 = .ok (.iconst 0, 1) := by decide +kernel
theorem dX3_welcome_32 : decode cX3_welcome 32 = .ok (.iastore, 1) := by decide +kernel
theorem dX3_welcome_33 : decode cX3_welcome 33 = .ok (.aload_n 0, 1) := by decide +kernel
theorem dX3_welcome_34 : decode cX3_welcome 34 = .ok (.aload_n 0, 1) := by decide +kernel
theorem dX3_welcome_35 : decode cX3_welcome 35 = .ok (.getfield 34, 3) := by decide +kernel
theorem dX3_welcome_38 : decode cX3_welcome 38 = .ok (.iload_n 3, 1) := by decide +kernel
theorem dX3_welcome_39 : decode cX3_welcome 39 = .ok (.iload_n 2, 1) := by decide +kernel
theorem dX3_welcome_40 : decode cX3_welcome 40 = .ok (.invokestatic 49, 3) := by decide +kernel
theorem dX3_welcome_43 : decode cX3_welcome 43 = .ok (.putfield 34, 3) := by decide +kernel
theorem dX3_welcome_46 : decode cX3_welcome 46 = .ok (.aload_n 0, 1) := by decide +kernel
theorem dX3_welcome_47 : decode cX3_welcome 47 = .ok (.dup, 1) := by decide +kernel
theorem dX3_welcome_48 : decode cX3_welcome 48 = .ok (.getfield 37, 3) := by decide +kernel
theorem dX3_welcome_51 : decode cX3_welcome 51 = .ok (.iload_n 1, 1) := by decide +kernel
theorem dX3_welcome_52 : decode cX3_welcome 52 = .ok (.iconst 2, 1) := by decide +kernel
theorem dX3_welcome_53 : decode cX3_welcome 53 = .ok (.if_icmp .ne 9, 3) := by decide +kernel
theorem dX3_welcome_56 : decode cX3_welcome 56 = .ok (.iconst 1, 1) := by decide +kernel
theorem dX3_welcome_57 : decode cX3_welcome 57 = .ok (.iload_n 3, 1) := by decide +kernel
theorem dX3_welcome_58 : decode cX3_welcome 58 = .ok (.ishl, 1) := by decide +kernel
theorem dX3_welcome_59 : decode cX3_welcome 59 = .ok (.goto 4, 3) := by decide +kernel
theorem dX3_welcome_62 : decode cX3_welcome 62 = .ok (.iconst 0, 1) := by decide +kernel
theorem dX3_welcome_63 : decode cX3_welcome 63 = .ok (.ior, 1) := by decide +kernel
theorem dX3_welcome_64 : decode cX3_welcome 64 = .ok (.putfield 37, 3) := by decide +kernel
theorem dX3_welcome_67 : decode cX3_welcome 67 = .ok (.aload_n 0, 1) := by decide +kernel
theorem dX3_welcome_68 : decode cX3_welcome 68 = .ok (.dup, 1) := by decide +kernel
theorem dX3_welcome_69 : decode cX3_welcome 69 = .ok (.getfield 40, 3) := by decide +kernel
theorem dX3_welcome_72 : decode cX3_welcome 72 = .ok (.iload_n 1, 1) := by decide +kernel
theorem dX3_welcome_73 : decode cX3_welcome 73 = .ok (.iconst 3, 1) := by decide +kernel
theorem dX3_welcome_74 : decode cX3_welcome 74 = .ok (.if_icmp .ne 9, 3) := by decide +kernel
theorem dX3_welcome_77 : decode cX3_welcome 77 = .ok (.iconst 1, 1) := by decide +kernel
theorem dX3_welcome_78 : decode cX3_welcome 78 = .ok (.iload_n 3, 1) := by decide +kernel
theorem dX3_welcome_79 : decode cX3_welcome 79 = .ok (.ishl, 1) := by decide +kernel
theorem dX3_welcome_80 : decode cX3_welcome 80 = .ok (.goto 4, 3) := by decide +kernel
theorem dX3_welcome_83 : decode cX3_welcome 83 = .ok (.iconst 0, 1) := by decide +kernel
theorem dX3_welcome_84 : decode cX3_welcome 84 = .ok (.ior, 1) := by decide +kernel
theorem dX3_welcome_85 : decode cX3_welcome 85 = .ok (.putfield 40, 3) := by decide +kernel
theorem dX3_welcome_88 : decode cX3_welcome 88 = .ok (.aload_n 0, 1) := by decide +kernel
theorem dX3_welcome_89 : decode cX3_welcome 89 = .ok (.dup, 1) := by decide +kernel
theorem dX3_welcome_90 : decode cX3_welcome 90 = .ok (.getfield 27, 3) := by decide +kernel
theorem dX3_welcome_93 : decode cX3_welcome 93 = .ok (.iconst 1, 1) := by decide +kernel
theorem dX3_welcome_94 : decode cX3_welcome 94 = .ok (.iadd, 1) := by decide +kernel
theorem dX3_welcome_95 : decode cX3_welcome 95 = .ok (.putfield 27, 3) := by decide +kernel
theorem dX3_welcome_98 : decode cX3_welcome 98 = .ok (.iload_n 3, 1) := by decide +kernel
theorem dX3_welcome_99 : decode cX3_welcome 99 = .ok (.ireturn, 1) := by decide +kernel
theorem dX3_hear_0 : decode cX3_hear 0 = .ok (.aload_n 0, 1) := by decide +kernel
theorem dX3_hear_1 : decode cX3_hear 1 = .ok (.getfield 31, 3) := by decide +kernel
theorem dX3_hear_4 : decode cX3_hear 4 = .ok (.bipush 6, 2) := by decide +kernel
theorem dX3_hear_6 : decode cX3_hear 6 = .ok (.if_icmp .ge 33, 3) := by decide +kernel
theorem dX3_hear_9 : decode cX3_hear 9 = .ok (.aload_n 0, 1) := by decide +kernel
theorem dX3_hear_10 : decode cX3_hear 10 = .ok (.getfield 21, 3) := by decide +kernel
theorem dX3_hear_13 : decode cX3_hear 13 = .ok (.aload_n 0, 1) := by decide +kernel
theorem dX3_hear_14 : decode cX3_hear 14 = .ok (.getfield 31, 3) := by decide +kernel
theorem dX3_hear_17 : decode cX3_hear 17 = .ok (.iload_n 1, 1) := by decide +kernel
theorem dX3_hear_18 : decode cX3_hear 18 = .ok (.iastore, 1) := by decide +kernel
theorem dX3_hear_19 : decode cX3_hear 19 = .ok (.aload_n 0, 1) := by decide +kernel
theorem dX3_hear_20 : decode cX3_hear 20 = .ok (.getfield 24, 3) := by decide +kernel
theorem dX3_hear_23 : decode cX3_hear 23 = .ok (.aload_n 0, 1) := by decide +kernel
theorem dX3_hear_24 : decode cX3_hear 24 = .ok (.getfield 31, 3) := by decide +kernel
theorem dX3_hear_27 : decode cX3_hear 27 = .ok (.iload_n 2, 1) := by decide +kernel
theorem dX3_hear_28 : decode cX3_hear 28 = .ok (.iastore, 1) := by decide +kernel
theorem dX3_hear_29 : decode cX3_hear 29 = .ok (.aload_n 0, 1) := by decide +kernel
theorem dX3_hear_30 : decode cX3_hear 30 = .ok (.dup, 1) := by decide +kernel
theorem dX3_hear_31 : decode cX3_hear 31 = .ok (.getfield 31, 3) := by decide +kernel
theorem dX3_hear_34 : decode cX3_hear 34 = .ok (.iconst 1, 1) := by decide +kernel
theorem dX3_hear_35 : decode cX3_hear 35 = .ok (.iadd, 1) := by decide +kernel
theorem dX3_hear_36 : decode cX3_hear 36 = .ok (.putfield 31, 3) := by decide +kernel
theorem dX3_hear_39 : decode cX3_hear 39 = .ok (.return_, 1) := by decide +kernel
theorem dX3_lastToldOf_0 : decode cX3_lastToldOf 0 = .ok (.aload_n 0, 1) := by decide +kernel
theorem dX3_lastToldOf_1 : decode cX3_lastToldOf 1 = .ok (.getfield 31, 3) := by decide +kernel
theorem dX3_lastToldOf_4 : decode cX3_lastToldOf 4 = .ok (.iconst 1, 1) := by decide +kernel
theorem dX3_lastToldOf_5 : decode cX3_lastToldOf 5 = .ok (.isub, 1) := by decide +kernel
theorem dX3_lastToldOf_6 : decode cX3_lastToldOf 6 = .ok (.istore_n 2, 1) := by decide +kernel
theorem dX3_lastToldOf_7 : decode cX3_lastToldOf 7 = .ok (.iload_n 2, 1) := by decide +kernel
theorem dX3_lastToldOf_8 : decode cX3_lastToldOf 8 = .ok (.ifCond .lt 26, 3) := by decide +kernel
theorem dX3_lastToldOf_11 : decode cX3_lastToldOf 11 = .ok (.aload_n 0, 1) := by decide +kernel
theorem dX3_lastToldOf_12 : decode cX3_lastToldOf 12 = .ok (.getfield 21, 3) := by decide +kernel
theorem dX3_lastToldOf_15 : decode cX3_lastToldOf 15 = .ok (.iload_n 2, 1) := by decide +kernel
theorem dX3_lastToldOf_16 : decode cX3_lastToldOf 16 = .ok (.iaload, 1) := by decide +kernel
theorem dX3_lastToldOf_17 : decode cX3_lastToldOf 17 = .ok (.iload_n 1, 1) := by decide +kernel
theorem dX3_lastToldOf_18 : decode cX3_lastToldOf 18 = .ok (.if_icmp .ne 10, 3) := by decide +kernel
theorem dX3_lastToldOf_21 : decode cX3_lastToldOf 21 = .ok (.aload_n 0, 1) := by decide +kernel
theorem dX3_lastToldOf_22 : decode cX3_lastToldOf 22 = .ok (.getfield 24, 3) := by decide +kernel
theorem dX3_lastToldOf_25 : decode cX3_lastToldOf 25 = .ok (.iload_n 2, 1) := by decide +kernel
theorem dX3_lastToldOf_26 : decode cX3_lastToldOf 26 = .ok (.iaload, 1) := by decide +kernel
theorem dX3_lastToldOf_27 : decode cX3_lastToldOf 27 = .ok (.ireturn, 1) := by decide +kernel
theorem dX3_lastToldOf_28 : decode cX3_lastToldOf 28 = .ok (.iinc 2 (-1), 3) := by decide +kernel
theorem dX3_lastToldOf_31 : decode cX3_lastToldOf 31 = .ok (.goto (-24), 3) := by decide +kernel
theorem dX3_lastToldOf_34 : decode cX3_lastToldOf 34 = .ok (.iconst (-1), 1) := by decide +kernel
theorem dX3_lastToldOf_35 : decode cX3_lastToldOf 35 = .ok (.ireturn, 1) := by decide +kernel
theorem dX3_isAsTold_0 : decode cX3_isAsTold 0 = .ok (.iconst 0, 1) := by decide +kernel
theorem dX3_isAsTold_1 : decode cX3_isAsTold 1 = .ok (.istore_n 2, 1) := by decide +kernel
theorem dX3_isAsTold_2 : decode cX3_isAsTold 2 = .ok (.iload_n 2, 1) := by decide +kernel
theorem dX3_isAsTold_3 : decode cX3_isAsTold 3 = .ok (.aload_n 0, 1) := by decide +kernel
theorem dX3_isAsTold_4 : decode cX3_isAsTold 4 = .ok (.getfield 31, 3) := by decide +kernel
theorem dX3_isAsTold_7 : decode cX3_isAsTold 7 = .ok (.if_icmp .ge 30, 3) := by decide +kernel
theorem dX3_isAsTold_10 : decode cX3_isAsTold 10 = .ok (.iload_n 1, 1) := by decide +kernel
theorem dX3_isAsTold_11 : decode cX3_isAsTold 11 = .ok (.aload_n 0, 1) := by decide +kernel
theorem dX3_isAsTold_12 : decode cX3_isAsTold 12 = .ok (.getfield 21, 3) := by decide +kernel
theorem dX3_isAsTold_15 : decode cX3_isAsTold 15 = .ok (.iload_n 2, 1) := by decide +kernel
theorem dX3_isAsTold_16 : decode cX3_isAsTold 16 = .ok (.iaload, 1) := by decide +kernel
theorem dX3_isAsTold_17 : decode cX3_isAsTold 17 = .ok (.invokestatic 55, 3) := by decide +kernel
theorem dX3_isAsTold_20 : decode cX3_isAsTold 20 = .ok (.aload_n 0, 1) := by decide +kernel
theorem dX3_isAsTold_21 : decode cX3_isAsTold 21 = .ok (.getfield 24, 3) := by decide +kernel
theorem dX3_isAsTold_24 : decode cX3_isAsTold 24 = .ok (.iload_n 2, 1) := by decide +kernel
theorem dX3_isAsTold_25 : decode cX3_isAsTold 25 = .ok (.iaload, 1) := by decide +kernel
theorem dX3_isAsTold_26 : decode cX3_isAsTold 26 = .ok (.if_icmp .eq 5, 3) := by decide +kernel
theorem dX3_isAsTold_29 : decode cX3_isAsTold 29 = .ok (.iconst 0, 1) := by decide +kernel
theorem dX3_isAsTold_30 : decode cX3_isAsTold 30 = .ok (.ireturn, 1) := by decide +kernel
theorem dX3_isAsTold_31 : decode cX3_isAsTold 31 = .ok (.iinc 2 1, 3) := by decide +kernel
theorem dX3_isAsTold_34 : decode cX3_isAsTold 34 = .ok (.goto (-32), 3) := by decide +kernel
theorem dX3_isAsTold_37 : decode cX3_isAsTold 37 = .ok (.iconst 1, 1) := by decide +kernel
theorem dX3_isAsTold_38 : decode cX3_isAsTold 38 = .ok (.ireturn, 1) := by decide +kernel
theorem dX3_coffeesGiven_0 : decode cX3_coffeesGiven 0 = .ok (.iconst 0, 1) := by decide +kernel
theorem dX3_coffeesGiven_1 : decode cX3_coffeesGiven 1 = .ok (.istore_n 1, 1) := by decide +kernel
