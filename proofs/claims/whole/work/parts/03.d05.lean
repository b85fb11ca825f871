theorem dX10_hearingOf_56 : decode cX10_hearingOf 56 = .ok (.iload_n 1, 1) := by decide +kernel
theorem dX10_hearingOf_57 : decode cX10_hearingOf 57 = .ok (.ifCond .ne 7, 3) := by decide +kernel
theorem dX10_hearingOf_60 : decode cX10_hearingOf 60 = .ok (.iload_n 2, 1) := by decide +kernel
theorem dX10_hearingOf_61 : decode cX10_hearingOf 61 = .ok (.goto 4, 3) := by decide +kernel
theorem dX10_hearingOf_64 : decode cX10_hearingOf 64 = .ok (.iload_n 3, 1) := by decide +kernel
theorem dX10_hearingOf_65 : decode cX10_hearingOf 65 = .ok (.ireturn, 1) := by decide +kernel
theorem dX10_hearing_0 : decode cX10_hearing 0 = .ok (.iload_n 1, 1) := by decide +kernel
theorem dX10_hearing_1 : decode cX10_hearing 1 = .ok (.i2l, 1) := by decide +kernel
theorem dX10_hearing_2 : decode cX10_hearing 2 = .ok (.lconst 0, 1) := by decide +kernel
theorem dX10_hearing_3 : decode cX10_hearing 3 = .ok (.lconst 1, 1) := by decide +kernel
theorem dX10_hearing_4 : decode cX10_hearing 4 = .ok (.invokestatic 55, 3) := by decide +kernel
theorem dX10_hearing_7 : decode cX10_hearing 7 = .ok (.ifCond .ne 6, 3) := by decide +kernel
theorem dX10_hearing_10 : decode cX10_hearing 10 = .ok (.bipush (-102), 2) := by decide +kernel
theorem dX10_hearing_12 : decode cX10_hearing 12 = .ok (.ireturn, 1) := by decide +kernel
theorem dX10_hearing_13 : decode cX10_hearing 13 = .ok (.aload_n 0, 1) := by decide +kernel
theorem dX10_hearing_14 : decode cX10_hearing 14 = .ok (.invokevirtual 112, 3) := by decide +kernel
theorem dX10_hearing_17 : decode cX10_hearing 17 = .ok (.ifCond .eq 8, 3) := by decide +kernel
theorem dX10_hearing_20 : decode cX10_hearing 20 = .ok (.bipush (-103), 2) := by decide +kernel
theorem dX10_hearing_22 : decode cX10_hearing 22 = .ok (.goto 8, 3) := by decide +kernel
theorem dX10_hearing_25 : decode cX10_hearing 25 = .ok (.aload_n 0, 1) := by decide +kernel
theorem dX10_hearing_26 : decode cX10_hearing 26 = .ok (.iload_n 1, 1) := by decide +kernel
theorem dX10_hearing_27 : decode cX10_hearing 27 = .ok (.invokevirtual 166, 3) := by decide +kernel
theorem dX10_hearing_30 : decode cX10_hearing 30 = .ok (.ireturn, 1) := by decide +kernel
theorem dX10_layRow_0 : decode cX10_layRow 0 = .ok (.iload_n 1, 1) := by decide +kernel
theorem dX10_layRow_1 : decode cX10_layRow 1 = .ok (.istore_n 3, 1) := by decide +kernel
theorem dX10_layRow_2 : decode cX10_layRow 2 = .ok (.aload_n 0, 1) := by decide +kernel
theorem dX10_layRow_3 : decode cX10_layRow 3 = .ok (.getfield 91, 3) := by decide +kernel
theorem dX10_layRow_6 : decode cX10_layRow 6 = .ok (.iconst 1, 1) := by decide +kernel
theorem dX10_layRow_7 : decode cX10_layRow 7 = .ok (.isub, 1) := by decide +kernel
theorem dX10_layRow_8 : decode cX10_layRow 8 = .ok (.istore 4, 2) := by decide +kernel
theorem dX10_layRow_10 : decode cX10_layRow 10 = .ok (.iload 4, 2) := by decide +kernel
theorem dX10_layRow_12 : decode cX10_layRow 12 = .ok (.ifCond .lt 23, 3) := by decide +kernel
theorem dX10_layRow_15 : decode cX10_layRow 15 = .ok (.aload_n 0, 1) := by decide +kernel
theorem dX10_layRow_16 : decode cX10_layRow 16 = .ok (.getfield 34, 3) := by decide +kernel
theorem dX10_layRow_19 : decode cX10_layRow 19 = .ok (.iload 4, 2) := by decide +kernel
theorem dX10_layRow_21 : decode cX10_layRow 21 = .ok (.iload_n 3, 1) := by decide +kernel
theorem dX10_layRow_22 : decode cX10_layRow 22 = .ok (.iload_n 2, 1) := by decide +kernel
theorem dX10_layRow_23 : decode cX10_layRow 23 = .ok (.irem, 1) := by decide +kernel
theorem dX10_layRow_24 : decode cX10_layRow 24 = .ok (.iastore, 1) := by decide +kernel
theorem dX10_layRow_25 : decode cX10_layRow 25 = .ok (.iload_n 3, 1) := by decide +kernel
theorem dX10_layRow_26 : decode cX10_layRow 26 = .ok (.iload_n 2, 1) := by decide +kernel
theorem dX10_layRow_27 : decode cX10_layRow 27 = .ok (.idiv, 1) := by decide +kernel
theorem dX10_layRow_28 : decode cX10_layRow 28 = .ok (.istore_n 3, 1) := by decide +kernel
theorem dX10_layRow_29 : decode cX10_layRow 29 = .ok (.iinc 4 (-1), 3) := by decide +kernel
theorem dX10_layRow_32 : decode cX10_layRow 32 = .ok (.goto (-22), 3) := by decide +kernel
theorem dX10_layRow_35 : decode cX10_layRow 35 = .ok (.return_, 1) := by decide +kernel
theorem dX10_codes_0 : decode cX10_codes 0 = .ok (.iconst 1, 1) := by decide +kernel
theorem dX10_codes_1 : decode cX10_codes 1 = .ok (.istore_n 2, 1) := by decide +kernel
theorem dX10_codes_2 : decode cX10_codes 2 = .ok (.iconst 0, 1) := by decide +kernel
theorem dX10_codes_3 : decode cX10_codes 3 = .ok (.istore_n 3, 1) := by decide +kernel
theorem dX10_codes_4 : decode cX10_codes 4 = .ok (.iload_n 3, 1) := by decide +kernel
theorem dX10_codes_5 : decode cX10_codes 5 = .ok (.aload_n 0, 1) := by decide +kernel
theorem dX10_codes_6 : decode cX10_codes 6 = .ok (.getfield 91, 3) := by decide +kernel
theorem dX10_codes_9 : decode cX10_codes 9 = .ok (.if_icmp .ge 13, 3) := by decide +kernel
theorem dX10_codes_12 : decode cX10_codes 12 = .ok (.iload_n 2, 1) := by decide +kernel
theorem dX10_codes_13 : decode cX10_codes 13 = .ok (.iload_n 1, 1) := by decide +kernel
theorem dX10_codes_14 : decode cX10_codes 14 = .ok (.imul, 1) := by decide +kernel
theorem dX10_codes_15 : decode cX10_codes 15 = .ok (.istore_n 2, 1) := by decide +kernel
theorem dX10_codes_16 : decode cX10_codes 16 = .ok (.iinc 3 1, 3) := by decide +kernel
theorem dX10_codes_19 : decode cX10_codes 19 = .ok (.goto (-15), 3) := by decide +kernel
theorem dX10_codes_22 : decode cX10_codes 22 = .ok (.iload_n 2, 1) := by decide +kernel
theorem dX10_codes_23 : decode cX10_codes 23 = .ok (.ireturn, 1) := by decide +kernel
theorem dX10_cupsBy_0 : decode cX10_cupsBy 0 = .ok (.aload_n 0, 1) := by decide +kernel
theorem dX10_cupsBy_1 : decode cX10_cupsBy 1 = .ok (.invokevirtual 137, 3) := by decide +kernel
theorem dX10_cupsBy_4 : decode cX10_cupsBy 4 = .ok (.iconst 0, 1) := by decide +kernel
theorem dX10_cupsBy_5 : decode cX10_cupsBy 5 = .ok (.istore_n 1, 1) := by decide +kernel
theorem dX10_cupsBy_6 : decode cX10_cupsBy 6 = .ok (.iconst 1, 1) := by decide +kernel
theorem dX10_cupsBy_7 : decode cX10_cupsBy 7 = .ok (.istore_n 2, 1) := by decide +kernel
theorem dX10_cupsBy_8 : decode cX10_cupsBy 8 = .ok (.iconst 0, 1) := by decide +kernel
theorem dX10_cupsBy_9 : decode cX10_cupsBy 9 = .ok (.istore_n 3, 1) := by decide +kernel
theorem dX10_cupsBy_10 : decode cX10_cupsBy 10 = .ok (.iload_n 3, 1) := by decide +kernel
theorem dX10_cupsBy_11 : decode cX10_cupsBy 11 = .ok (.aload_n 0, 1) := by decide +kernel
theorem dX10_cupsBy_12 : decode cX10_cupsBy 12 = .ok (.getfield 91, 3) := by decide +kernel
theorem dX10_cupsBy_15 : decode cX10_cupsBy 15 = .ok (.if_icmp .ge 51, 3) := by decide +kernel
theorem dX10_cupsBy_18 : decode cX10_cupsBy 18 = .ok (.iload_n 2, 1) := by decide +kernel
theorem dX10_cupsBy_19 : decode cX10_cupsBy 19 = .ok (.ifCond .eq 47, 3) := by decide +kernel
theorem dX10_cupsBy_22 : decode cX10_cupsBy 22 = .ok (.aload_n 0, 1) := by decide +kernel
theorem dX10_cupsBy_23 : decode cX10_cupsBy 23 = .ok (.getfield 34, 3) := by decide +kernel
theorem dX10_cupsBy_26 : decode cX10_cupsBy 26 = .ok (.iload_n 3, 1) := by decide +kernel
theorem dX10_cupsBy_27 : decode cX10_cupsBy 27 = .ok (.iaload, 1) := by decide +kernel
theorem dX10_cupsBy_28 : decode cX10_cupsBy 28 = .ok (.ifCond .le 18, 3) := by decide +kernel
theorem dX10_cupsBy_31 : decode cX10_cupsBy 31 = .ok (.aload_n 0, 1) := by decide +kernel
theorem dX10_cupsBy_32 : decode cX10_cupsBy 32 = .ok (.aload_n 0, 1) := by decide +kernel
theorem dX10_cupsBy_33 : decode cX10_cupsBy 33 = .ok (.getfield 34, 3) := by decide +kernel
theorem dX10_cupsBy_36 : decode cX10_cupsBy 36 = .ok (.iload_n 3, 1) := by decide +kernel
theorem dX10_cupsBy_37 : decode cX10_cupsBy 37 = .ok (.iaload, 1) := by decide +kernel
theorem dX10_cupsBy_38 : decode cX10_cupsBy 38 = .ok (.iconst 1, 1) := by decide +kernel
theorem dX10_cupsBy_39 : decode cX10_cupsBy 39 = .ok (.isub, 1) := by decide +kernel
theorem dX10_cupsBy_40 : decode cX10_cupsBy 40 = .ok (.invokevirtual 159, 3) := by decide +kernel
theorem dX10_cupsBy_43 : decode cX10_cupsBy 43 = .ok (.iinc 1 1, 3) := by decide +kernel
theorem dX10_cupsBy_46 : decode cX10_cupsBy 46 = .ok (.aload_n 0, 1) := by decide +kernel
theorem dX10_cupsBy_47 : decode cX10_cupsBy 47 = .ok (.iload_n 3, 1) := by decide +kernel
theorem dX10_cupsBy_48 : decode cX10_cupsBy 48 = .ok (.invokevirtual 134, 3) := by decide +kernel
theorem dX10_cupsBy_51 : decode cX10_cupsBy 51 = .ok (.ifCond .ne 7, 3) := by decide +kernel
theorem dX10_cupsBy_54 : decode cX10_cupsBy 54 = .ok (.iconst 1, 1) := by decide +kernel
theorem dX10_cupsBy_55 : decode cX10_cupsBy 55 = .ok (.goto 4, 3) := by decide +kernel
theorem dX10_cupsBy_58 : decode cX10_cupsBy 58 = .ok (.iconst 0, 1) := by decide +kernel
theorem dX10_cupsBy_59 : decode cX10_cupsBy 59 = .ok (.istore_n 2, 1) := by decide +kernel
theorem dX10_cupsBy_60 : decode cX10_cupsBy 60 = .ok (.iinc 3 1, 3) := by decide +kernel
theorem dX10_cupsBy_63 : decode cX10_cupsBy 63 = .ok (.goto (-53), 3) := by decide +kernel
theorem dX10_cupsBy_66 : decode cX10_cupsBy 66 = .ok (.iload_n 2, 1) := by decide +kernel
theorem dX10_cupsBy_67 : decode cX10_cupsBy 67 = .ok (.ifCond .eq 7, 3) := by decide +kernel
theorem dX10_cupsBy_70 : decode cX10_cupsBy 70 = .ok (.iload_n 1, 1) := by decide +kernel
theorem dX10_cupsBy_71 : decode cX10_cupsBy 71 = .ok (.goto 4, 3) := by decide +kernel
theorem dX10_cupsBy_74 : decode cX10_cupsBy 74 = .ok (.iconst (-1), 1) := by decide +kernel
theorem dX10_cupsBy_75 : decode cX10_cupsBy 75 = .ok (.ireturn, 1) := by decide +kernel
theorem dX10_layCups_0 : decode cX10_layCups 0 = .ok (.iconst (-1), 1) := by decide +kernel
theorem dX10_layCups_1 : decode cX10_layCups 1 = .ok (.istore_n 1, 1) := by decide +kernel
theorem dX10_layCups_2 : decode cX10_layCups 2 = .ok (.iconst 0, 1) := by decide +kernel
theorem dX10_layCups_3 : decode cX10_layCups 3 = .ok (.istore_n 2, 1) := by decide +kernel
theorem dX10_layCups_4 : decode cX10_layCups 4 = .ok (.iload_n 2, 1) := by decide +kernel
theorem dX10_layCups_5 : decode cX10_layCups 5 = .ok (.aload_n 0, 1) := by decide +kernel
theorem dX10_layCups_6 : decode cX10_layCups 6 = .ok (.aload_n 0, 1) := by decide +kernel
theorem dX10_layCups_7 : decode cX10_layCups 7 = .ok (.getfield 103, 3) := by decide +kernel
theorem dX10_layCups_10 : decode cX10_layCups 10 = .ok (.iconst 1, 1) := by decide +kernel
theorem dX10_layCups_11 : decode cX10_layCups 11 = .ok (.iadd, 1) := by decide +kernel
theorem dX10_layCups_12 : decode cX10_layCups 12 = .ok (.invokevirtual 169, 3) := by decide +kernel
theorem dX10_layCups_15 : decode cX10_layCups 15 = .ok (.if_icmp .ge 53, 3) := by decide +kernel
theorem dX10_layCups_18 : decode cX10_layCups 18 = .ok (.aload_n 0, 1) := by decide +kernel
theorem dX10_layCups_19 : decode cX10_layCups 19 = .ok (.iload_n 2, 1) := by decide +kernel
theorem dX10_layCups_20 : decode cX10_layCups 20 = .ok (.aload_n 0, 1) := by decide +kernel
theorem dX10_layCups_21 : decode cX10_layCups 21 = .ok (.getfield 103, 3) := by decide +kernel
theorem dX10_layCups_24 : decode cX10_layCups 24 = .ok (.iconst 1, 1) := by decide +kernel
theorem dX10_layCups_25 : decode cX10_layCups 25 = .ok (.iadd, 1) := by decide +kernel
theorem dX10_layCups_26 : decode cX10_layCups 26 = .ok (.invokevirtual 172, 3) := by decide +kernel
theorem dX10_layCups_29 : decode cX10_layCups 29 = .ok (.aload_n 0, 1) := by decide +kernel
theorem dX10_layCups_30 : decode cX10_layCups 30 = .ok (.invokevirtual 176, 3) := by decide +kernel
theorem dX10_layCups_33 : decode cX10_layCups 33 = .ok (.istore_n 3, 1) := by decide +kernel
theorem dX10_layCups_34 : decode cX10_layCups 34 = .ok (.iload_n 3, 1) := by decide +kernel
theorem dX10_layCups_35 : decode cX10_layCups 35 = .ok (.iconst (-1), 1) := by decide +kernel
theorem dX10_layCups_36 : decode cX10_layCups 36 = .ok (.if_icmp .eq 26, 3) := by decide +kernel
theorem dX10_layCups_39 : decode cX10_layCups 39 = .ok (.iload_n 1, 1) := by decide +kernel
theorem dX10_layCups_40 : decode cX10_layCups 40 = .ok (.iconst (-1), 1) := by decide +kernel
theorem dX10_layCups_41 : decode cX10_layCups 41 = .ok (.if_icmp .eq 8, 3) := by decide +kernel
theorem dX10_layCups_44 : decode cX10_layCups 44 = .ok (.iload_n 3, 1) := by decide +kernel
theorem dX10_layCups_45 : decode cX10_layCups 45 = .ok (.iload_n 1, 1) := by decide +kernel
theorem dX10_layCups_46 : decode cX10_layCups 46 = .ok (.if_icmp .ge 16, 3) := by decide +kernel
theorem dX10_layCups_49 : decode cX10_layCups 49 = .ok (.iload_n 3, 1) := by decide +kernel
theorem dX10_layCups_50 : decode cX10_layCups 50 = .ok (.istore_n 1, 1) := by decide +kernel
theorem dX10_layCups_51 : decode cX10_layCups 51 = .ok (.aload_n 0, 1) := by decide +kernel
theorem dX10_layCups_52 : decode cX10_layCups 52 = .ok (.getfield 34, 3) := by decide +kernel
theorem dX10_layCups_55 : decode cX10_layCups 55 = .ok (.aload_n 0, 1) := by decide +kernel
theorem dX10_layCups_56 : decode cX10_layCups 56 = .ok (.getfield 37, 3) := by decide +kernel
theorem dX10_layCups_59 : decode cX10_layCups 59 = .ok (.invokestatic 87, 3) := by decide +kernel
theorem dX10_layCups_62 : decode cX10_layCups 62 = .ok (.iinc 2 1, 3) := by decide +kernel
theorem dX10_layCups_65 : decode cX10_layCups 65 = .ok (.goto (-61), 3) := by decide +kernel
theorem dX10_layCups_68 : decode cX10_layCups 68 = .ok (.iload_n 1, 1) := by decide +kernel
theorem dX10_layCups_69 : decode cX10_layCups 69 = .ok (.ireturn, 1) := by decide +kernel
theorem dX10_cups_0 : decode cX10_cups 0 = .ok (.iload_n 1, 1) := by decide +kernel
theorem dX10_cups_1 : decode cX10_cups 1 = .ok (.ifCond .eq 20, 3) := by decide +kernel
theorem dX10_cups_4 : decode cX10_cups 4 = .ok (.iload_n 1, 1) := by decide +kernel
theorem dX10_cups_5 : decode cX10_cups 5 = .ok (.i2l, 1) := by decide +kernel
theorem dX10_cups_6 : decode cX10_cups 6 = .ok (.ldc2_w 179, 3) := by decide +kernel
theorem dX10_cups_9 : decode cX10_cups 9 = .ok (.ldc2_w 181, 3) := by decide +kernel
theorem dX10_cups_12 : decode cX10_cups 12 = .ok (.invokestatic 55, 3) := by decide +kernel
theorem dX10_cups_15 : decode cX10_cups 15 = .ok (.ifCond .ne 6, 3) := by decide +kernel
theorem dX10_cups_18 : decode cX10_cups 18 = .ok (.bipush (-102), 2) := by decide +kernel
theorem dX10_cups_20 : decode cX10_cups 20 = .ok (.ireturn, 1) := by decide +kernel
theorem dX10_cups_21 : decode cX10_cups 21 = .ok (.aload_n 0, 1) := by decide +kernel
theorem dX10_cups_22 : decode cX10_cups 22 = .ok (.invokevirtual 112, 3) := by decide +kernel
theorem dX10_cups_25 : decode cX10_cups 25 = .ok (.ifCond .ne 12, 3) := by decide +kernel
theorem dX10_cups_28 : decode cX10_cups 28 = .ok (.aload_n 0, 1) := by decide +kernel
theorem dX10_cups_29 : decode cX10_cups 29 = .ok (.getfield 183, 3) := by decide +kernel
theorem dX10_cups_32 : decode cX10_cups 32 = .ok (.bipush 12, 2) := by decide +kernel
theorem dX10_cups_34 : decode cX10_cups 34 = .ok (.if_icmp .ne 6, 3) := by decide +kernel
theorem dX10_cups_37 : decode cX10_cups 37 = .ok (.bipush (-103), 2) := by decide +kernel
theorem dX10_cups_39 : decode cX10_cups 39 = .ok (.ireturn, 1) := by decide +kernel
theorem dX10_cups_40 : decode cX10_cups 40 = .ok (.aload_n 0, 1) := by decide +kernel
theorem dX10_cups_41 : decode cX10_cups 41 = .ok (.dup, 1) := by decide +kernel
theorem dX10_cups_42 : decode cX10_cups 42 = .ok (.getfield 183, 3) := by decide +kernel
theorem dX10_cups_45 : decode cX10_cups 45 = .ok (.iconst 1, 1) := by decide +kernel
theorem dX10_cups_46 : decode cX10_cups 46 = .ok (.iadd, 1) := by decide +kernel
theorem dX10_cups_47 : decode cX10_cups 47 = .ok (.putfield 183, 3) := by decide +kernel
theorem dX10_cups_50 : decode cX10_cups 50 = .ok (.aload_n 0, 1) := by decide +kernel
theorem dX10_cups_51 : decode cX10_cups 51 = .ok (.invokevirtual 186, 3) := by decide +kernel
theorem dX10_cups_54 : decode cX10_cups 54 = .ok (.istore_n 2, 1) := by decide +kernel
theorem dX10_cups_55 : decode cX10_cups 55 = .ok (.iload_n 1, 1) := by decide +kernel
theorem dX10_cups_56 : decode cX10_cups 56 = .ok (.ifCond .eq 8, 3) := by decide +kernel
theorem dX10_cups_59 : decode cX10_cups 59 = .ok (.iload_n 2, 1) := by decide +kernel
theorem dX10_cups_60 : decode cX10_cups 60 = .ok (.iconst (-1), 1) := by decide +kernel
theorem dX10_cups_61 : decode cX10_cups 61 = .ok (.if_icmp .ne 7, 3) := by decide +kernel
theorem dX10_cups_64 : decode cX10_cups 64 = .ok (.iload_n 2, 1) := by decide +kernel
theorem dX10_cups_65 : decode cX10_cups 65 = .ok (.goto 29, 3) := by decide +kernel
theorem dX10_cups_68 : decode cX10_cups 68 = .ok (.iload_n 1, 1) := by decide +kernel
theorem dX10_cups_69 : decode cX10_cups 69 = .ok (.bipush 10, 2) := by decide +kernel
theorem dX10_cups_71 : decode cX10_cups 71 = .ok (.isub, 1) := by decide +kernel
theorem dX10_cups_72 : decode cX10_cups 72 = .ok (.aload_n 0, 1) := by decide +kernel
theorem dX10_cups_73 : decode cX10_cups 73 = .ok (.getfield 91, 3) := by decide +kernel
theorem dX10_cups_76 : decode cX10_cups 76 = .ok (.if_icmp .ge 17, 3) := by decide +kernel
theorem dX10_cups_79 : decode cX10_cups 79 = .ok (.aload_n 0, 1) := by decide +kernel
theorem dX10_cups_80 : decode cX10_cups 80 = .ok (.getfield 37, 3) := by decide +kernel
theorem dX10_cups_83 : decode cX10_cups 83 = .ok (.iload_n 1, 1) := by decide +kernel
theorem dX10_cups_84 : decode cX10_cups 84 = .ok (.bipush 10, 2) := by decide +kernel
theorem dX10_cups_86 : decode cX10_cups 86 = .ok (.isub, 1) := by decide +kernel
theorem dX10_cups_87 : decode cX10_cups 87 = .ok (.iaload, 1) := by decide +kernel
theorem dX10_cups_88 : decode cX10_cups 88 = .ok (.iconst 1, 1) := by decide +kernel
theorem dX10_cups_89 : decode cX10_cups 89 = .ok (.isub, 1) := by decide +kernel
theorem dX10_cups_90 : decode cX10_cups 90 = .ok (.goto 4, 3) := by decide +kernel
theorem dX10_cups_93 : decode cX10_cups 93 = .ok (.iconst (-1), 1) := by decide +kernel
theorem dX10_cups_94 : decode cX10_cups 94 = .ok (.ireturn, 1) := by decide +kernel
theorem dX10_isOrder_0 : decode cX10_isOrder 0 = .ok (.iconst 0, 1) := by decide +kernel
theorem dX10_isOrder_1 : decode cX10_isOrder 1 = .ok (.istore_n 1, 1) := by decide +kernel
theorem dX10_isOrder_2 : decode cX10_isOrder 2 = .ok (.iconst 0, 1) := by decide +kernel
theorem dX10_isOrder_3 : decode cX10_isOrder 3 = .ok (.istore_n 2, 1) := by decide +kernel
theorem dX10_isOrder_4 : decode cX10_isOrder 4 = .ok (.iload_n 2, 1) := by decide +kernel
theorem dX10_isOrder_5 : decode cX10_isOrder 5 = .ok (.aload_n 0, 1) := by decide +kernel
theorem dX10_isOrder_6 : decode cX10_isOrder 6 = .ok (.getfield 91, 3) := by decide +kernel
theorem dX10_isOrder_9 : decode cX10_isOrder 9 = .ok (.if_icmp .ge 20, 3) := by decide +kernel
theorem dX10_isOrder_12 : decode cX10_isOrder 12 = .ok (.iload_n 1, 1) := by decide +kernel
theorem dX10_isOrder_13 : decode cX10_isOrder 13 = .ok (.iconst 1, 1) := by decide +kernel
theorem dX10_isOrder_14 : decode cX10_isOrder 14 = .ok (.aload_n 0, 1) := by decide +kernel
theorem dX10_isOrder_15 : decode cX10_isOrder 15 = .ok (.getfield 34, 3) := by decide +kernel
theorem dX10_isOrder_18 : decode cX10_isOrder 18 = .ok (.iload_n 2, 1) := by decide +kernel
theorem dX10_isOrder_19 : decode cX10_isOrder 19 = .ok (.iaload, 1) := by decide +kernel
theorem dX10_isOrder_20 : decode cX10_isOrder 20 = .ok (.ishl, 1) := by decide +kernel
theorem dX10_isOrder_21 : decode cX10_isOrder 21 = .ok (.ior, 1) := by decide +kernel
theorem dX10_isOrder_22 : decode cX10_isOrder 22 = .ok (.istore_n 1, 1) := by decide +kernel
theorem dX10_isOrder_23 : decode cX10_isOrder 23 = .ok (.iinc 2 1, 3) := by decide +kernel
theorem dX10_isOrder_26 : decode cX10_isOrder 26 = .ok (.goto (-22), 3) := by decide +kernel
theorem dX10_isOrder_29 : decode cX10_isOrder 29 = .ok (.iload_n 1, 1) := by decide +kernel
theorem dX10_isOrder_30 : decode cX10_isOrder 30 = .ok (.iconst 1, 1) := by decide +kernel
theorem dX10_isOrder_31 : decode cX10_isOrder 31 = .ok (.aload_n 0, 1) := by decide +kernel
theorem dX10_isOrder_32 : decode cX10_isOrder 32 = .ok (.getfield 91, 3) := by decide +kernel
theorem dX10_isOrder_35 : decode cX10_isOrder 35 = .ok (.ishl, 1) := by decide +kernel
theorem dX10_isOrder_36 : decode cX10_isOrder 36 = .ok (.iconst 1, 1) := by decide +kernel
theorem dX10_isOrder_37 : decode cX10_isOrder 37 = .ok (.isub, 1) := by decide +kernel
theorem dX10_isOrder_38 : decode cX10_isOrder 38 = .ok (.if_icmp .ne 7, 3) := by decide +kernel
theorem dX10_isOrder_41 : decode cX10_isOrder 41 = .ok (.iconst 1, 1) := by decide +kernel
theorem dX10_isOrder_42 : decode cX10_isOrder 42 = .ok (.goto 4, 3) := by decide +kernel
theorem dX10_isOrder_45 : decode cX10_isOrder 45 = .ok (.iconst 0, 1) := by decide +kernel
theorem dX10_isOrder_46 : decode cX10_isOrder 46 = .ok (.ireturn, 1) := by decide +kernel
theorem dX10_order_0 : decode cX10_order 0 = .ok (.iload_n 1, 1) := by decide +kernel
theorem dX10_order_1 : decode cX10_order 1 = .ok (.ifCond .eq 20, 3) := by decide +kernel
theorem dX10_order_4 : decode cX10_order 4 = .ok (.iload_n 1, 1) := by decide +kernel
theorem dX10_order_5 : decode cX10_order 5 = .ok (.i2l, 1) := by decide +kernel
theorem dX10_order_6 : decode cX10_order 6 = .ok (.ldc2_w 179, 3) := by decide +kernel
theorem dX10_order_9 : decode cX10_order 9 = .ok (.ldc2_w 181, 3) := by decide +kernel
theorem dX10_order_12 : decode cX10_order 12 = .ok (.invokestatic 55, 3) := by decide +kernel
theorem dX10_order_15 : decode cX10_order 15 = .ok (.ifCond .ne 6, 3) := by decide +kernel
theorem dX10_order_18 : decode cX10_order 18 = .ok (.bipush (-102), 2) := by decide +kernel
theorem dX10_order_20 : decode cX10_order 20 = .ok (.ireturn, 1) := by decide +kernel
theorem dX10_order_21 : decode cX10_order 21 = .ok (.aload_n 0, 1) := by decide +kernel
theorem dX10_order_22 : decode cX10_order 22 = .ok (.invokevirtual 112, 3) := by decide +kernel
theorem dX10_order_25 : decode cX10_order 25 = .ok (.ifCond .ne 12, 3) := by decide +kernel
theorem dX10_order_28 : decode cX10_order 28 = .ok (.aload_n 0, 1) := by decide +kernel
theorem dX10_order_29 : decode cX10_order 29 = .ok (.getfield 189, 3) := by decide +kernel
theorem dX10_order_32 : decode cX10_order 32 = .ok (.bipush 20, 2) := by decide +kernel
theorem dX10_order_34 : decode cX10_order 34 = .ok (.if_icmp .ne 6, 3) := by decide +kernel
theorem dX10_order_37 : decode cX10_order 37 = .ok (.bipush (-103), 2) := by decide +kernel
theorem dX10_order_39 : decode cX10_order 39 = .ok (.ireturn, 1) := by decide +kernel
theorem dX10_order_40 : decode cX10_order 40 = .ok (.aload_n 0, 1) := by decide +kernel
theorem dX10_order_41 : decode cX10_order 41 = .ok (.dup, 1) := by decide +kernel
theorem dX10_order_42 : decode cX10_order 42 = .ok (.getfield 189, 3) := by decide +kernel
theorem dX10_order_45 : decode cX10_order 45 = .ok (.iconst 1, 1) := by decide +kernel
theorem dX10_order_46 : decode cX10_order 46 = .ok (.iadd, 1) := by decide +kernel
theorem dX10_order_47 : decode cX10_order 47 = .ok (.putfield 189, 3) := by decide +kernel
theorem dX10_order_50 : decode cX10_order 50 = .ok (.iconst (-1), 1) := by decide +kernel
theorem dX10_order_51 : decode cX10_order 51 = .ok (.istore_n 2, 1) := by decide +kernel
theorem dX10_order_52 : decode cX10_order 52 = .ok (.iconst 0, 1) := by decide +kernel
theorem dX10_order_53 : decode cX10_order 53 = .ok (.istore_n 3, 1) := by decide +kernel
theorem dX10_order_54 : decode cX10_order 54 = .ok (.iload_n 3, 1) := by decide +kernel
theorem dX10_order_55 : decode cX10_order 55 = .ok (.aload_n 0, 1) := by decide +kernel
theorem dX10_order_56 : decode cX10_order 56 = .ok (.aload_n 0, 1) := by decide +kernel
theorem dX10_order_57 : decode cX10_order 57 = .ok (.getfield 91, 3) := by decide +kernel
theorem dX10_order_60 : decode cX10_order 60 = .ok (.invokevirtual 169, 3) := by decide +kernel
theorem dX10_order_63 : decode cX10_order 63 = .ok (.if_icmp .ge 91, 3) := by decide +kernel
theorem dX10_order_66 : decode cX10_order 66 = .ok (.aload_n 0, 1) := by decide +kernel
theorem dX10_order_67 : decode cX10_order 67 = .ok (.iload_n 3, 1) := by decide +kernel
theorem dX10_order_68 : decode cX10_order 68 = .ok (.aload_n 0, 1) := by decide +kernel
theorem dX10_order_69 : decode cX10_order 69 = .ok (.getfield 91, 3) := by decide +kernel
theorem dX10_order_72 : decode cX10_order 72 = .ok (.invokevirtual 172, 3) := by decide +kernel
theorem dX10_order_75 : decode cX10_order 75 = .ok (.aload_n 0, 1) := by decide +kernel
theorem dX10_order_76 : decode cX10_order 76 = .ok (.invokevirtual 192, 3) := by decide +kernel
theorem dX10_order_79 : decode cX10_order 79 = .ok (.ifCond .eq 69, 3) := by decide +kernel
theorem dX10_order_82 : decode cX10_order 82 = .ok (.aload_n 0, 1) := by decide +kernel
theorem dX10_order_83 : decode cX10_order 83 = .ok (.invokevirtual 137, 3) := by decide +kernel
theorem dX10_order_86 : decode cX10_order 86 = .ok (.iconst 0, 1) := by decide +kernel
theorem dX10_order_87 : decode cX10_order 87 = .ok (.istore 4, 2) := by decide +kernel
theorem dX10_order_89 : decode cX10_order 89 = .ok (.iconst 0, 1) := by decide +kernel
theorem dX10_order_90 : decode cX10_order 90 = .ok (.istore 5, 2) := by decide +kernel
theorem dX10_order_92 : decode cX10_order 92 = .ok (.iload 5, 2) := by decide +kernel
theorem dX10_order_94 : decode cX10_order 94 = .ok (.aload_n 0, 1) := by decide +kernel
theorem dX10_order_95 : decode cX10_order 95 = .ok (.getfield 91, 3) := by decide +kernel
theorem dX10_order_98 : decode cX10_order 98 = .ok (.if_icmp .ge 25, 3) := by decide +kernel
theorem dX10_order_101 : decode cX10_order 101 = .ok (.iload 4, 2) := by decide +kernel
theorem dX10_order_103 : decode cX10_order 103 = .ok (.aload_n 0, 1) := by decide +kernel
theorem dX10_order_104 : decode cX10_order 104 = .ok (.aload_n 0, 1) := by decide +kernel
theorem dX10_order_105 : decode cX10_order 105 = .ok (.getfield 34, 3) := by decide +kernel
theorem dX10_order_108 : decode cX10_order 108 = .ok (.iload 5, 2) := by decide +kernel
theorem dX10_order_110 : decode cX10_order 110 = .ok (.iaload, 1) := by decide +kernel
theorem dX10_order_111 : decode cX10_order 111 = .ok (.invokevirtual 134, 3) := by decide +kernel
theorem dX10_order_114 : decode cX10_order 114 = .ok (.iadd, 1) := by decide +kernel
theorem dX10_order_115 : decode cX10_order 115 = .ok (.istore 4, 2) := by decide +kernel
theorem dX10_order_117 : decode cX10_order 117 = .ok (.iinc 5 1, 3) := by decide +kernel
theorem dX10_order_120 : decode cX10_order 120 = .ok (.goto (-28), 3) := by decide +kernel
theorem dX10_order_123 : decode cX10_order 123 = .ok (.iload_n 2, 1) := by decide +kernel
theorem dX10_order_124 : decode cX10_order 124 = .ok (.iconst (-1), 1) := by decide +kernel
theorem dX10_order_125 : decode cX10_order 125 = .ok (.if_icmp .eq 9, 3) := by decide +kernel
theorem dX10_order_128 : decode cX10_order 128 = .ok (.iload 4, 2) := by decide +kernel
theorem dX10_order_130 : decode cX10_order 130 = .ok (.iload_n 2, 1) := by decide +kernel
theorem dX10_order_131 : decode cX10_order 131 = .ok (.if_icmp .ge 17, 3) := by decide +kernel
theorem dX10_order_134 : decode cX10_order 134 = .ok (.iload 4, 2) := by decide +kernel
theorem dX10_order_136 : decode cX10_order 136 = .ok (.istore_n 2, 1) := by decide +kernel
theorem dX10_order_137 : decode cX10_order 137 = .ok (.aload_n 0, 1) := by decide +kernel
theorem dX10_order_138 : decode cX10_order 138 = .ok (.getfield 34, 3) := by decide +kernel
theorem dX10_order_141 : decode cX10_order 141 = .ok (.aload_n 0, 1) := by decide +kernel
theorem dX10_order_142 : decode cX10_order 142 = .ok (.getfield 37, 3) := by decide +kernel
theorem dX10_order_145 : decode cX10_order 145 = .ok (.invokestatic 87, 3) := by decide +kernel
theorem dX10_order_148 : decode cX10_order 148 = .ok (.iinc 3 1, 3) := by decide +kernel
theorem dX10_order_151 : decode cX10_order 151 = .ok (.goto (-97), 3) := by decide +kernel
theorem dX10_order_154 : decode cX10_order 154 = .ok (.iload_n 1, 1) := by decide +kernel
theorem dX10_order_155 : decode cX10_order 155 = .ok (.ifCond .ne 7, 3) := by decide +kernel
theorem dX10_order_158 : decode cX10_order 158 = .ok (.iload_n 2, 1) := by decide +kernel
theorem dX10_order_159 : decode cX10_order 159 = .ok (.goto 27, 3) := by decide +kernel
theorem dX10_order_162 : decode cX10_order 162 = .ok (.iload_n 1, 1) := by decide +kernel
theorem dX10_order_163 : decode cX10_order 163 = .ok (.bipush 10, 2) := by decide +kernel
theorem dX10_order_165 : decode cX10_order 165 = .ok (.isub, 1) := by decide +kernel
theorem dX10_order_166 : decode cX10_order 166 = .ok (.aload_n 0, 1) := by decide +kernel
theorem dX10_order_167 : decode cX10_order 167 = .ok (.getfield 91, 3) := by decide +kernel
theorem dX10_order_170 : decode cX10_order 170 = .ok (.if_icmp .ge 15, 3) := by decide +kernel
theorem dX10_order_173 : decode cX10_order 173 = .ok (.aload_n 0, 1) := by decide +kernel
theorem dX10_order_174 : decode cX10_order 174 = .ok (.getfield 37, 3) := by decide +kernel
theorem dX10_order_177 : decode cX10_order 177 = .ok (.iload_n 1, 1) := by decide +kernel
theorem dX10_order_178 : decode cX10_order 178 = .ok (.bipush 10, 2) := by decide +kernel
theorem dX10_order_180 : decode cX10_order 180 = .ok (.isub, 1) := by decide +kernel
theorem dX10_order_181 : decode cX10_order 181 = .ok (.iaload, 1) := by decide +kernel
theorem dX10_order_182 : decode cX10_order 182 = .ok (.goto 4, 3) := by decide +kernel
theorem dX10_order_185 : decode cX10_order 185 = .ok (.iconst (-1), 1) := by decide +kernel
theorem dX10_order_186 : decode cX10_order 186 = .ok (.ireturn, 1) := by decide +kernel
theorem dX10_tell_0 : decode cX10_tell 0 = .ok (.aload_n 0, 1) := by decide +kernel
theorem dX10_tell_1 : decode cX10_tell 1 = .ok (.iload_n 1, 1) := by decide +kernel
theorem dX10_tell_2 : decode cX10_tell 2 = .ok (.invokevirtual 146, 3) := by decide +kernel
theorem dX10_tell_5 : decode cX10_tell 5 = .ok (.ifCond .ne 6, 3) := by decide +kernel
theorem dX10_tell_8 : decode cX10_tell 8 = .ok (.bipush (-101), 2) := by decide +kernel
theorem dX10_tell_10 : decode cX10_tell 10 = .ok (.ireturn, 1) := by decide +kernel
theorem dX10_tell_11 : decode cX10_tell 11 = .ok (.iload_n 2, 1) := by decide +kernel
theorem dX10_tell_12 : decode cX10_tell 12 = .ok (.i2l, 1) := by decide +kernel
theorem dX10_tell_13 : decode cX10_tell 13 = .ok (.lconst 0, 1) := by decide +kernel
theorem dX10_tell_14 : decode cX10_tell 14 = .ok (.ldc2_w 72, 3) := by decide +kernel
theorem dX10_tell_17 : decode cX10_tell 17 = .ok (.invokestatic 55, 3) := by decide +kernel
theorem dX10_tell_20 : decode cX10_tell 20 = .ok (.ifCond .ne 6, 3) := by decide +kernel
theorem dX10_tell_23 : decode cX10_tell 23 = .ok (.bipush (-102), 2) := by decide +kernel
theorem dX10_tell_25 : decode cX10_tell 25 = .ok (.ireturn, 1) := by decide +kernel
theorem dX10_tell_26 : decode cX10_tell 26 = .ok (.aload_n 0, 1) := by decide +kernel
theorem dX10_tell_27 : decode cX10_tell 27 = .ok (.getfield 106, 3) := by decide +kernel
theorem dX10_tell_30 : decode cX10_tell 30 = .ok (.bipush 6, 2) := by decide +kernel
theorem dX10_tell_32 : decode cX10_tell 32 = .ok (.if_icmp .ne 6, 3) := by decide +kernel
theorem dX10_tell_35 : decode cX10_tell 35 = .ok (.bipush (-104), 2) := by decide +kernel
theorem dX10_tell_37 : decode cX10_tell 37 = .ok (.ireturn, 1) := by decide +kernel
theorem dX10_tell_38 : decode cX10_tell 38 = .ok (.aload_n 0, 1) := by decide +kernel
theorem dX10_tell_39 : decode cX10_tell 39 = .ok (.getfield 22, 3) := by decide +kernel
theorem dX10_tell_42 : decode cX10_tell 42 = .ok (.iconst 2, 1) := by decide +kernel
theorem dX10_tell_43 : decode cX10_tell 43 = .ok (.aload_n 0, 1) := by decide +kernel
theorem dX10_tell_44 : decode cX10_tell 44 = .ok (.getfield 106, 3) := by decide +kernel
theorem dX10_tell_47 : decode cX10_tell 47 = .ok (.imul, 1) := by decide +kernel
theorem dX10_tell_48 : decode cX10_tell 48 = .ok (.iload_n 1, 1) := by decide +kernel
theorem dX10_tell_49 : decode cX10_tell 49 = .ok (.iastore, 1) := by decide +kernel
theorem dX10_tell_50 : decode cX10_tell 50 = .ok (.aload_n 0, 1) := by decide +kernel
theorem dX10_tell_51 : decode cX10_tell 51 = .ok (.getfield 22, 3) := by decide +kernel
theorem dX10_tell_54 : decode cX10_tell 54 = .ok (.iconst 2, 1) := by decide +kernel
theorem dX10_tell_55 : decode cX10_tell 55 = .ok (.aload_n 0, 1) := by decide +kernel
theorem dX10_tell_56 : decode cX10_tell 56 = .ok (.getfield 106, 3) := by decide +kernel
theorem dX10_tell_59 : decode cX10_tell 59 = .ok (.imul, 1) := by decide +kernel
theorem dX10_tell_60 : decode cX10_tell 60 = .ok (.iconst 1, 1) := by decide +kernel
theorem dX10_tell_61 : decode cX10_tell 61 = .ok (.iadd, 1) := by decide +kernel
theorem dX10_tell_62 : decode cX10_tell 62 = .ok (.iload_n 2, 1) := by decide +kernel
theorem dX10_tell_63 : decode cX10_tell 63 = .ok (.iastore, 1) := by decide +kernel
theorem dX10_tell_64 : decode cX10_tell 64 = .ok (.aload_n 0, 1) := by decide +kernel
theorem dX10_tell_65 : decode cX10_tell 65 = .ok (.dup, 1) := by decide +kernel
theorem dX10_tell_66 : decode cX10_tell 66 = .ok (.getfield 106, 3) := by decide +kernel
theorem dX10_tell_69 : decode cX10_tell 69 = .ok (.iconst 1, 1) := by decide +kernel
theorem dX10_tell_70 : decode cX10_tell 70 = .ok (.iadd, 1) := by decide +kernel
theorem dX10_tell_71 : decode cX10_tell 71 = .ok (.putfield 106, 3) := by decide +kernel
theorem dX10_tell_74 : decode cX10_tell 74 = .ok (.aload_n 0, 1) := by decide +kernel
theorem dX10_tell_75 : decode cX10_tell 75 = .ok (.getfield 106, 3) := by decide +kernel
theorem dX10_tell_78 : decode cX10_tell 78 = .ok (.ireturn, 1) := by decide +kernel
theorem dX10_forget_0 : decode cX10_forget 0 = .ok (.aload_n 0, 1) := by decide +kernel
theorem dX10_forget_1 : decode cX10_forget 1 = .ok (.getfield 106, 3) := by decide +kernel
theorem dX10_forget_4 : decode cX10_forget 4 = .ok (.istore_n 1, 1) := by decide +kernel
theorem dX10_forget_5 : decode cX10_forget 5 = .ok (.aload_n 0, 1) := by decide +kernel
theorem dX10_forget_6 : decode cX10_forget 6 = .ok (.iconst 0, 1) := by decide +kernel
theorem dX10_forget_7 : decode cX10_forget 7 = .ok (.putfield 106, 3) := by decide +kernel
theorem dX10_forget_10 : decode cX10_forget 10 = .ok (.iload_n 1, 1) := by decide +kernel
theorem dX10_forget_11 : decode cX10_forget 11 = .ok (.ireturn, 1) := by decide +kernel
theorem dX10_isSo_0 : decode cX10_isSo 0 = .ok (.iconst 1, 1) := by decide +kernel
theorem dX10_isSo_1 : decode cX10_isSo 1 = .ok (.istore_n 3, 1) := by decide +kernel
theorem dX10_isSo_2 : decode cX10_isSo 2 = .ok (.iconst 0, 1) := by decide +kernel
theorem dX10_isSo_3 : decode cX10_isSo 3 = .ok (.istore 4, 2) := by decide +kernel
theorem dX10_isSo_5 : decode cX10_isSo 5 = .ok (.iload 4, 2) := by decide +kernel
theorem dX10_isSo_7 : decode cX10_isSo 7 = .ok (.aload_n 0, 1) := by decide +kernel
theorem dX10_isSo_8 : decode cX10_isSo 8 = .ok (.getfield 106, 3) := by decide +kernel
theorem dX10_isSo_11 : decode cX10_isSo 11 = .ok (.if_icmp .ge 57, 3) := by decide +kernel
theorem dX10_isSo_14 : decode cX10_isSo 14 = .ok (.aload_n 0, 1) := by decide +kernel
theorem dX10_isSo_15 : decode cX10_isSo 15 = .ok (.invokevirtual 137, 3) := by decide +kernel
theorem dX10_isSo_18 : decode cX10_isSo 18 = .ok (.aload_n 0, 1) := by decide +kernel
theorem dX10_isSo_19 : decode cX10_isSo 19 = .ok (.getfield 25, 3) := by decide +kernel
theorem dX10_isSo_22 : decode cX10_isSo 22 = .ok (.iload_n 1, 1) := by decide +kernel
theorem dX10_isSo_23 : decode cX10_isSo 23 = .ok (.iload_n 2, 1) := by decide +kernel
theorem dX10_isSo_24 : decode cX10_isSo 24 = .ok (.iastore, 1) := by decide +kernel
theorem dX10_isSo_25 : decode cX10_isSo 25 = .ok (.iload_n 3, 1) := by decide +kernel
theorem dX10_isSo_26 : decode cX10_isSo 26 = .ok (.ifCond .eq 34, 3) := by decide +kernel
theorem dX10_isSo_29 : decode cX10_isSo 29 = .ok (.aload_n 0, 1) := by decide +kernel
theorem dX10_isSo_30 : decode cX10_isSo 30 = .ok (.aload_n 0, 1) := by decide +kernel
theorem dX10_isSo_31 : decode cX10_isSo 31 = .ok (.getfield 22, 3) := by decide +kernel
theorem dX10_isSo_34 : decode cX10_isSo 34 = .ok (.iconst 2, 1) := by decide +kernel
theorem dX10_isSo_35 : decode cX10_isSo 35 = .ok (.iload 4, 2) := by decide +kernel
theorem dX10_isSo_37 : decode cX10_isSo 37 = .ok (.imul, 1) := by decide +kernel
theorem dX10_isSo_38 : decode cX10_isSo 38 = .ok (.iaload, 1) := by decide +kernel
theorem dX10_isSo_39 : decode cX10_isSo 39 = .ok (.invokevirtual 140, 3) := by decide +kernel
theorem dX10_isSo_42 : decode cX10_isSo 42 = .ok (.aload_n 0, 1) := by decide +kernel
theorem dX10_isSo_43 : decode cX10_isSo 43 = .ok (.getfield 22, 3) := by decide +kernel
theorem dX10_isSo_46 : decode cX10_isSo 46 = .ok (.iconst 2, 1) := by decide +kernel
theorem dX10_isSo_47 : decode cX10_isSo 47 = .ok (.iload 4, 2) := by decide +kernel
theorem dX10_isSo_49 : decode cX10_isSo 49 = .ok (.imul, 1) := by decide +kernel
theorem dX10_isSo_50 : decode cX10_isSo 50 = .ok (.iconst 1, 1) := by decide +kernel
theorem dX10_isSo_51 : decode cX10_isSo 51 = .ok (.iadd, 1) := by decide +kernel
theorem dX10_isSo_52 : decode cX10_isSo 52 = .ok (.iaload, 1) := by decide +kernel
theorem dX10_isSo_53 : decode cX10_isSo 53 = .ok (.if_icmp .ne 7, 3) := by decide +kernel
theorem dX10_isSo_56 : decode cX10_isSo 56 = .ok (.iconst 1, 1) := by decide +kernel
theorem dX10_isSo_57 : decode cX10_isSo 57 = .ok (.goto 4, 3) := by decide +kernel
theorem dX10_isSo_60 : decode cX10_isSo 60 = .ok (.iconst 0, 1) := by decide +kernel
theorem dX10_isSo_61 : decode cX10_isSo 61 = .ok (.istore_n 3, 1) := by decide +kernel
theorem dX10_isSo_62 : decode cX10_isSo 62 = .ok (.iinc 4 1, 3) := by decide +kernel
theorem dX10_isSo_65 : decode cX10_isSo 65 = .ok (.goto (-60), 3) := by decide +kernel
theorem dX10_isSo_68 : decode cX10_isSo 68 = .ok (.iload_n 3, 1) := by decide +kernel
theorem dX10_isSo_69 : decode cX10_isSo 69 = .ok (.ireturn, 1) := by decide +kernel
theorem dX10_guessOf_0 : decode cX10_guessOf 0 = .ok (.iconst 0, 1) := by decide +kernel
theorem dX10_guessOf_1 : decode cX10_guessOf 1 = .ok (.istore_n 2, 1) := by decide +kernel
theorem dX10_guessOf_2 : decode cX10_guessOf 2 = .ok (.iconst 0, 1) := by decide +kernel
theorem dX10_guessOf_3 : decode cX10_guessOf 3 = .ok (.istore_n 3, 1) := by decide +kernel
theorem dX10_guessOf_4 : decode cX10_guessOf 4 = .ok (.iload_n 3, 1) := by decide +kernel
theorem dX10_guessOf_5 : decode cX10_guessOf 5 = .ok (.bipush 10, 2) := by decide +kernel
theorem dX10_guessOf_7 : decode cX10_guessOf 7 = .ok (.if_icmp .ge 28, 3) := by decide +kernel
theorem dX10_guessOf_10 : decode cX10_guessOf 10 = .ok (.iload_n 2, 1) := by decide +kernel
theorem dX10_guessOf_11 : decode cX10_guessOf 11 = .ok (.aload_n 0, 1) := by decide +kernel
theorem dX10_guessOf_12 : decode cX10_guessOf 12 = .ok (.iload_n 1, 1) := by decide +kernel
theorem dX10_guessOf_13 : decode cX10_guessOf 13 = .ok (.iload_n 3, 1) := by decide +kernel
theorem dX10_guessOf_14 : decode cX10_guessOf 14 = .ok (.invokevirtual 195, 3) := by decide +kernel
theorem dX10_guessOf_17 : decode cX10_guessOf 17 = .ok (.ifCond .eq 9, 3) := by decide +kernel
theorem dX10_guessOf_20 : decode cX10_guessOf 20 = .ok (.iconst 1, 1) := by decide +kernel
theorem dX10_guessOf_21 : decode cX10_guessOf 21 = .ok (.iload_n 3, 1) := by decide +kernel
theorem dX10_guessOf_22 : decode cX10_guessOf 22 = .ok (.ishl, 1) := by decide +kernel
theorem dX10_guessOf_23 : decode cX10_guessOf 23 = .ok (.goto 4, 3) := by decide +kernel
theorem dX10_guessOf_26 : decode cX10_guessOf 26 = .ok (.iconst 0, 1) := by decide +kernel
theorem dX10_guessOf_27 : decode cX10_guessOf 27 = .ok (.ior, 1) := by decide +kernel
theorem dX10_guessOf_28 : decode cX10_guessOf 28 = .ok (.istore_n 2, 1) := by decide +kernel
theorem dX10_guessOf_29 : decode cX10_guessOf 29 = .ok (.iinc 3 1, 3) := by decide +kernel
theorem dX10_guessOf_32 : decode cX10_guessOf 32 = .ok (.goto (-28), 3) := by decide +kernel
theorem dX10_guessOf_35 : decode cX10_guessOf 35 = .ok (.iload_n 2, 1) := by decide +kernel
theorem dX10_guessOf_36 : decode cX10_guessOf 36 = .ok (.ireturn, 1) := by decide +kernel
theorem dX10_guess_0 : decode cX10_guess 0 = .ok (.aload_n 0, 1) := by decide +kernel
theorem dX10_guess_1 : decode cX10_guess 1 = .ok (.iload_n 1, 1) := by decide +kernel
theorem dX10_guess_2 : decode cX10_guess 2 = .ok (.invokevirtual 116, 3) := by decide +kernel
theorem dX10_guess_5 : decode cX10_guess 5 = .ok (.ifCond .eq 11, 3) := by decide +kernel
theorem dX10_guess_8 : decode cX10_guess 8 = .ok (.aload_n 0, 1) := by decide +kernel
theorem dX10_guess_9 : decode cX10_guess 9 = .ok (.iload_n 1, 1) := by decide +kernel
theorem dX10_guess_10 : decode cX10_guess 10 = .ok (.invokevirtual 199, 3) := by decide +kernel
theorem dX10_guess_13 : decode cX10_guess 13 = .ok (.goto 5, 3) := by decide +kernel
theorem dX10_guess_16 : decode cX10_guess 16 = .ok (.bipush (-101), 2) := by decide +kernel
theorem dX10_guess_18 : decode cX10_guess 18 = .ok (.ireturn, 1) := by decide +kernel
theorem dX10_listenOf_0 : decode cX10_listenOf 0 = .ok (.aload_n 0, 1) := by decide +kernel
theorem dX10_listenOf_1 : decode cX10_listenOf 1 = .ok (.iload_n 1, 1) := by decide +kernel
theorem dX10_listenOf_2 : decode cX10_listenOf 2 = .ok (.invokevirtual 199, 3) := by decide +kernel
theorem dX10_listenOf_5 : decode cX10_listenOf 5 = .ok (.istore_n 2, 1) := by decide +kernel
theorem dX10_listenOf_6 : decode cX10_listenOf 6 = .ok (.iconst (-1), 1) := by decide +kernel
theorem dX10_listenOf_7 : decode cX10_listenOf 7 = .ok (.istore_n 3, 1) := by decide +kernel
theorem dX10_listenOf_8 : decode cX10_listenOf 8 = .ok (.bipush 11, 2) := by decide +kernel
theorem dX10_listenOf_10 : decode cX10_listenOf 10 = .ok (.istore 4, 2) := by decide +kernel
theorem dX10_listenOf_12 : decode cX10_listenOf 12 = .ok (.iconst 0, 1) := by decide +kernel
theorem dX10_listenOf_13 : decode cX10_listenOf 13 = .ok (.istore 5, 2) := by decide +kernel
theorem dX10_listenOf_15 : decode cX10_listenOf 15 = .ok (.iload 5, 2) := by decide +kernel
theorem dX10_listenOf_17 : decode cX10_listenOf 17 = .ok (.aload_n 0, 1) := by decide +kernel
theorem dX10_listenOf_18 : decode cX10_listenOf 18 = .ok (.getfield 91, 3) := by decide +kernel
theorem dX10_listenOf_21 : decode cX10_listenOf 21 = .ok (.if_icmp .ge 163, 3) := by decide +kernel
theorem dX10_listenOf_24 : decode cX10_listenOf 24 = .ok (.iload_n 2, 1) := by decide +kernel
theorem dX10_listenOf_25 : decode cX10_listenOf 25 = .ok (.ifCond .eq 159, 3) := by decide +kernel
theorem dX10_listenOf_28 : decode cX10_listenOf 28 = .ok (.iconst 0, 1) := by decide +kernel
theorem dX10_listenOf_29 : decode cX10_listenOf 29 = .ok (.istore 6, 2) := by decide +kernel
theorem dX10_listenOf_31 : decode cX10_listenOf 31 = .ok (.iload 6, 2) := by decide +kernel
theorem dX10_listenOf_33 : decode cX10_listenOf 33 = .ok (.iconst 5, 1) := by decide +kernel
theorem dX10_listenOf_34 : decode cX10_listenOf 34 = .ok (.if_icmp .ge 17, 3) := by decide +kernel
theorem dX10_listenOf_37 : decode cX10_listenOf 37 = .ok (.aload_n 0, 1) := by decide +kernel
theorem dX10_listenOf_38 : decode cX10_listenOf 38 = .ok (.getfield 40, 3) := by decide +kernel
theorem dX10_listenOf_41 : decode cX10_listenOf 41 = .ok (.iload 6, 2) := by decide +kernel
theorem dX10_listenOf_43 : decode cX10_listenOf 43 = .ok (.iconst 0, 1) := by decide +kernel
theorem dX10_listenOf_44 : decode cX10_listenOf 44 = .ok (.iastore, 1) := by decide +kernel
theorem dX10_listenOf_45 : decode cX10_listenOf 45 = .ok (.iinc 6 1, 3) := by decide +kernel
theorem dX10_listenOf_48 : decode cX10_listenOf 48 = .ok (.goto (-17), 3) := by decide +kernel
theorem dX10_listenOf_51 : decode cX10_listenOf 51 = .ok (.iconst 0, 1) := by decide +kernel
theorem dX10_listenOf_52 : decode cX10_listenOf 52 = .ok (.istore 6, 2) := by decide +kernel
theorem dX10_listenOf_54 : decode cX10_listenOf 54 = .ok (.iload 6, 2) := by decide +kernel
theorem dX10_listenOf_56 : decode cX10_listenOf 56 = .ok (.bipush 10, 2) := by decide +kernel
theorem dX10_listenOf_58 : decode cX10_listenOf 58 = .ok (.if_icmp .ge 46, 3) := by decide +kernel
theorem dX10_listenOf_61 : decode cX10_listenOf 61 = .ok (.iload_n 2, 1) := by decide +kernel
theorem dX10_listenOf_62 : decode cX10_listenOf 62 = .ok (.iload 6, 2) := by decide +kernel
theorem dX10_listenOf_64 : decode cX10_listenOf 64 = .ok (.ishr, 1) := by decide +kernel
theorem dX10_listenOf_65 : decode cX10_listenOf 65 = .ok (.iconst 1, 1) := by decide +kernel
theorem dX10_listenOf_66 : decode cX10_listenOf 66 = .ok (.iand, 1) := by decide +kernel
theorem dX10_listenOf_67 : decode cX10_listenOf 67 = .ok (.iconst 1, 1) := by decide +kernel
theorem dX10_listenOf_68 : decode cX10_listenOf 68 = .ok (.if_icmp .ne 30, 3) := by decide +kernel
theorem dX10_listenOf_71 : decode cX10_listenOf 71 = .ok (.aload_n 0, 1) := by decide +kernel
theorem dX10_listenOf_72 : decode cX10_listenOf 72 = .ok (.invokevirtual 137, 3) := by decide +kernel
theorem dX10_listenOf_75 : decode cX10_listenOf 75 = .ok (.aload_n 0, 1) := by decide +kernel
theorem dX10_listenOf_76 : decode cX10_listenOf 76 = .ok (.getfield 25, 3) := by decide +kernel
theorem dX10_listenOf_79 : decode cX10_listenOf 79 = .ok (.iload_n 1, 1) := by decide +kernel
theorem dX10_listenOf_80 : decode cX10_listenOf 80 = .ok (.iload 6, 2) := by decide +kernel
theorem dX10_listenOf_82 : decode cX10_listenOf 82 = .ok (.iastore, 1) := by decide +kernel
theorem dX10_listenOf_83 : decode cX10_listenOf 83 = .ok (.aload_n 0, 1) := by decide +kernel
theorem dX10_listenOf_84 : decode cX10_listenOf 84 = .ok (.getfield 40, 3) := by decide +kernel
theorem dX10_listenOf_87 : decode cX10_listenOf 87 = .ok (.aload_n 0, 1) := by decide +kernel
theorem dX10_listenOf_88 : decode cX10_listenOf 88 = .ok (.iload 5, 2) := by decide +kernel
theorem dX10_listenOf_90 : decode cX10_listenOf 90 = .ok (.invokevirtual 140, 3) := by decide +kernel
theorem dX10_listenOf_93 : decode cX10_listenOf 93 = .ok (.dup2, 1) := by decide +kernel
theorem dX10_listenOf_94 : decode cX10_listenOf 94 = .ok (.iaload, 1) := by decide +kernel
theorem dX10_listenOf_95 : decode cX10_listenOf 95 = .ok (.iconst 1, 1) := by decide +kernel
theorem dX10_listenOf_96 : decode cX10_listenOf 96 = .ok (.iadd, 1) := by decide +kernel
theorem dX10_listenOf_97 : decode cX10_listenOf 97 = .ok (.iastore, 1) := by decide +kernel
theorem dX10_listenOf_98 : decode cX10_listenOf 98 = .ok (.iinc 6 1, 3) := by decide +kernel
theorem dX10_listenOf_101 : decode cX10_listenOf 101 = .ok (.goto (-47), 3) := by decide +kernel
theorem dX10_listenOf_104 : decode cX10_listenOf 104 = .ok (.iconst 0, 1) := by decide +kernel
theorem dX10_listenOf_105 : decode cX10_listenOf 105 = .ok (.istore 6, 2) := by decide +kernel
theorem dX10_listenOf_107 : decode cX10_listenOf 107 = .ok (.iconst 0, 1) := by decide +kernel
theorem dX10_listenOf_108 : decode cX10_listenOf 108 = .ok (.istore 7, 2) := by decide +kernel
theorem dX10_listenOf_110 : decode cX10_listenOf 110 = .ok (.iload 7, 2) := by decide +kernel
theorem dX10_listenOf_112 : decode cX10_listenOf 112 = .ok (.iconst 5, 1) := by decide +kernel
theorem dX10_listenOf_113 : decode cX10_listenOf 113 = .ok (.if_icmp .ge 35, 3) := by decide +kernel
theorem dX10_listenOf_116 : decode cX10_listenOf 116 = .ok (.aload_n 0, 1) := by decide +kernel
theorem dX10_listenOf_117 : decode cX10_listenOf 117 = .ok (.getfield 40, 3) := by decide +kernel
theorem dX10_listenOf_120 : decode cX10_listenOf 120 = .ok (.iload 7, 2) := by decide +kernel
theorem dX10_listenOf_122 : decode cX10_listenOf 122 = .ok (.iaload, 1) := by decide +kernel
theorem dX10_listenOf_123 : decode cX10_listenOf 123 = .ok (.iload 6, 2) := by decide +kernel
theorem dX10_listenOf_125 : decode cX10_listenOf 125 = .ok (.if_icmp .le 13, 3) := by decide +kernel
theorem dX10_listenOf_128 : decode cX10_listenOf 128 = .ok (.aload_n 0, 1) := by decide +kernel
theorem dX10_listenOf_129 : decode cX10_listenOf 129 = .ok (.getfield 40, 3) := by decide +kernel
theorem dX10_listenOf_132 : decode cX10_listenOf 132 = .ok (.iload 7, 2) := by decide +kernel
theorem dX10_listenOf_134 : decode cX10_listenOf 134 = .ok (.iaload, 1) := by decide +kernel
theorem dX10_listenOf_135 : decode cX10_listenOf 135 = .ok (.goto 5, 3) := by decide +kernel
theorem dX10_listenOf_138 : decode cX10_listenOf 138 = .ok (.iload 6, 2) := by decide +kernel
theorem dX10_listenOf_140 : decode cX10_listenOf 140 = .ok (.istore 6, 2) := by decide +kernel
theorem dX10_listenOf_142 : decode cX10_listenOf 142 = .ok (.iinc 7 1, 3) := by decide +kernel
theorem dX10_listenOf_145 : decode cX10_listenOf 145 = .ok (.goto (-35), 3) := by decide +kernel
theorem dX10_listenOf_148 : decode cX10_listenOf 148 = .ok (.iload 6, 2) := by decide +kernel
theorem dX10_listenOf_150 : decode cX10_listenOf 150 = .ok (.iload 4, 2) := by decide +kernel
theorem dX10_listenOf_152 : decode cX10_listenOf 152 = .ok (.if_icmp .ge 8, 3) := by decide +kernel
theorem dX10_listenOf_155 : decode cX10_listenOf 155 = .ok (.iload 5, 2) := by decide +kernel
theorem dX10_listenOf_157 : decode cX10_listenOf 157 = .ok (.goto 4, 3) := by decide +kernel
theorem dX10_listenOf_160 : decode cX10_listenOf 160 = .ok (.iload_n 3, 1) := by decide +kernel
theorem dX10_listenOf_161 : decode cX10_listenOf 161 = .ok (.istore_n 3, 1) := by decide +kernel
theorem dX10_listenOf_162 : decode cX10_listenOf 162 = .ok (.iload 6, 2) := by decide +kernel
theorem dX10_listenOf_164 : decode cX10_listenOf 164 = .ok (.iload 4, 2) := by decide +kernel
theorem dX10_listenOf_166 : decode cX10_listenOf 166 = .ok (.if_icmp .ge 8, 3) := by decide +kernel
theorem dX10_listenOf_169 : decode cX10_listenOf 169 = .ok (.iload 6, 2) := by decide +kernel
theorem dX10_listenOf_171 : decode cX10_listenOf 171 = .ok (.goto 5, 3) := by decide +kernel
theorem dX10_listenOf_174 : decode cX10_listenOf 174 = .ok (.iload 4, 2) := by decide +kernel
theorem dX10_listenOf_176 : decode cX10_listenOf 176 = .ok (.istore 4, 2) := by decide +kernel
theorem dX10_listenOf_178 : decode cX10_listenOf 178 = .ok (.iinc 5 1, 3) := by decide +kernel
theorem dX10_listenOf_181 : decode cX10_listenOf 181 = .ok (.goto (-166), 3) := by decide +kernel
theorem dX10_listenOf_184 : decode cX10_listenOf 184 = .ok (.iload_n 3, 1) := by decide +kernel
theorem dX10_listenOf_185 : decode cX10_listenOf 185 = .ok (.ireturn, 1) := by decide +kernel
theorem dX10_listen_0 : decode cX10_listen 0 = .ok (.aload_n 0, 1) := by decide +kernel
theorem dX10_listen_1 : decode cX10_listen 1 = .ok (.iload_n 1, 1) := by decide +kernel
theorem dX10_listen_2 : decode cX10_listen 2 = .ok (.invokevirtual 116, 3) := by decide +kernel
theorem dX10_listen_5 : decode cX10_listen 5 = .ok (.ifCond .eq 11, 3) := by decide +kernel
theorem dX10_listen_8 : decode cX10_listen 8 = .ok (.aload_n 0, 1) := by decide +kernel
theorem dX10_listen_9 : decode cX10_listen 9 = .ok (.iload_n 1, 1) := by decide +kernel
theorem dX10_listen_10 : decode cX10_listen 10 = .ok (.invokevirtual 202, 3) := by decide +kernel
theorem dX10_listen_13 : decode cX10_listen 13 = .ok (.goto 5, 3) := by decide +kernel
theorem dX10_listen_16 : decode cX10_listen 16 = .ok (.bipush (-101), 2) := by decide +kernel
theorem dX10_listen_18 : decode cX10_listen 18 = .ok (.ireturn, 1) := by decide +kernel
theorem dX10_draw_0 : decode cX10_draw 0 = .ok (.aload_n 0, 1) := by decide +kernel
theorem dX10_draw_1 : decode cX10_draw 1 = .ok (.ldc2_w 205, 3) := by decide +kernel
theorem dX10_draw_4 : decode cX10_draw 4 = .ok (.aload_n 0, 1) := by decide +kernel
theorem dX10_draw_5 : decode cX10_draw 5 = .ok (.getfield 207, 3) := by decide +kernel
theorem dX10_draw_8 : decode cX10_draw 8 = .ok (.i2l, 1) := by decide +kernel
theorem dX10_draw_9 : decode cX10_draw 9 = .ok (.lmul, 1) := by decide +kernel
theorem dX10_draw_10 : decode cX10_draw 10 = .ok (.ldc2_w 210, 3) := by decide +kernel
theorem dX10_draw_13 : decode cX10_draw 13 = .ok (.ladd, 1) := by decide +kernel
theorem dX10_draw_14 : decode cX10_draw 14 = .ok (.ldc2_w 212, 3) := by decide +kernel
theorem dX10_draw_17 : decode cX10_draw 17 = .ok (.land, 1) := by decide +kernel
theorem dX10_draw_18 : decode cX10_draw 18 = .ok (.l2i, 1) := by decide +kernel
theorem dX10_draw_19 : decode cX10_draw 19 = .ok (.putfield 207, 3) := by decide +kernel
theorem dX10_draw_22 : decode cX10_draw 22 = .ok (.aload_n 0, 1) := by decide +kernel
theorem dX10_draw_23 : decode cX10_draw 23 = .ok (.getfield 207, 3) := by decide +kernel
theorem dX10_draw_26 : decode cX10_draw 26 = .ok (.ldc 214, 2) := by decide +kernel
theorem dX10_draw_28 : decode cX10_draw 28 = .ok (.idiv, 1) := by decide +kernel
theorem dX10_draw_29 : decode cX10_draw 29 = .ok (.iload_n 1, 1) := by decide +kernel
theorem dX10_draw_30 : decode cX10_draw 30 = .ok (.irem, 1) := by decide +kernel
theorem dX10_draw_31 : decode cX10_draw 31 = .ok (.ireturn, 1) := by decide +kernel
theorem dX10_draughts_0 : decode cX10_draughts 0 = .ok (.iload_n 1, 1) := by decide +kernel
theorem dX10_draughts_1 : decode cX10_draughts 1 = .ok (.i2l, 1) := by decide +kernel
theorem dX10_draughts_2 : decode cX10_draughts 2 = .ok (.lconst 1, 1) := by decide +kernel
theorem dX10_draughts_3 : decode cX10_draughts 3 = .ok (.ldc2_w 215, 3) := by decide +kernel
theorem dX10_draughts_6 : decode cX10_draughts 6 = .ok (.invokestatic 55, 3) := by decide +kernel
theorem dX10_draughts_9 : decode cX10_draughts 9 = .ok (.ifCond .eq 19, 3) := by decide +kernel
theorem dX10_draughts_12 : decode cX10_draughts 12 = .ok (.iload_n 2, 1) := by decide +kernel
theorem dX10_draughts_13 : decode cX10_draughts 13 = .ok (.ifCond .lt 15, 3) := by decide +kernel
theorem dX10_draughts_16 : decode cX10_draughts 16 = .ok (.iload_n 3, 1) := by decide +kernel
theorem dX10_draughts_17 : decode cX10_draughts 17 = .ok (.i2l, 1) := by decide +kernel
theorem dX10_draughts_18 : decode cX10_draughts 18 = .ok (.lconst 0, 1) := by decide +kernel
theorem dX10_draughts_19 : decode cX10_draughts 19 = .ok (.ldc2_w 217, 3) := by decide +kernel
theorem dX10_draughts_22 : decode cX10_draughts 22 = .ok (.invokestatic 55, 3) := by decide +kernel
theorem dX10_draughts_25 : decode cX10_draughts 25 = .ok (.ifCond .ne 6, 3) := by decide +kernel
theorem dX10_draughts_28 : decode cX10_draughts 28 = .ok (.bipush (-102), 2) := by decide +kernel
theorem dX10_draughts_30 : decode cX10_draughts 30 = .ok (.ireturn, 1) := by decide +kernel
theorem dX10_draughts_31 : decode cX10_draughts 31 = .ok (.aload_n 0, 1) := by decide +kernel
theorem dX10_draughts_32 : decode cX10_draughts 32 = .ok (.getfield 103, 3) := by decide +kernel
theorem dX10_draughts_35 : decode cX10_draughts 35 = .ok (.ifCond .ne 6, 3) := by decide +kernel
theorem dX10_draughts_38 : decode cX10_draughts 38 = .ok (.bipush (-103), 2) := by decide +kernel
theorem dX10_draughts_40 : decode cX10_draughts 40 = .ok (.ireturn, 1) := by decide +kernel
theorem dX10_draughts_41 : decode cX10_draughts 41 = .ok (.aload_n 0, 1) := by decide +kernel
theorem dX10_draughts_42 : decode cX10_draughts 42 = .ok (.iload_n 2, 1) := by decide +kernel
theorem dX10_draughts_43 : decode cX10_draughts 43 = .ok (.putfield 207, 3) := by decide +kernel
theorem dX10_draughts_46 : decode cX10_draughts 46 = .ok (.iconst 0, 1) := by decide +kernel
theorem dX10_draughts_47 : decode cX10_draughts 47 = .ok (.istore 4, 2) := by decide +kernel
theorem dX10_draughts_49 : decode cX10_draughts 49 = .ok (.iconst 0, 1) := by decide +kernel
theorem dX10_draughts_50 : decode cX10_draughts 50 = .ok (.istore 5, 2) := by decide +kernel
theorem dX10_draughts_52 : decode cX10_draughts 52 = .ok (.iconst 0, 1) := by decide +kernel
theorem dX10_draughts_53 : decode cX10_draughts 53 = .ok (.istore 6, 2) := by decide +kernel
theorem dX10_draughts_55 : decode cX10_draughts 55 = .ok (.iload 6, 2) := by decide +kernel
theorem dX10_draughts_57 : decode cX10_draughts 57 = .ok (.iload_n 1, 1) := by decide +kernel
theorem dX10_draughts_58 : decode cX10_draughts 58 = .ok (.if_icmp .ge 70, 3) := by decide +kernel
theorem dX10_draughts_61 : decode cX10_draughts 61 = .ok (.aload_n 0, 1) := by decide +kernel
theorem dX10_draughts_62 : decode cX10_draughts 62 = .ok (.invokevirtual 137, 3) := by decide +kernel
theorem dX10_draughts_65 : decode cX10_draughts 65 = .ok (.iconst 0, 1) := by decide +kernel
theorem dX10_draughts_66 : decode cX10_draughts 66 = .ok (.istore 7, 2) := by decide +kernel
theorem dX10_draughts_68 : decode cX10_draughts 68 = .ok (.iload 7, 2) := by decide +kernel
theorem dX10_draughts_70 : decode cX10_draughts 70 = .ok (.aload_n 0, 1) := by decide +kernel
theorem dX10_draughts_71 : decode cX10_draughts 71 = .ok (.getfield 91, 3) := by decide +kernel
theorem dX10_draughts_74 : decode cX10_draughts 74 = .ok (.if_icmp .ge 48, 3) := by decide +kernel
theorem dX10_draughts_77 : decode cX10_draughts 77 = .ok (.aload_n 0, 1) := by decide +kernel
theorem dX10_draughts_78 : decode cX10_draughts 78 = .ok (.aload_n 0, 1) := by decide +kernel
theorem dX10_draughts_79 : decode cX10_draughts 79 = .ok (.getfield 103, 3) := by decide +kernel
theorem dX10_draughts_82 : decode cX10_draughts 82 = .ok (.invokevirtual 219, 3) := by decide +kernel
theorem dX10_draughts_85 : decode cX10_draughts 85 = .ok (.istore 8, 2) := by decide +kernel
theorem dX10_draughts_87 : decode cX10_draughts 87 = .ok (.aload_n 0, 1) := by decide +kernel
theorem dX10_draughts_88 : decode cX10_draughts 88 = .ok (.bipush 6, 2) := by decide +kernel
theorem dX10_draughts_90 : decode cX10_draughts 90 = .ok (.invokevirtual 219, 3) := by decide +kernel
theorem dX10_draughts_93 : decode cX10_draughts 93 = .ok (.ifCond .ne 12, 3) := by decide +kernel
theorem dX10_draughts_96 : decode cX10_draughts 96 = .ok (.aload_n 0, 1) := by decide +kernel
theorem dX10_draughts_97 : decode cX10_draughts 97 = .ok (.iload 8, 2) := by decide +kernel
theorem dX10_draughts_99 : decode cX10_draughts 99 = .ok (.invokevirtual 159, 3) := by decide +kernel
theorem dX10_draughts_102 : decode cX10_draughts 102 = .ok (.iinc 5 1, 3) := by decide +kernel
theorem dX10_draughts_105 : decode cX10_draughts 105 = .ok (.iload 4, 2) := by decide +kernel
theorem dX10_draughts_107 : decode cX10_draughts 107 = .ok (.aload_n 0, 1) := by decide +kernel
theorem dX10_draughts_108 : decode cX10_draughts 108 = .ok (.iload 7, 2) := by decide +kernel
theorem dX10_draughts_110 : decode cX10_draughts 110 = .ok (.invokevirtual 134, 3) := by decide +kernel
theorem dX10_draughts_113 : decode cX10_draughts 113 = .ok (.iadd, 1) := by decide +kernel
theorem dX10_draughts_114 : decode cX10_draughts 114 = .ok (.istore 4, 2) := by decide +kernel
theorem dX10_draughts_116 : decode cX10_draughts 116 = .ok (.iinc 7 1, 3) := by decide +kernel
theorem dX10_draughts_119 : decode cX10_draughts 119 = .ok (.goto (-51), 3) := by decide +kernel
theorem dX10_draughts_122 : decode cX10_draughts 122 = .ok (.iinc 6 1, 3) := by decide +kernel
theorem dX10_draughts_125 : decode cX10_draughts 125 = .ok (.goto (-70), 3) := by decide +kernel
theorem dX10_draughts_128 : decode cX10_draughts 128 = .ok (.iload_n 3, 1) := by decide +kernel
theorem dX10_draughts_129 : decode cX10_draughts 129 = .ok (.ifCond .ne 8, 3) := by decide +kernel
theorem dX10_draughts_132 : decode cX10_draughts 132 = .ok (.iload 4, 2) := by decide +kernel
theorem dX10_draughts_134 : decode cX10_draughts 134 = .ok (.goto 17, 3) := by decide +kernel
theorem dX10_draughts_137 : decode cX10_draughts 137 = .ok (.iload_n 3, 1) := by decide +kernel
theorem dX10_draughts_138 : decode cX10_draughts 138 = .ok (.iconst 1, 1) := by decide +kernel
theorem dX10_draughts_139 : decode cX10_draughts 139 = .ok (.if_icmp .ne 8, 3) := by decide +kernel
theorem dX10_draughts_142 : decode cX10_draughts 142 = .ok (.iload 5, 2) := by decide +kernel
theorem dX10_draughts_144 : decode cX10_draughts 144 = .ok (.goto 7, 3) := by decide +kernel
theorem dX10_draughts_147 : decode cX10_draughts 147 = .ok (.aload_n 0, 1) := by decide +kernel
theorem dX10_draughts_148 : decode cX10_draughts 148 = .ok (.getfield 207, 3) := by decide +kernel
theorem dX10_draughts_151 : decode cX10_draughts 151 = .ok (.ireturn, 1) := by decide +kernel
theorem dX10_image_0 : decode cX10_image 0 = .ok (.aload_n 0, 1) := by decide +kernel
theorem dX10_image_1 : decode cX10_image 1 = .ok (.invokevirtual 112, 3) := by decide +kernel
theorem dX10_image_4 : decode cX10_image 4 = .ok (.ifCond .eq 6, 3) := by decide +kernel
theorem dX10_image_7 : decode cX10_image 7 = .ok (.bipush (-103), 2) := by decide +kernel
theorem dX10_image_9 : decode cX10_image 9 = .ok (.ireturn, 1) := by decide +kernel
theorem dX10_image_10 : decode cX10_image 10 = .ok (.aload_n 0, 1) := by decide +kernel
theorem dX10_image_11 : decode cX10_image 11 = .ok (.getfield 19, 3) := by decide +kernel
theorem dX10_image_14 : decode cX10_image 14 = .ok (.aload_n 0, 1) := by decide +kernel
theorem dX10_image_15 : decode cX10_image 15 = .ok (.getfield 43, 3) := by decide +kernel
theorem dX10_image_18 : decode cX10_image 18 = .ok (.invokestatic 87, 3) := by decide +kernel
theorem dX10_image_21 : decode cX10_image 21 = .ok (.aload_n 0, 1) := by decide +kernel
theorem dX10_image_22 : decode cX10_image 22 = .ok (.getfield 22, 3) := by decide +kernel
theorem dX10_image_25 : decode cX10_image 25 = .ok (.aload_n 0, 1) := by decide +kernel
theorem dX10_image_26 : decode cX10_image 26 = .ok (.getfield 46, 3) := by decide +kernel
theorem dX10_image_29 : decode cX10_image 29 = .ok (.invokestatic 87, 3) := by decide +kernel
theorem dX10_image_32 : decode cX10_image 32 = .ok (.aload_n 0, 1) := by decide +kernel
theorem dX10_image_33 : decode cX10_image 33 = .ok (.aload_n 0, 1) := by decide +kernel
theorem dX10_image_34 : decode cX10_image 34 = .ok (.getfield 103, 3) := by decide +kernel
theorem dX10_image_37 : decode cX10_image 37 = .ok (.putfield 222, 3) := by decide +kernel
theorem dX10_image_40 : decode cX10_image 40 = .ok (.aload_n 0, 1) := by decide +kernel
theorem dX10_image_41 : decode cX10_image 41 = .ok (.aload_n 0, 1) := by decide +kernel
theorem dX10_image_42 : decode cX10_image 42 = .ok (.getfield 97, 3) := by decide +kernel
theorem dX10_image_45 : decode cX10_image 45 = .ok (.putfield 225, 3) := by decide +kernel
theorem dX10_image_48 : decode cX10_image 48 = .ok (.aload_n 0, 1) := by decide +kernel
theorem dX10_image_49 : decode cX10_image 49 = .ok (.aload_n 0, 1) := by decide +kernel
theorem dX10_image_50 : decode cX10_image 50 = .ok (.getfield 100, 3) := by decide +kernel
theorem dX10_image_53 : decode cX10_image 53 = .ok (.putfield 228, 3) := by decide +kernel
theorem dX10_image_56 : decode cX10_image 56 = .ok (.aload_n 0, 1) := by decide +kernel
theorem dX10_image_57 : decode cX10_image 57 = .ok (.aload_n 0, 1) := by decide +kernel
theorem dX10_image_58 : decode cX10_image 58 = .ok (.getfield 106, 3) := by decide +kernel
theorem dX10_image_61 : decode cX10_image 61 = .ok (.putfield 231, 3) := by decide +kernel
theorem dX10_image_64 : decode cX10_image 64 = .ok (.aload_n 0, 1) := by decide +kernel
theorem dX10_image_65 : decode cX10_image 65 = .ok (.aload_n 0, 1) := by decide +kernel
theorem dX10_image_66 : decode cX10_image 66 = .ok (.getfield 109, 3) := by decide +kernel
theorem dX10_image_69 : decode cX10_image 69 = .ok (.putfield 49, 3) := by decide +kernel
theorem dX10_image_72 : decode cX10_image 72 = .ok (.aload_n 0, 1) := by decide +kernel
