theorem dX9_init_129 : decode cX9_init 129 = .ok (.putfield 63, 3) := by decide +kernel
theorem dX9_init_132 : decode cX9_init 132 = .ok (.aload_n 0, 1) := by decide +kernel
theorem dX9_init_133 : decode cX9_init 133 = .ok (.new 67, 3) := by decide +kernel
theorem dX9_init_136 : decode cX9_init 136 = .ok (.dup, 1) := by decide +kernel
theorem dX9_init_137 : decode cX9_init 137 = .ok (.aload_n 0, 1) := by decide +kernel
theorem dX9_init_138 : decode cX9_init 138 = .ok (.getfield 19, 3) := by decide +kernel
theorem dX9_init_141 : decode cX9_init 141 = .ok (.aload_n 0, 1) := by decide +kernel
theorem dX9_init_142 : decode cX9_init 142 = .ok (.getfield 26, 3) := by decide +kernel
theorem dX9_init_145 : decode cX9_init 145 = .ok (.aload_n 0, 1) := by decide +kernel
theorem dX9_init_146 : decode cX9_init 146 = .ok (.getfield 38, 3) := by decide +kernel
theorem dX9_init_149 : decode cX9_init 149 = .ok (.invokespecial 69, 3) := by decide +kernel
theorem dX9_init_152 : decode cX9_init 152 = .ok (.putfield 70, 3) := by decide +kernel
theorem dX9_init_155 : decode cX9_init 155 = .ok (.aload_n 0, 1) := by decide +kernel
theorem dX9_init_156 : decode cX9_init 156 = .ok (.iconst 0, 1) := by decide +kernel
theorem dX9_init_157 : decode cX9_init 157 = .ok (.putfield 74, 3) := by decide +kernel
theorem dX9_init_160 : decode cX9_init 160 = .ok (.aload_n 0, 1) := by decide +kernel
theorem dX9_init_161 : decode cX9_init 161 = .ok (.iconst 0, 1) := by decide +kernel
theorem dX9_init_162 : decode cX9_init 162 = .ok (.putfield 78, 3) := by decide +kernel
theorem dX9_init_165 : decode cX9_init 165 = .ok (.aload_n 0, 1) := by decide +kernel
theorem dX9_init_166 : decode cX9_init 166 = .ok (.iconst 0, 1) := by decide +kernel
theorem dX9_init_167 : decode cX9_init 167 = .ok (.putfield 82, 3) := by decide +kernel
theorem dX9_init_170 : decode cX9_init 170 = .ok (.aload_n 0, 1) := by decide +kernel
theorem dX9_init_171 : decode cX9_init 171 = .ok (.iconst 0, 1) := by decide +kernel
theorem dX9_init_172 : decode cX9_init 172 = .ok (.putfield 85, 3) := by decide +kernel
theorem dX9_init_175 : decode cX9_init 175 = .ok (.return_, 1) := by decide +kernel
theorem dX9_letter_0 : decode cX9_letter 0 = .ok (.iload_n 1, 1) := by decide +kernel
theorem dX9_letter_1 : decode cX9_letter 1 = .ok (.iconst 1, 1) := by decide +kernel
theorem dX9_letter_2 : decode cX9_letter 2 = .ok (.if_icmp .lt 9, 3) := by decide +kernel
theorem dX9_letter_5 : decode cX9_letter 5 = .ok (.iload_n 1, 1) := by decide +kernel
theorem dX9_letter_6 : decode cX9_letter 6 = .ok (.bipush 126, 2) := by decide +kernel
theorem dX9_letter_8 : decode cX9_letter 8 = .ok (.if_icmp .le 6, 3) := by decide +kernel
theorem dX9_letter_11 : decode cX9_letter 11 = .ok (.bipush (-102), 2) := by decide +kernel
theorem dX9_letter_13 : decode cX9_letter 13 = .ok (.ireturn, 1) := by decide +kernel
theorem dX9_letter_14 : decode cX9_letter 14 = .ok (.aload_n 0, 1) := by decide +kernel
theorem dX9_letter_15 : decode cX9_letter 15 = .ok (.getfield 10, 3) := by decide +kernel
theorem dX9_letter_18 : decode cX9_letter 18 = .ok (.getfield 88, 3) := by decide +kernel
theorem dX9_letter_21 : decode cX9_letter 21 = .ok (.bipush 22, 2) := by decide +kernel
theorem dX9_letter_23 : decode cX9_letter 23 = .ok (.if_icmp .lt 6, 3) := by decide +kernel
theorem dX9_letter_26 : decode cX9_letter 26 = .ok (.bipush (-104), 2) := by decide +kernel
theorem dX9_letter_28 : decode cX9_letter 28 = .ok (.ireturn, 1) := by decide +kernel
theorem dX9_letter_29 : decode cX9_letter 29 = .ok (.aload_n 0, 1) := by decide +kernel
theorem dX9_letter_30 : decode cX9_letter 30 = .ok (.getfield 10, 3) := by decide +kernel
theorem dX9_letter_33 : decode cX9_letter 33 = .ok (.iload_n 1, 1) := by decide +kernel
theorem dX9_letter_34 : decode cX9_letter 34 = .ok (.invokevirtual 91, 3) := by decide +kernel
theorem dX9_letter_37 : decode cX9_letter 37 = .ok (.aload_n 0, 1) := by decide +kernel
theorem dX9_letter_38 : decode cX9_letter 38 = .ok (.getfield 10, 3) := by decide +kernel
theorem dX9_letter_41 : decode cX9_letter 41 = .ok (.getfield 88, 3) := by decide +kernel
theorem dX9_letter_44 : decode cX9_letter 44 = .ok (.ireturn, 1) := by decide +kernel
theorem dX9_blank_0 : decode cX9_blank 0 = .ok (.aload_n 0, 1) := by decide +kernel
theorem dX9_blank_1 : decode cX9_blank 1 = .ok (.getfield 10, 3) := by decide +kernel
theorem dX9_blank_4 : decode cX9_blank 4 = .ok (.getfield 88, 3) := by decide +kernel
theorem dX9_blank_7 : decode cX9_blank 7 = .ok (.istore_n 1, 1) := by decide +kernel
theorem dX9_blank_8 : decode cX9_blank 8 = .ok (.aload_n 0, 1) := by decide +kernel
theorem dX9_blank_9 : decode cX9_blank 9 = .ok (.getfield 10, 3) := by decide +kernel
theorem dX9_blank_12 : decode cX9_blank 12 = .ok (.iconst 0, 1) := by decide +kernel
theorem dX9_blank_13 : decode cX9_blank 13 = .ok (.putfield 88, 3) := by decide +kernel
theorem dX9_blank_16 : decode cX9_blank 16 = .ok (.iload_n 1, 1) := by decide +kernel
theorem dX9_blank_17 : decode cX9_blank 17 = .ok (.ireturn, 1) := by decide +kernel
theorem dX9_fault_0 : decode cX9_fault 0 = .ok (.aload_n 0, 1) := by decide +kernel
theorem dX9_fault_1 : decode cX9_fault 1 = .ok (.getfield 10, 3) := by decide +kernel
theorem dX9_fault_4 : decode cX9_fault 4 = .ok (.invokevirtual 95, 3) := by decide +kernel
theorem dX9_fault_7 : decode cX9_fault 7 = .ok (.ireturn, 1) := by decide +kernel
theorem dX9_piece_0 : decode cX9_piece 0 = .ok (.aload_n 0, 1) := by decide +kernel
theorem dX9_piece_1 : decode cX9_piece 1 = .ok (.getfield 10, 3) := by decide +kernel
theorem dX9_piece_4 : decode cX9_piece 4 = .ok (.invokevirtual 99, 3) := by decide +kernel
theorem dX9_piece_7 : decode cX9_piece 7 = .ok (.ifCond .ne 6, 3) := by decide +kernel
theorem dX9_piece_10 : decode cX9_piece 10 = .ok (.bipush (-103), 2) := by decide +kernel
theorem dX9_piece_12 : decode cX9_piece 12 = .ok (.ireturn, 1) := by decide +kernel
theorem dX9_piece_13 : decode cX9_piece 13 = .ok (.aload_n 0, 1) := by decide +kernel
theorem dX9_piece_14 : decode cX9_piece 14 = .ok (.getfield 19, 3) := by decide +kernel
theorem dX9_piece_17 : decode cX9_piece 17 = .ok (.aload_n 0, 1) := by decide +kernel
theorem dX9_piece_18 : decode cX9_piece 18 = .ok (.getfield 10, 3) := by decide +kernel
theorem dX9_piece_21 : decode cX9_piece 21 = .ok (.invokevirtual 103, 3) := by decide +kernel
theorem dX9_piece_24 : decode cX9_piece 24 = .ok (.aload_n 0, 1) := by decide +kernel
theorem dX9_piece_25 : decode cX9_piece 25 = .ok (.getfield 10, 3) := by decide +kernel
theorem dX9_piece_28 : decode cX9_piece 28 = .ok (.iconst 0, 1) := by decide +kernel
theorem dX9_piece_29 : decode cX9_piece 29 = .ok (.putfield 88, 3) := by decide +kernel
theorem dX9_piece_32 : decode cX9_piece 32 = .ok (.aload_n 0, 1) := by decide +kernel
theorem dX9_piece_33 : decode cX9_piece 33 = .ok (.getfield 26, 3) := by decide +kernel
theorem dX9_piece_36 : decode cX9_piece 36 = .ok (.invokevirtual 107, 3) := by decide +kernel
theorem dX9_piece_39 : decode cX9_piece 39 = .ok (.aload_n 0, 1) := by decide +kernel
theorem dX9_piece_40 : decode cX9_piece 40 = .ok (.iconst 0, 1) := by decide +kernel
theorem dX9_piece_41 : decode cX9_piece 41 = .ok (.putfield 74, 3) := by decide +kernel
theorem dX9_piece_44 : decode cX9_piece 44 = .ok (.aload_n 0, 1) := by decide +kernel
theorem dX9_piece_45 : decode cX9_piece 45 = .ok (.dup, 1) := by decide +kernel
theorem dX9_piece_46 : decode cX9_piece 46 = .ok (.getfield 78, 3) := by decide +kernel
theorem dX9_piece_49 : decode cX9_piece 49 = .ok (.iconst 1, 1) := by decide +kernel
theorem dX9_piece_50 : decode cX9_piece 50 = .ok (.iadd, 1) := by decide +kernel
theorem dX9_piece_51 : decode cX9_piece 51 = .ok (.putfield 78, 3) := by decide +kernel
theorem dX9_piece_54 : decode cX9_piece 54 = .ok (.aload_n 0, 1) := by decide +kernel
theorem dX9_piece_55 : decode cX9_piece 55 = .ok (.getfield 19, 3) := by decide +kernel
theorem dX9_piece_58 : decode cX9_piece 58 = .ok (.getfield 110, 3) := by decide +kernel
theorem dX9_piece_61 : decode cX9_piece 61 = .ok (.ireturn, 1) := by decide +kernel
theorem dX9_bar_0 : decode cX9_bar 0 = .ok (.aload_n 0, 1) := by decide +kernel
theorem dX9_bar_1 : decode cX9_bar 1 = .ok (.getfield 19, 3) := by decide +kernel
theorem dX9_bar_4 : decode cX9_bar 4 = .ok (.iload_n 1, 1) := by decide +kernel
theorem dX9_bar_5 : decode cX9_bar 5 = .ok (.invokevirtual 113, 3) := by decide +kernel
theorem dX9_bar_8 : decode cX9_bar 8 = .ok (.ifCond .ne 6, 3) := by decide +kernel
theorem dX9_bar_11 : decode cX9_bar 11 = .ok (.bipush (-101), 2) := by decide +kernel
theorem dX9_bar_13 : decode cX9_bar 13 = .ok (.ireturn, 1) := by decide +kernel
theorem dX9_bar_14 : decode cX9_bar 14 = .ok (.iload_n 2, 1) := by decide +kernel
theorem dX9_bar_15 : decode cX9_bar 15 = .ok (.ifCond .lt 8, 3) := by decide +kernel
theorem dX9_bar_18 : decode cX9_bar 18 = .ok (.iload_n 2, 1) := by decide +kernel
theorem dX9_bar_19 : decode cX9_bar 19 = .ok (.iconst 3, 1) := by decide +kernel
theorem dX9_bar_20 : decode cX9_bar 20 = .ok (.if_icmp .le 6, 3) := by decide +kernel
theorem dX9_bar_23 : decode cX9_bar 23 = .ok (.bipush (-102), 2) := by decide +kernel
theorem dX9_bar_25 : decode cX9_bar 25 = .ok (.ireturn, 1) := by decide +kernel
theorem dX9_bar_26 : decode cX9_bar 26 = .ok (.aload_n 0, 1) := by decide +kernel
theorem dX9_bar_27 : decode cX9_bar 27 = .ok (.iload_n 1, 1) := by decide +kernel
theorem dX9_bar_28 : decode cX9_bar 28 = .ok (.iload_n 2, 1) := by decide +kernel
theorem dX9_bar_29 : decode cX9_bar 29 = .ok (.aload_n 0, 1) := by decide +kernel
theorem dX9_bar_30 : decode cX9_bar 30 = .ok (.getfield 38, 3) := by decide +kernel
theorem dX9_bar_33 : decode cX9_bar 33 = .ok (.aload_n 0, 1) := by decide +kernel
theorem dX9_bar_34 : decode cX9_bar 34 = .ok (.getfield 26, 3) := by decide +kernel
theorem dX9_bar_37 : decode cX9_bar 37 = .ok (.getfield 117, 3) := by decide +kernel
theorem dX9_bar_40 : decode cX9_bar 40 = .ok (.invokevirtual 120, 3) := by decide +kernel
theorem dX9_bar_43 : decode cX9_bar 43 = .ok (.invokevirtual 124, 3) := by decide +kernel
theorem dX9_bar_46 : decode cX9_bar 46 = .ok (.ireturn, 1) := by decide +kernel
theorem dX9_ofBar_0 : decode cX9_ofBar 0 = .ok (.iload_n 2, 1) := by decide +kernel
theorem dX9_ofBar_1 : decode cX9_ofBar 1 = .ok (.tableswitch 53 0 2 #[27, 37, 47], 27) := by decide +kernel
theorem dX9_ofBar_28 : decode cX9_ofBar 28 = .ok (.aload_n 0, 1) := by decide +kernel
theorem dX9_ofBar_29 : decode cX9_ofBar 29 = .ok (.getfield 19, 3) := by decide +kernel
theorem dX9_ofBar_32 : decode cX9_ofBar 32 = .ok (.getfield 128, 3) := by decide +kernel
theorem dX9_ofBar_35 : decode cX9_ofBar 35 = .ok (.iload_n 1, 1) := by decide +kernel
theorem dX9_ofBar_36 : decode cX9_ofBar 36 = .ok (.iaload, 1) := by decide +kernel
theorem dX9_ofBar_37 : decode cX9_ofBar 37 = .ok (.ireturn, 1) := by decide +kernel
theorem dX9_ofBar_38 : decode cX9_ofBar 38 = .ok (.aload_n 0, 1) := by decide +kernel
theorem dX9_ofBar_39 : decode cX9_ofBar 39 = .ok (.getfield 19, 3) := by decide +kernel
theorem dX9_ofBar_42 : decode cX9_ofBar 42 = .ok (.getfield 132, 3) := by decide +kernel
theorem dX9_ofBar_45 : decode cX9_ofBar 45 = .ok (.iload_n 1, 1) := by decide +kernel
theorem dX9_ofBar_46 : decode cX9_ofBar 46 = .ok (.iaload, 1) := by decide +kernel
theorem dX9_ofBar_47 : decode cX9_ofBar 47 = .ok (.ireturn, 1) := by decide +kernel
theorem dX9_ofBar_48 : decode cX9_ofBar 48 = .ok (.iload_n 3, 1) := by decide +kernel
theorem dX9_ofBar_49 : decode cX9_ofBar 49 = .ok (.iload_n 1, 1) := by decide +kernel
theorem dX9_ofBar_50 : decode cX9_ofBar 50 = .ok (.invokestatic 135, 3) := by decide +kernel
theorem dX9_ofBar_53 : decode cX9_ofBar 53 = .ok (.ireturn, 1) := by decide +kernel
theorem dX9_ofBar_54 : decode cX9_ofBar 54 = .ok (.aload_n 0, 1) := by decide +kernel
theorem dX9_ofBar_55 : decode cX9_ofBar 55 = .ok (.getfield 26, 3) := by decide +kernel
theorem dX9_ofBar_58 : decode cX9_ofBar 58 = .ok (.iload_n 1, 1) := by decide +kernel
theorem dX9_ofBar_59 : decode cX9_ofBar 59 = .ok (.invokevirtual 141, 3) := by decide +kernel
theorem dX9_ofBar_62 : decode cX9_ofBar 62 = .ok (.ireturn, 1) := by decide +kernel
theorem dX9_player_0 : decode cX9_player 0 = .ok (.iload_n 1, 1) := by decide +kernel
theorem dX9_player_1 : decode cX9_player 1 = .ok (.invokestatic 144, 3) := by decide +kernel
theorem dX9_player_4 : decode cX9_player 4 = .ok (.ifCond .eq 10, 3) := by decide +kernel
theorem dX9_player_7 : decode cX9_player 7 = .ok (.iload_n 2, 1) := by decide +kernel
theorem dX9_player_8 : decode cX9_player 8 = .ok (.invokestatic 147, 3) := by decide +kernel
theorem dX9_player_11 : decode cX9_player 11 = .ok (.ifCond .ne 6, 3) := by decide +kernel
theorem dX9_player_14 : decode cX9_player 14 = .ok (.bipush (-102), 2) := by decide +kernel
theorem dX9_player_16 : decode cX9_player 16 = .ok (.ireturn, 1) := by decide +kernel
theorem dX9_player_17 : decode cX9_player 17 = .ok (.aload_n 0, 1) := by decide +kernel
theorem dX9_player_18 : decode cX9_player 18 = .ok (.getfield 19, 3) := by decide +kernel
theorem dX9_player_21 : decode cX9_player 21 = .ok (.getfield 110, 3) := by decide +kernel
theorem dX9_player_24 : decode cX9_player 24 = .ok (.ifCond .ne 6, 3) := by decide +kernel
theorem dX9_player_27 : decode cX9_player 27 = .ok (.bipush (-103), 2) := by decide +kernel
theorem dX9_player_29 : decode cX9_player 29 = .ok (.ireturn, 1) := by decide +kernel
theorem dX9_player_30 : decode cX9_player 30 = .ok (.aload_n 0, 1) := by decide +kernel
theorem dX9_player_31 : decode cX9_player 31 = .ok (.getfield 26, 3) := by decide +kernel
theorem dX9_player_34 : decode cX9_player 34 = .ok (.getfield 150, 3) := by decide +kernel
theorem dX9_player_37 : decode cX9_player 37 = .ok (.iconst 4, 1) := by decide +kernel
theorem dX9_player_38 : decode cX9_player 38 = .ok (.if_icmp .lt 6, 3) := by decide +kernel
theorem dX9_player_41 : decode cX9_player 41 = .ok (.bipush (-104), 2) := by decide +kernel
theorem dX9_player_43 : decode cX9_player 43 = .ok (.ireturn, 1) := by decide +kernel
theorem dX9_player_44 : decode cX9_player 44 = .ok (.aload_n 0, 1) := by decide +kernel
theorem dX9_player_45 : decode cX9_player 45 = .ok (.getfield 26, 3) := by decide +kernel
theorem dX9_player_48 : decode cX9_player 48 = .ok (.iload_n 1, 1) := by decide +kernel
theorem dX9_player_49 : decode cX9_player 49 = .ok (.iload_n 2, 1) := by decide +kernel
theorem dX9_player_50 : decode cX9_player 50 = .ok (.invokevirtual 153, 3) := by decide +kernel
theorem dX9_player_53 : decode cX9_player 53 = .ok (.ireturn, 1) := by decide +kernel
theorem dX9_about_0 : decode cX9_about 0 = .ok (.aload_n 0, 1) := by decide +kernel
theorem dX9_about_1 : decode cX9_about 1 = .ok (.getfield 26, 3) := by decide +kernel
theorem dX9_about_4 : decode cX9_about 4 = .ok (.iload_n 1, 1) := by decide +kernel
theorem dX9_about_5 : decode cX9_about 5 = .ok (.invokevirtual 156, 3) := by decide +kernel
theorem dX9_about_8 : decode cX9_about 8 = .ok (.ifCond .ne 6, 3) := by decide +kernel
theorem dX9_about_11 : decode cX9_about 11 = .ok (.bipush (-101), 2) := by decide +kernel
theorem dX9_about_13 : decode cX9_about 13 = .ok (.ireturn, 1) := by decide +kernel
theorem dX9_about_14 : decode cX9_about 14 = .ok (.iload_n 2, 1) := by decide +kernel
theorem dX9_about_15 : decode cX9_about 15 = .ok (.ifCond .lt 9, 3) := by decide +kernel
theorem dX9_about_18 : decode cX9_about 18 = .ok (.iload_n 2, 1) := by decide +kernel
theorem dX9_about_19 : decode cX9_about 19 = .ok (.bipush 6, 2) := by decide +kernel
theorem dX9_about_21 : decode cX9_about 21 = .ok (.if_icmp .le 6, 3) := by decide +kernel
theorem dX9_about_24 : decode cX9_about 24 = .ok (.bipush (-102), 2) := by decide +kernel
theorem dX9_about_26 : decode cX9_about 26 = .ok (.ireturn, 1) := by decide +kernel
theorem dX9_about_27 : decode cX9_about 27 = .ok (.aload_n 0, 1) := by decide +kernel
theorem dX9_about_28 : decode cX9_about 28 = .ok (.iload_n 1, 1) := by decide +kernel
theorem dX9_about_29 : decode cX9_about 29 = .ok (.iload_n 2, 1) := by decide +kernel
theorem dX9_about_30 : decode cX9_about 30 = .ok (.invokevirtual 157, 3) := by decide +kernel
theorem dX9_about_33 : decode cX9_about 33 = .ok (.ireturn, 1) := by decide +kernel
theorem dX9_ofPlayer_0 : decode cX9_ofPlayer 0 = .ok (.iload_n 2, 1) := by decide +kernel
theorem dX9_ofPlayer_1 : decode cX9_ofPlayer 1 = .ok (.tableswitch 122 0 5 #[39, 49, 61, 80, 106, 112], 39) := by decide +kernel
theorem dX9_ofPlayer_40 : decode cX9_ofPlayer 40 = .ok (.aload_n 0, 1) := by decide +kernel
theorem dX9_ofPlayer_41 : decode cX9_ofPlayer 41 = .ok (.getfield 26, 3) := by decide +kernel
theorem dX9_ofPlayer_44 : decode cX9_ofPlayer 44 = .ok (.getfield 160, 3) := by decide +kernel
theorem dX9_ofPlayer_47 : decode cX9_ofPlayer 47 = .ok (.iload_n 1, 1) := by decide +kernel
theorem dX9_ofPlayer_48 : decode cX9_ofPlayer 48 = .ok (.iaload, 1) := by decide +kernel
theorem dX9_ofPlayer_49 : decode cX9_ofPlayer 49 = .ok (.ireturn, 1) := by decide +kernel
theorem dX9_ofPlayer_50 : decode cX9_ofPlayer 50 = .ok (.aload_n 0, 1) := by decide +kernel
theorem dX9_ofPlayer_51 : decode cX9_ofPlayer 51 = .ok (.getfield 26, 3) := by decide +kernel
theorem dX9_ofPlayer_54 : decode cX9_ofPlayer 54 = .ok (.getfield 117, 3) := by decide +kernel
theorem dX9_ofPlayer_57 : decode cX9_ofPlayer 57 = .ok (.iload_n 1, 1) := by decide +kernel
theorem dX9_ofPlayer_58 : decode cX9_ofPlayer 58 = .ok (.invokestatic 135, 3) := by decide +kernel
theorem dX9_ofPlayer_61 : decode cX9_ofPlayer 61 = .ok (.ireturn, 1) := by decide +kernel
theorem dX9_ofPlayer_62 : decode cX9_ofPlayer 62 = .ok (.aload_n 0, 1) := by decide +kernel
theorem dX9_ofPlayer_63 : decode cX9_ofPlayer 63 = .ok (.getfield 38, 3) := by decide +kernel
theorem dX9_ofPlayer_66 : decode cX9_ofPlayer 66 = .ok (.aload_n 0, 1) := by decide +kernel
theorem dX9_ofPlayer_67 : decode cX9_ofPlayer 67 = .ok (.getfield 26, 3) := by decide +kernel
theorem dX9_ofPlayer_70 : decode cX9_ofPlayer 70 = .ok (.getfield 117, 3) := by decide +kernel
theorem dX9_ofPlayer_73 : decode cX9_ofPlayer 73 = .ok (.invokevirtual 163, 3) := by decide +kernel
theorem dX9_ofPlayer_76 : decode cX9_ofPlayer 76 = .ok (.iload_n 1, 1) := by decide +kernel
theorem dX9_ofPlayer_77 : decode cX9_ofPlayer 77 = .ok (.ishr, 1) := by decide +kernel
theorem dX9_ofPlayer_78 : decode cX9_ofPlayer 78 = .ok (.iconst 1, 1) := by decide +kernel
theorem dX9_ofPlayer_79 : decode cX9_ofPlayer 79 = .ok (.iand, 1) := by decide +kernel
theorem dX9_ofPlayer_80 : decode cX9_ofPlayer 80 = .ok (.ireturn, 1) := by decide +kernel
theorem dX9_ofPlayer_81 : decode cX9_ofPlayer 81 = .ok (.aload_n 0, 1) := by decide +kernel
theorem dX9_ofPlayer_82 : decode cX9_ofPlayer 82 = .ok (.getfield 38, 3) := by decide +kernel
theorem dX9_ofPlayer_85 : decode cX9_ofPlayer 85 = .ok (.aload_n 0, 1) := by decide +kernel
theorem dX9_ofPlayer_86 : decode cX9_ofPlayer 86 = .ok (.getfield 38, 3) := by decide +kernel
theorem dX9_ofPlayer_89 : decode cX9_ofPlayer 89 = .ok (.aload_n 0, 1) := by decide +kernel
theorem dX9_ofPlayer_90 : decode cX9_ofPlayer 90 = .ok (.getfield 26, 3) := by decide +kernel
theorem dX9_ofPlayer_93 : decode cX9_ofPlayer 93 = .ok (.getfield 117, 3) := by decide +kernel
theorem dX9_ofPlayer_96 : decode cX9_ofPlayer 96 = .ok (.invokevirtual 163, 3) := by decide +kernel
theorem dX9_ofPlayer_99 : decode cX9_ofPlayer 99 = .ok (.invokevirtual 166, 3) := by decide +kernel
theorem dX9_ofPlayer_102 : decode cX9_ofPlayer 102 = .ok (.iload_n 1, 1) := by decide +kernel
theorem dX9_ofPlayer_103 : decode cX9_ofPlayer 103 = .ok (.ishr, 1) := by decide +kernel
theorem dX9_ofPlayer_104 : decode cX9_ofPlayer 104 = .ok (.iconst 1, 1) := by decide +kernel
theorem dX9_ofPlayer_105 : decode cX9_ofPlayer 105 = .ok (.iand, 1) := by decide +kernel
theorem dX9_ofPlayer_106 : decode cX9_ofPlayer 106 = .ok (.ireturn, 1) := by decide +kernel
theorem dX9_ofPlayer_107 : decode cX9_ofPlayer 107 = .ok (.aload_n 0, 1) := by decide +kernel
theorem dX9_ofPlayer_108 : decode cX9_ofPlayer 108 = .ok (.iload_n 1, 1) := by decide +kernel
theorem dX9_ofPlayer_109 : decode cX9_ofPlayer 109 = .ok (.invokevirtual 169, 3) := by decide +kernel
theorem dX9_ofPlayer_112 : decode cX9_ofPlayer 112 = .ok (.ireturn, 1) := by decide +kernel
theorem dX9_ofPlayer_113 : decode cX9_ofPlayer 113 = .ok (.aload_n 0, 1) := by decide +kernel
theorem dX9_ofPlayer_114 : decode cX9_ofPlayer 114 = .ok (.getfield 26, 3) := by decide +kernel
theorem dX9_ofPlayer_117 : decode cX9_ofPlayer 117 = .ok (.getfield 172, 3) := by decide +kernel
theorem dX9_ofPlayer_120 : decode cX9_ofPlayer 120 = .ok (.iload_n 1, 1) := by decide +kernel
theorem dX9_ofPlayer_121 : decode cX9_ofPlayer 121 = .ok (.iaload, 1) := by decide +kernel
theorem dX9_ofPlayer_122 : decode cX9_ofPlayer 122 = .ok (.ireturn, 1) := by decide +kernel
theorem dX9_ofPlayer_123 : decode cX9_ofPlayer 123 = .ok (.aload_n 0, 1) := by decide +kernel
theorem dX9_ofPlayer_124 : decode cX9_ofPlayer 124 = .ok (.getfield 26, 3) := by decide +kernel
theorem dX9_ofPlayer_127 : decode cX9_ofPlayer 127 = .ok (.getfield 175, 3) := by decide +kernel
theorem dX9_ofPlayer_130 : decode cX9_ofPlayer 130 = .ok (.iload_n 1, 1) := by decide +kernel
theorem dX9_ofPlayer_131 : decode cX9_ofPlayer 131 = .ok (.iaload, 1) := by decide +kernel
theorem dX9_ofPlayer_132 : decode cX9_ofPlayer 132 = .ok (.ireturn, 1) := by decide +kernel
theorem dX9_shareOfNext_0 : decode cX9_shareOfNext 0 = .ok (.aload_n 0, 1) := by decide +kernel
theorem dX9_shareOfNext_1 : decode cX9_shareOfNext 1 = .ok (.getfield 19, 3) := by decide +kernel
theorem dX9_shareOfNext_4 : decode cX9_shareOfNext 4 = .ok (.aload_n 0, 1) := by decide +kernel
theorem dX9_shareOfNext_5 : decode cX9_shareOfNext 5 = .ok (.getfield 26, 3) := by decide +kernel
theorem dX9_shareOfNext_8 : decode cX9_shareOfNext 8 = .ok (.getfield 178, 3) := by decide +kernel
theorem dX9_shareOfNext_11 : decode cX9_shareOfNext 11 = .ok (.invokevirtual 113, 3) := by decide +kernel
theorem dX9_shareOfNext_14 : decode cX9_shareOfNext 14 = .ok (.ifCond .ne 5, 3) := by decide +kernel
theorem dX9_shareOfNext_17 : decode cX9_shareOfNext 17 = .ok (.iconst 0, 1) := by decide +kernel
theorem dX9_shareOfNext_18 : decode cX9_shareOfNext 18 = .ok (.ireturn, 1) := by decide +kernel
theorem dX9_shareOfNext_19 : decode cX9_shareOfNext 19 = .ok (.aload_n 0, 1) := by decide +kernel
theorem dX9_shareOfNext_20 : decode cX9_shareOfNext 20 = .ok (.getfield 38, 3) := by decide +kernel
theorem dX9_shareOfNext_23 : decode cX9_shareOfNext 23 = .ok (.aload_n 0, 1) := by decide +kernel
theorem dX9_shareOfNext_24 : decode cX9_shareOfNext 24 = .ok (.getfield 26, 3) := by decide +kernel
theorem dX9_shareOfNext_27 : decode cX9_shareOfNext 27 = .ok (.getfield 178, 3) := by decide +kernel
theorem dX9_shareOfNext_30 : decode cX9_shareOfNext 30 = .ok (.aload_n 0, 1) := by decide +kernel
theorem dX9_shareOfNext_31 : decode cX9_shareOfNext 31 = .ok (.getfield 26, 3) := by decide +kernel
theorem dX9_shareOfNext_34 : decode cX9_shareOfNext 34 = .ok (.getfield 117, 3) := by decide +kernel
theorem dX9_shareOfNext_37 : decode cX9_shareOfNext 37 = .ok (.invokevirtual 181, 3) := by decide +kernel
theorem dX9_shareOfNext_40 : decode cX9_shareOfNext 40 = .ok (.iload_n 1, 1) := by decide +kernel
theorem dX9_shareOfNext_41 : decode cX9_shareOfNext 41 = .ok (.invokestatic 135, 3) := by decide +kernel
theorem dX9_shareOfNext_44 : decode cX9_shareOfNext 44 = .ok (.ireturn, 1) := by decide +kernel
theorem dX9_as_0 : decode cX9_as 0 = .ok (.aload_n 0, 1) := by decide +kernel
theorem dX9_as_1 : decode cX9_as 1 = .ok (.getfield 26, 3) := by decide +kernel
theorem dX9_as_4 : decode cX9_as 4 = .ok (.iload_n 1, 1) := by decide +kernel
theorem dX9_as_5 : decode cX9_as 5 = .ok (.invokevirtual 156, 3) := by decide +kernel
theorem dX9_as_8 : decode cX9_as 8 = .ok (.ifCond .ne 6, 3) := by decide +kernel
theorem dX9_as_11 : decode cX9_as 11 = .ok (.bipush (-101), 2) := by decide +kernel
theorem dX9_as_13 : decode cX9_as 13 = .ok (.ireturn, 1) := by decide +kernel
theorem dX9_as_14 : decode cX9_as 14 = .ok (.iload_n 2, 1) := by decide +kernel
theorem dX9_as_15 : decode cX9_as 15 = .ok (.invokestatic 144, 3) := by decide +kernel
theorem dX9_as_18 : decode cX9_as 18 = .ok (.ifCond .ne 6, 3) := by decide +kernel
theorem dX9_as_21 : decode cX9_as 21 = .ok (.bipush (-102), 2) := by decide +kernel
theorem dX9_as_23 : decode cX9_as 23 = .ok (.ireturn, 1) := by decide +kernel
theorem dX9_as_24 : decode cX9_as 24 = .ok (.aload_n 0, 1) := by decide +kernel
theorem dX9_as_25 : decode cX9_as 25 = .ok (.getfield 26, 3) := by decide +kernel
theorem dX9_as_28 : decode cX9_as 28 = .ok (.getfield 160, 3) := by decide +kernel
theorem dX9_as_31 : decode cX9_as 31 = .ok (.iload_n 1, 1) := by decide +kernel
theorem dX9_as_32 : decode cX9_as 32 = .ok (.iaload, 1) := by decide +kernel
theorem dX9_as_33 : decode cX9_as 33 = .ok (.iload_n 2, 1) := by decide +kernel
theorem dX9_as_34 : decode cX9_as 34 = .ok (.invokestatic 184, 3) := by decide +kernel
theorem dX9_as_37 : decode cX9_as 37 = .ok (.ifCond .eq 7, 3) := by decide +kernel
theorem dX9_as_40 : decode cX9_as 40 = .ok (.iload_n 1, 1) := by decide +kernel
theorem dX9_as_41 : decode cX9_as 41 = .ok (.goto 4, 3) := by decide +kernel
theorem dX9_as_44 : decode cX9_as 44 = .ok (.iconst (-1), 1) := by decide +kernel
theorem dX9_as_45 : decode cX9_as 45 = .ok (.ireturn, 1) := by decide +kernel
theorem dX9_coffee_0 : decode cX9_coffee 0 = .ok (.aload_n 0, 1) := by decide +kernel
theorem dX9_coffee_1 : decode cX9_coffee 1 = .ok (.getfield 26, 3) := by decide +kernel
theorem dX9_coffee_4 : decode cX9_coffee 4 = .ok (.iload_n 1, 1) := by decide +kernel
theorem dX9_coffee_5 : decode cX9_coffee 5 = .ok (.invokevirtual 156, 3) := by decide +kernel
theorem dX9_coffee_8 : decode cX9_coffee 8 = .ok (.ifCond .ne 6, 3) := by decide +kernel
theorem dX9_coffee_11 : decode cX9_coffee 11 = .ok (.bipush (-101), 2) := by decide +kernel
theorem dX9_coffee_13 : decode cX9_coffee 13 = .ok (.ireturn, 1) := by decide +kernel
theorem dX9_coffee_14 : decode cX9_coffee 14 = .ok (.aload_n 0, 1) := by decide +kernel
theorem dX9_coffee_15 : decode cX9_coffee 15 = .ok (.getfield 26, 3) := by decide +kernel
theorem dX9_coffee_18 : decode cX9_coffee 18 = .ok (.aload_n 0, 1) := by decide +kernel
theorem dX9_coffee_19 : decode cX9_coffee 19 = .ok (.getfield 26, 3) := by decide +kernel
theorem dX9_coffee_22 : decode cX9_coffee 22 = .ok (.getfield 117, 3) := by decide +kernel
theorem dX9_coffee_25 : decode cX9_coffee 25 = .ok (.iload_n 1, 1) := by decide +kernel
theorem dX9_coffee_26 : decode cX9_coffee 26 = .ok (.invokestatic 188, 3) := by decide +kernel
theorem dX9_coffee_29 : decode cX9_coffee 29 = .ok (.putfield 117, 3) := by decide +kernel
theorem dX9_coffee_32 : decode cX9_coffee 32 = .ok (.aload_n 0, 1) := by decide +kernel
theorem dX9_coffee_33 : decode cX9_coffee 33 = .ok (.getfield 26, 3) := by decide +kernel
theorem dX9_coffee_36 : decode cX9_coffee 36 = .ok (.getfield 175, 3) := by decide +kernel
theorem dX9_coffee_39 : decode cX9_coffee 39 = .ok (.iload_n 1, 1) := by decide +kernel
theorem dX9_coffee_40 : decode cX9_coffee 40 = .ok (.dup2, 1) := by decide +kernel
theorem dX9_coffee_41 : decode cX9_coffee 41 = .ok (.iaload, 1) := by decide +kernel
theorem dX9_coffee_42 : decode cX9_coffee 42 = .ok (.iconst 1, 1) := by decide +kernel
theorem dX9_coffee_43 : decode cX9_coffee 43 = .ok (.iadd, 1) := by decide +kernel
theorem dX9_coffee_44 : decode cX9_coffee 44 = .ok (.iastore, 1) := by decide +kernel
theorem dX9_coffee_45 : decode cX9_coffee 45 = .ok (.aload_n 0, 1) := by decide +kernel
theorem dX9_coffee_46 : decode cX9_coffee 46 = .ok (.getfield 26, 3) := by decide +kernel
theorem dX9_coffee_49 : decode cX9_coffee 49 = .ok (.getfield 117, 3) := by decide +kernel
theorem dX9_coffee_52 : decode cX9_coffee 52 = .ok (.iload_n 1, 1) := by decide +kernel
theorem dX9_coffee_53 : decode cX9_coffee 53 = .ok (.invokestatic 135, 3) := by decide +kernel
theorem dX9_coffee_56 : decode cX9_coffee 56 = .ok (.ireturn, 1) := by decide +kernel
theorem dX9_tire_0 : decode cX9_tire 0 = .ok (.aload_n 0, 1) := by decide +kernel
theorem dX9_tire_1 : decode cX9_tire 1 = .ok (.getfield 26, 3) := by decide +kernel
theorem dX9_tire_4 : decode cX9_tire 4 = .ok (.iload_n 1, 1) := by decide +kernel
theorem dX9_tire_5 : decode cX9_tire 5 = .ok (.invokevirtual 156, 3) := by decide +kernel
theorem dX9_tire_8 : decode cX9_tire 8 = .ok (.ifCond .ne 6, 3) := by decide +kernel
theorem dX9_tire_11 : decode cX9_tire 11 = .ok (.bipush (-101), 2) := by decide +kernel
theorem dX9_tire_13 : decode cX9_tire 13 = .ok (.ireturn, 1) := by decide +kernel
theorem dX9_tire_14 : decode cX9_tire 14 = .ok (.iload_n 2, 1) := by decide +kernel
theorem dX9_tire_15 : decode cX9_tire 15 = .ok (.invokestatic 147, 3) := by decide +kernel
theorem dX9_tire_18 : decode cX9_tire 18 = .ok (.ifCond .ne 6, 3) := by decide +kernel
theorem dX9_tire_21 : decode cX9_tire 21 = .ok (.bipush (-102), 2) := by decide +kernel
theorem dX9_tire_23 : decode cX9_tire 23 = .ok (.ireturn, 1) := by decide +kernel
theorem dX9_tire_24 : decode cX9_tire 24 = .ok (.aload_n 0, 1) := by decide +kernel
theorem dX9_tire_25 : decode cX9_tire 25 = .ok (.getfield 26, 3) := by decide +kernel
theorem dX9_tire_28 : decode cX9_tire 28 = .ok (.getfield 117, 3) := by decide +kernel
theorem dX9_tire_31 : decode cX9_tire 31 = .ok (.iload_n 1, 1) := by decide +kernel
theorem dX9_tire_32 : decode cX9_tire 32 = .ok (.invokestatic 135, 3) := by decide +kernel
theorem dX9_tire_35 : decode cX9_tire 35 = .ok (.istore_n 3, 1) := by decide +kernel
theorem dX9_tire_36 : decode cX9_tire 36 = .ok (.aload_n 0, 1) := by decide +kernel
theorem dX9_tire_37 : decode cX9_tire 37 = .ok (.getfield 26, 3) := by decide +kernel
theorem dX9_tire_40 : decode cX9_tire 40 = .ok (.aload_n 0, 1) := by decide +kernel
theorem dX9_tire_41 : decode cX9_tire 41 = .ok (.getfield 26, 3) := by decide +kernel
theorem dX9_tire_44 : decode cX9_tire 44 = .ok (.getfield 117, 3) := by decide +kernel
theorem dX9_tire_47 : decode cX9_tire 47 = .ok (.iload_n 1, 1) := by decide +kernel
theorem dX9_tire_48 : decode cX9_tire 48 = .ok (.iload_n 2, 1) := by decide +kernel
theorem dX9_tire_49 : decode cX9_tire 49 = .ok (.invokestatic 191, 3) := by decide +kernel
theorem dX9_tire_52 : decode cX9_tire 52 = .ok (.putfield 117, 3) := by decide +kernel
theorem dX9_tire_55 : decode cX9_tire 55 = .ok (.iload_n 3, 1) := by decide +kernel
theorem dX9_tire_56 : decode cX9_tire 56 = .ok (.ireturn, 1) := by decide +kernel
theorem dX9_play_0 : decode cX9_play 0 = .ok (.aload_n 0, 1) := by decide +kernel
theorem dX9_play_1 : decode cX9_play 1 = .ok (.getfield 26, 3) := by decide +kernel
theorem dX9_play_4 : decode cX9_play 4 = .ok (.getfield 178, 3) := by decide +kernel
theorem dX9_play_7 : decode cX9_play 7 = .ok (.istore_n 1, 1) := by decide +kernel
theorem dX9_play_8 : decode cX9_play 8 = .ok (.aload_n 0, 1) := by decide +kernel
theorem dX9_play_9 : decode cX9_play 9 = .ok (.getfield 19, 3) := by decide +kernel
theorem dX9_play_12 : decode cX9_play 12 = .ok (.iload_n 1, 1) := by decide +kernel
theorem dX9_play_13 : decode cX9_play 13 = .ok (.invokevirtual 113, 3) := by decide +kernel
theorem dX9_play_16 : decode cX9_play 16 = .ok (.ifCond .ne 6, 3) := by decide +kernel
theorem dX9_play_19 : decode cX9_play 19 = .ok (.bipush (-103), 2) := by decide +kernel
theorem dX9_play_21 : decode cX9_play 21 = .ok (.ireturn, 1) := by decide +kernel
theorem dX9_play_22 : decode cX9_play 22 = .ok (.aload_n 0, 1) := by decide +kernel
theorem dX9_play_23 : decode cX9_play 23 = .ok (.getfield 38, 3) := by decide +kernel
theorem dX9_play_26 : decode cX9_play 26 = .ok (.iload_n 1, 1) := by decide +kernel
theorem dX9_play_27 : decode cX9_play 27 = .ok (.aload_n 0, 1) := by decide +kernel
theorem dX9_play_28 : decode cX9_play 28 = .ok (.getfield 26, 3) := by decide +kernel
theorem dX9_play_31 : decode cX9_play 31 = .ok (.getfield 117, 3) := by decide +kernel
theorem dX9_play_34 : decode cX9_play 34 = .ok (.invokevirtual 181, 3) := by decide +kernel
theorem dX9_play_37 : decode cX9_play 37 = .ok (.istore_n 2, 1) := by decide +kernel
theorem dX9_play_38 : decode cX9_play 38 = .ok (.aload_n 0, 1) := by decide +kernel
theorem dX9_play_39 : decode cX9_play 39 = .ok (.getfield 19, 3) := by decide +kernel
theorem dX9_play_42 : decode cX9_play 42 = .ok (.getfield 132, 3) := by decide +kernel
theorem dX9_play_45 : decode cX9_play 45 = .ok (.iload_n 1, 1) := by decide +kernel
theorem dX9_play_46 : decode cX9_play 46 = .ok (.iaload, 1) := by decide +kernel
theorem dX9_play_47 : decode cX9_play 47 = .ok (.iload_n 2, 1) := by decide +kernel
theorem dX9_play_48 : decode cX9_play 48 = .ok (.invokestatic 194, 3) := by decide +kernel
theorem dX9_play_51 : decode cX9_play 51 = .ok (.isub, 1) := by decide +kernel
theorem dX9_play_52 : decode cX9_play 52 = .ok (.istore_n 3, 1) := by decide +kernel
theorem dX9_play_53 : decode cX9_play 53 = .ok (.iconst 0, 1) := by decide +kernel
theorem dX9_play_54 : decode cX9_play 54 = .ok (.istore 4, 2) := by decide +kernel
theorem dX9_play_56 : decode cX9_play 56 = .ok (.iload 4, 2) := by decide +kernel
theorem dX9_play_58 : decode cX9_play 58 = .ok (.aload_n 0, 1) := by decide +kernel
theorem dX9_play_59 : decode cX9_play 59 = .ok (.getfield 26, 3) := by decide +kernel
theorem dX9_play_62 : decode cX9_play 62 = .ok (.getfield 150, 3) := by decide +kernel
theorem dX9_play_65 : decode cX9_play 65 = .ok (.if_icmp .ge 28, 3) := by decide +kernel
theorem dX9_play_68 : decode cX9_play 68 = .ok (.aload_n 0, 1) := by decide +kernel
theorem dX9_play_69 : decode cX9_play 69 = .ok (.getfield 26, 3) := by decide +kernel
theorem dX9_play_72 : decode cX9_play 72 = .ok (.getfield 172, 3) := by decide +kernel
theorem dX9_play_75 : decode cX9_play 75 = .ok (.iload 4, 2) := by decide +kernel
theorem dX9_play_77 : decode cX9_play 77 = .ok (.dup2, 1) := by decide +kernel
theorem dX9_play_78 : decode cX9_play 78 = .ok (.iaload, 1) := by decide +kernel
theorem dX9_play_79 : decode cX9_play 79 = .ok (.iload_n 2, 1) := by decide +kernel
theorem dX9_play_80 : decode cX9_play 80 = .ok (.iload 4, 2) := by decide +kernel
theorem dX9_play_82 : decode cX9_play 82 = .ok (.invokestatic 135, 3) := by decide +kernel
theorem dX9_play_85 : decode cX9_play 85 = .ok (.iadd, 1) := by decide +kernel
theorem dX9_play_86 : decode cX9_play 86 = .ok (.iastore, 1) := by decide +kernel
theorem dX9_play_87 : decode cX9_play 87 = .ok (.iinc 4 1, 3) := by decide +kernel
theorem dX9_play_90 : decode cX9_play 90 = .ok (.goto (-34), 3) := by decide +kernel
theorem dX9_play_93 : decode cX9_play 93 = .ok (.aload_n 0, 1) := by decide +kernel
theorem dX9_play_94 : decode cX9_play 94 = .ok (.getfield 26, 3) := by decide +kernel
theorem dX9_play_97 : decode cX9_play 97 = .ok (.aload_n 0, 1) := by decide +kernel
theorem dX9_play_98 : decode cX9_play 98 = .ok (.getfield 38, 3) := by decide +kernel
theorem dX9_play_101 : decode cX9_play 101 = .ok (.iload_n 1, 1) := by decide +kernel
theorem dX9_play_102 : decode cX9_play 102 = .ok (.aload_n 0, 1) := by decide +kernel
theorem dX9_play_103 : decode cX9_play 103 = .ok (.getfield 26, 3) := by decide +kernel
theorem dX9_play_106 : decode cX9_play 106 = .ok (.getfield 117, 3) := by decide +kernel
theorem dX9_play_109 : decode cX9_play 109 = .ok (.iload_n 2, 1) := by decide +kernel
theorem dX9_play_110 : decode cX9_play 110 = .ok (.invokevirtual 197, 3) := by decide +kernel
theorem dX9_play_113 : decode cX9_play 113 = .ok (.putfield 117, 3) := by decide +kernel
theorem dX9_play_116 : decode cX9_play 116 = .ok (.aload_n 0, 1) := by decide +kernel
theorem dX9_play_117 : decode cX9_play 117 = .ok (.getfield 26, 3) := by decide +kernel
theorem dX9_play_120 : decode cX9_play 120 = .ok (.dup, 1) := by decide +kernel
theorem dX9_play_121 : decode cX9_play 121 = .ok (.getfield 200, 3) := by decide +kernel
theorem dX9_play_124 : decode cX9_play 124 = .ok (.iload_n 3, 1) := by decide +kernel
theorem dX9_play_125 : decode cX9_play 125 = .ok (.iadd, 1) := by decide +kernel
theorem dX9_play_126 : decode cX9_play 126 = .ok (.putfield 200, 3) := by decide +kernel
theorem dX9_play_129 : decode cX9_play 129 = .ok (.aload_n 0, 1) := by decide +kernel
theorem dX9_play_130 : decode cX9_play 130 = .ok (.getfield 26, 3) := by decide +kernel
theorem dX9_play_133 : decode cX9_play 133 = .ok (.dup, 1) := by decide +kernel
theorem dX9_play_134 : decode cX9_play 134 = .ok (.getfield 178, 3) := by decide +kernel
theorem dX9_play_137 : decode cX9_play 137 = .ok (.iconst 1, 1) := by decide +kernel
theorem dX9_play_138 : decode cX9_play 138 = .ok (.iadd, 1) := by decide +kernel
theorem dX9_play_139 : decode cX9_play 139 = .ok (.putfield 178, 3) := by decide +kernel
theorem dX9_play_142 : decode cX9_play 142 = .ok (.iload_n 3, 1) := by decide +kernel
theorem dX9_play_143 : decode cX9_play 143 = .ok (.ireturn, 1) := by decide +kernel
theorem dX9_again_0 : decode cX9_again 0 = .ok (.aload_n 0, 1) := by decide +kernel
theorem dX9_again_1 : decode cX9_again 1 = .ok (.getfield 19, 3) := by decide +kernel
theorem dX9_again_4 : decode cX9_again 4 = .ok (.getfield 110, 3) := by decide +kernel
theorem dX9_again_7 : decode cX9_again 7 = .ok (.ifCond .ne 6, 3) := by decide +kernel
theorem dX9_again_10 : decode cX9_again 10 = .ok (.bipush (-103), 2) := by decide +kernel
theorem dX9_again_12 : decode cX9_again 12 = .ok (.ireturn, 1) := by decide +kernel
theorem dX9_again_13 : decode cX9_again 13 = .ok (.aload_n 0, 1) := by decide +kernel
theorem dX9_again_14 : decode cX9_again 14 = .ok (.getfield 26, 3) := by decide +kernel
theorem dX9_again_17 : decode cX9_again 17 = .ok (.getfield 178, 3) := by decide +kernel
theorem dX9_again_20 : decode cX9_again 20 = .ok (.istore_n 1, 1) := by decide +kernel
theorem dX9_again_21 : decode cX9_again 21 = .ok (.aload_n 0, 1) := by decide +kernel
theorem dX9_again_22 : decode cX9_again 22 = .ok (.getfield 26, 3) := by decide +kernel
theorem dX9_again_25 : decode cX9_again 25 = .ok (.iconst 0, 1) := by decide +kernel
theorem dX9_again_26 : decode cX9_again 26 = .ok (.putfield 178, 3) := by decide +kernel
theorem dX9_again_29 : decode cX9_again 29 = .ok (.iload_n 1, 1) := by decide +kernel
theorem dX9_again_30 : decode cX9_again 30 = .ok (.ireturn, 1) := by decide +kernel
theorem dX9_hearing_0 : decode cX9_hearing 0 = .ok (.iload_n 1, 1) := by decide +kernel
theorem dX9_hearing_1 : decode cX9_hearing 1 = .ok (.ifCond .lt 8, 3) := by decide +kernel
theorem dX9_hearing_4 : decode cX9_hearing 4 = .ok (.iload_n 1, 1) := by decide +kernel
theorem dX9_hearing_5 : decode cX9_hearing 5 = .ok (.iconst 1, 1) := by decide +kernel
theorem dX9_hearing_6 : decode cX9_hearing 6 = .ok (.if_icmp .le 6, 3) := by decide +kernel
theorem dX9_hearing_9 : decode cX9_hearing 9 = .ok (.bipush (-102), 2) := by decide +kernel
theorem dX9_hearing_11 : decode cX9_hearing 11 = .ok (.ireturn, 1) := by decide +kernel
theorem dX9_hearing_12 : decode cX9_hearing 12 = .ok (.aload_n 0, 1) := by decide +kernel
theorem dX9_hearing_13 : decode cX9_hearing 13 = .ok (.getfield 19, 3) := by decide +kernel
theorem dX9_hearing_16 : decode cX9_hearing 16 = .ok (.getfield 110, 3) := by decide +kernel
theorem dX9_hearing_19 : decode cX9_hearing 19 = .ok (.ifCond .ne 6, 3) := by decide +kernel
theorem dX9_hearing_22 : decode cX9_hearing 22 = .ok (.bipush (-103), 2) := by decide +kernel
theorem dX9_hearing_24 : decode cX9_hearing 24 = .ok (.ireturn, 1) := by decide +kernel
theorem dX9_hearing_25 : decode cX9_hearing 25 = .ok (.iload_n 1, 1) := by decide +kernel
theorem dX9_hearing_26 : decode cX9_hearing 26 = .ok (.aload_n 0, 1) := by decide +kernel
theorem dX9_hearing_27 : decode cX9_hearing 27 = .ok (.getfield 38, 3) := by decide +kernel
theorem dX9_hearing_30 : decode cX9_hearing 30 = .ok (.aload_n 0, 1) := by decide +kernel
theorem dX9_hearing_31 : decode cX9_hearing 31 = .ok (.getfield 26, 3) := by decide +kernel
theorem dX9_hearing_34 : decode cX9_hearing 34 = .ok (.getfield 117, 3) := by decide +kernel
theorem dX9_hearing_37 : decode cX9_hearing 37 = .ok (.invokevirtual 120, 3) := by decide +kernel
theorem dX9_hearing_40 : decode cX9_hearing 40 = .ok (.invokestatic 203, 3) := by decide +kernel
theorem dX9_hearing_43 : decode cX9_hearing 43 = .ok (.ireturn, 1) := by decide +kernel
theorem dX9_ofHearing_0 : decode cX9_ofHearing 0 = .ok (.iload_n 0, 1) := by decide +kernel
theorem dX9_ofHearing_1 : decode cX9_ofHearing 1 = .ok (.ifCond .ne 10, 3) := by decide +kernel
theorem dX9_ofHearing_4 : decode cX9_ofHearing 4 = .ok (.iload_n 1, 1) := by decide +kernel
theorem dX9_ofHearing_5 : decode cX9_ofHearing 5 = .ok (.invokestatic 194, 3) := by decide +kernel
theorem dX9_ofHearing_8 : decode cX9_ofHearing 8 = .ok (.goto 7, 3) := by decide +kernel
theorem dX9_ofHearing_11 : decode cX9_ofHearing 11 = .ok (.iload_n 1, 1) := by decide +kernel
theorem dX9_ofHearing_12 : decode cX9_ofHearing 12 = .ok (.invokestatic 206, 3) := by decide +kernel
theorem dX9_ofHearing_15 : decode cX9_ofHearing 15 = .ok (.ireturn, 1) := by decide +kernel
theorem dX9_cups_0 : decode cX9_cups 0 = .ok (.iload_n 1, 1) := by decide +kernel
theorem dX9_cups_1 : decode cX9_cups 1 = .ok (.invokestatic 209, 3) := by decide +kernel
theorem dX9_cups_4 : decode cX9_cups 4 = .ok (.ifCond .ne 6, 3) := by decide +kernel
theorem dX9_cups_7 : decode cX9_cups 7 = .ok (.bipush (-102), 2) := by decide +kernel
theorem dX9_cups_9 : decode cX9_cups 9 = .ok (.ireturn, 1) := by decide +kernel
theorem dX9_cups_10 : decode cX9_cups 10 = .ok (.aload_n 0, 1) := by decide +kernel
theorem dX9_cups_11 : decode cX9_cups 11 = .ok (.getfield 19, 3) := by decide +kernel
theorem dX9_cups_14 : decode cX9_cups 14 = .ok (.getfield 110, 3) := by decide +kernel
theorem dX9_cups_17 : decode cX9_cups 17 = .ok (.ifCond .eq 12, 3) := by decide +kernel
theorem dX9_cups_20 : decode cX9_cups 20 = .ok (.aload_n 0, 1) := by decide +kernel
theorem dX9_cups_21 : decode cX9_cups 21 = .ok (.getfield 82, 3) := by decide +kernel
theorem dX9_cups_24 : decode cX9_cups 24 = .ok (.bipush 12, 2) := by decide +kernel
theorem dX9_cups_26 : decode cX9_cups 26 = .ok (.if_icmp .lt 6, 3) := by decide +kernel
theorem dX9_cups_29 : decode cX9_cups 29 = .ok (.bipush (-103), 2) := by decide +kernel
theorem dX9_cups_31 : decode cX9_cups 31 = .ok (.ireturn, 1) := by decide +kernel
theorem dX9_cups_32 : decode cX9_cups 32 = .ok (.aload_n 0, 1) := by decide +kernel
theorem dX9_cups_33 : decode cX9_cups 33 = .ok (.dup, 1) := by decide +kernel
theorem dX9_cups_34 : decode cX9_cups 34 = .ok (.getfield 82, 3) := by decide +kernel
theorem dX9_cups_37 : decode cX9_cups 37 = .ok (.iconst 1, 1) := by decide +kernel
theorem dX9_cups_38 : decode cX9_cups 38 = .ok (.iadd, 1) := by decide +kernel
theorem dX9_cups_39 : decode cX9_cups 39 = .ok (.putfield 82, 3) := by decide +kernel
theorem dX9_cups_42 : decode cX9_cups 42 = .ok (.aload_n 0, 1) := by decide +kernel
theorem dX9_cups_43 : decode cX9_cups 43 = .ok (.getfield 47, 3) := by decide +kernel
theorem dX9_cups_46 : decode cX9_cups 46 = .ok (.invokevirtual 212, 3) := by decide +kernel
theorem dX9_cups_49 : decode cX9_cups 49 = .ok (.iload_n 1, 1) := by decide +kernel
theorem dX9_cups_50 : decode cX9_cups 50 = .ok (.ifCond .ne 13, 3) := by decide +kernel
theorem dX9_cups_53 : decode cX9_cups 53 = .ok (.aload_n 0, 1) := by decide +kernel
theorem dX9_cups_54 : decode cX9_cups 54 = .ok (.getfield 47, 3) := by decide +kernel
theorem dX9_cups_57 : decode cX9_cups 57 = .ok (.invokevirtual 215, 3) := by decide +kernel
theorem dX9_cups_60 : decode cX9_cups 60 = .ok (.goto 14, 3) := by decide +kernel
theorem dX9_cups_63 : decode cX9_cups 63 = .ok (.aload_n 0, 1) := by decide +kernel
theorem dX9_cups_64 : decode cX9_cups 64 = .ok (.getfield 47, 3) := by decide +kernel
theorem dX9_cups_67 : decode cX9_cups 67 = .ok (.iload_n 1, 1) := by decide +kernel
theorem dX9_cups_68 : decode cX9_cups 68 = .ok (.bipush 10, 2) := by decide +kernel
theorem dX9_cups_70 : decode cX9_cups 70 = .ok (.isub, 1) := by decide +kernel
theorem dX9_cups_71 : decode cX9_cups 71 = .ok (.invokevirtual 218, 3) := by decide +kernel
theorem dX9_cups_74 : decode cX9_cups 74 = .ok (.ireturn, 1) := by decide +kernel
theorem dX9_order_0 : decode cX9_order 0 = .ok (.iload_n 1, 1) := by decide +kernel
theorem dX9_order_1 : decode cX9_order 1 = .ok (.invokestatic 209, 3) := by decide +kernel
theorem dX9_order_4 : decode cX9_order 4 = .ok (.ifCond .ne 6, 3) := by decide +kernel
theorem dX9_order_7 : decode cX9_order 7 = .ok (.bipush (-102), 2) := by decide +kernel
theorem dX9_order_9 : decode cX9_order 9 = .ok (.ireturn, 1) := by decide +kernel
theorem dX9_order_10 : decode cX9_order 10 = .ok (.aload_n 0, 1) := by decide +kernel
theorem dX9_order_11 : decode cX9_order 11 = .ok (.getfield 19, 3) := by decide +kernel
theorem dX9_order_14 : decode cX9_order 14 = .ok (.getfield 110, 3) := by decide +kernel
theorem dX9_order_17 : decode cX9_order 17 = .ok (.ifCond .eq 12, 3) := by decide +kernel
theorem dX9_order_20 : decode cX9_order 20 = .ok (.aload_n 0, 1) := by decide +kernel
theorem dX9_order_21 : decode cX9_order 21 = .ok (.getfield 85, 3) := by decide +kernel
theorem dX9_order_24 : decode cX9_order 24 = .ok (.bipush 20, 2) := by decide +kernel
theorem dX9_order_26 : decode cX9_order 26 = .ok (.if_icmp .lt 6, 3) := by decide +kernel
theorem dX9_order_29 : decode cX9_order 29 = .ok (.bipush (-103), 2) := by decide +kernel
theorem dX9_order_31 : decode cX9_order 31 = .ok (.ireturn, 1) := by decide +kernel
theorem dX9_order_32 : decode cX9_order 32 = .ok (.aload_n 0, 1) := by decide +kernel
theorem dX9_order_33 : decode cX9_order 33 = .ok (.dup, 1) := by decide +kernel
theorem dX9_order_34 : decode cX9_order 34 = .ok (.getfield 85, 3) := by decide +kernel
theorem dX9_order_37 : decode cX9_order 37 = .ok (.iconst 1, 1) := by decide +kernel
theorem dX9_order_38 : decode cX9_order 38 = .ok (.iadd, 1) := by decide +kernel
theorem dX9_order_39 : decode cX9_order 39 = .ok (.putfield 85, 3) := by decide +kernel
theorem dX9_order_42 : decode cX9_order 42 = .ok (.aload_n 0, 1) := by decide +kernel
theorem dX9_order_43 : decode cX9_order 43 = .ok (.getfield 56, 3) := by decide +kernel
theorem dX9_order_46 : decode cX9_order 46 = .ok (.aload_n 0, 1) := by decide +kernel
theorem dX9_order_47 : decode cX9_order 47 = .ok (.getfield 26, 3) := by decide +kernel
theorem dX9_order_50 : decode cX9_order 50 = .ok (.getfield 117, 3) := by decide +kernel
theorem dX9_order_53 : decode cX9_order 53 = .ok (.invokevirtual 221, 3) := by decide +kernel
theorem dX9_order_56 : decode cX9_order 56 = .ok (.iload_n 1, 1) := by decide +kernel
theorem dX9_order_57 : decode cX9_order 57 = .ok (.ifCond .ne 13, 3) := by decide +kernel
theorem dX9_order_60 : decode cX9_order 60 = .ok (.aload_n 0, 1) := by decide +kernel
theorem dX9_order_61 : decode cX9_order 61 = .ok (.getfield 56, 3) := by decide +kernel
theorem dX9_order_64 : decode cX9_order 64 = .ok (.getfield 223, 3) := by decide +kernel
theorem dX9_order_67 : decode cX9_order 67 = .ok (.goto 14, 3) := by decide +kernel
theorem dX9_order_70 : decode cX9_order 70 = .ok (.aload_n 0, 1) := by decide +kernel
theorem dX9_order_71 : decode cX9_order 71 = .ok (.getfield 56, 3) := by decide +kernel
theorem dX9_order_74 : decode cX9_order 74 = .ok (.iload_n 1, 1) := by decide +kernel
theorem dX9_order_75 : decode cX9_order 75 = .ok (.bipush 10, 2) := by decide +kernel
theorem dX9_order_77 : decode cX9_order 77 = .ok (.isub, 1) := by decide +kernel
theorem dX9_order_78 : decode cX9_order 78 = .ok (.invokevirtual 226, 3) := by decide +kernel
theorem dX9_order_81 : decode cX9_order 81 = .ok (.ireturn, 1) := by decide +kernel
theorem dX9_tell_0 : decode cX9_tell 0 = .ok (.aload_n 0, 1) := by decide +kernel
theorem dX9_tell_1 : decode cX9_tell 1 = .ok (.getfield 19, 3) := by decide +kernel
theorem dX9_tell_4 : decode cX9_tell 4 = .ok (.iload_n 1, 1) := by decide +kernel
theorem dX9_tell_5 : decode cX9_tell 5 = .ok (.invokevirtual 113, 3) := by decide +kernel
theorem dX9_tell_8 : decode cX9_tell 8 = .ok (.ifCond .ne 6, 3) := by decide +kernel
theorem dX9_tell_11 : decode cX9_tell 11 = .ok (.bipush (-101), 2) := by decide +kernel
theorem dX9_tell_13 : decode cX9_tell 13 = .ok (.ireturn, 1) := by decide +kernel
theorem dX9_tell_14 : decode cX9_tell 14 = .ok (.iload_n 2, 1) := by decide +kernel
theorem dX9_tell_15 : decode cX9_tell 15 = .ok (.ifCond .lt 8, 3) := by decide +kernel
theorem dX9_tell_18 : decode cX9_tell 18 = .ok (.iload_n 2, 1) := by decide +kernel
theorem dX9_tell_19 : decode cX9_tell 19 = .ok (.iconst 4, 1) := by decide +kernel
theorem dX9_tell_20 : decode cX9_tell 20 = .ok (.if_icmp .le 6, 3) := by decide +kernel
theorem dX9_tell_23 : decode cX9_tell 23 = .ok (.bipush (-102), 2) := by decide +kernel
theorem dX9_tell_25 : decode cX9_tell 25 = .ok (.ireturn, 1) := by decide +kernel
theorem dX9_tell_26 : decode cX9_tell 26 = .ok (.aload_n 0, 1) := by decide +kernel
theorem dX9_tell_27 : decode cX9_tell 27 = .ok (.getfield 26, 3) := by decide +kernel
theorem dX9_tell_30 : decode cX9_tell 30 = .ok (.getfield 229, 3) := by decide +kernel
theorem dX9_tell_33 : decode cX9_tell 33 = .ok (.bipush 6, 2) := by decide +kernel
theorem dX9_tell_35 : decode cX9_tell 35 = .ok (.if_icmp .lt 6, 3) := by decide +kernel
theorem dX9_tell_38 : decode cX9_tell 38 = .ok (.bipush (-104), 2) := by decide +kernel
theorem dX9_tell_40 : decode cX9_tell 40 = .ok (.ireturn, 1) := by decide +kernel
theorem dX9_tell_41 : decode cX9_tell 41 = .ok (.aload_n 0, 1) := by decide +kernel
theorem dX9_tell_42 : decode cX9_tell 42 = .ok (.getfield 26, 3) := by decide +kernel
theorem dX9_tell_45 : decode cX9_tell 45 = .ok (.iload_n 1, 1) := by decide +kernel
theorem dX9_tell_46 : decode cX9_tell 46 = .ok (.iload_n 2, 1) := by decide +kernel
theorem dX9_tell_47 : decode cX9_tell 47 = .ok (.invokevirtual 232, 3) := by decide +kernel
theorem dX9_tell_50 : decode cX9_tell 50 = .ok (.aload_n 0, 1) := by decide +kernel
theorem dX9_tell_51 : decode cX9_tell 51 = .ok (.getfield 26, 3) := by decide +kernel
theorem dX9_tell_54 : decode cX9_tell 54 = .ok (.getfield 229, 3) := by decide +kernel
theorem dX9_tell_57 : decode cX9_tell 57 = .ok (.ireturn, 1) := by decide +kernel
theorem dX9_forget_0 : decode cX9_forget 0 = .ok (.aload_n 0, 1) := by decide +kernel
theorem dX9_forget_1 : decode cX9_forget 1 = .ok (.getfield 26, 3) := by decide +kernel
theorem dX9_forget_4 : decode cX9_forget 4 = .ok (.getfield 229, 3) := by decide +kernel
theorem dX9_forget_7 : decode cX9_forget 7 = .ok (.istore_n 1, 1) := by decide +kernel
theorem dX9_forget_8 : decode cX9_forget 8 = .ok (.aload_n 0, 1) := by decide +kernel
theorem dX9_forget_9 : decode cX9_forget 9 = .ok (.getfield 26, 3) := by decide +kernel
theorem dX9_forget_12 : decode cX9_forget 12 = .ok (.iconst 0, 1) := by decide +kernel
theorem dX9_forget_13 : decode cX9_forget 13 = .ok (.putfield 229, 3) := by decide +kernel
theorem dX9_forget_16 : decode cX9_forget 16 = .ok (.iload_n 1, 1) := by decide +kernel
theorem dX9_forget_17 : decode cX9_forget 17 = .ok (.ireturn, 1) := by decide +kernel
theorem dX9_guess_0 : decode cX9_guess 0 = .ok (.aload_n 0, 1) := by decide +kernel
theorem dX9_guess_1 : decode cX9_guess 1 = .ok (.getfield 26, 3) := by decide +kernel
theorem dX9_guess_4 : decode cX9_guess 4 = .ok (.iload_n 1, 1) := by decide +kernel
theorem dX9_guess_5 : decode cX9_guess 5 = .ok (.invokevirtual 156, 3) := by decide +kernel
theorem dX9_guess_8 : decode cX9_guess 8 = .ok (.ifCond .ne 6, 3) := by decide +kernel
theorem dX9_guess_11 : decode cX9_guess 11 = .ok (.bipush (-101), 2) := by decide +kernel
theorem dX9_guess_13 : decode cX9_guess 13 = .ok (.ireturn, 1) := by decide +kernel
theorem dX9_guess_14 : decode cX9_guess 14 = .ok (.aload_n 0, 1) := by decide +kernel
theorem dX9_guess_15 : decode cX9_guess 15 = .ok (.getfield 63, 3) := by decide +kernel
theorem dX9_guess_18 : decode cX9_guess 18 = .ok (.iload_n 1, 1) := by decide +kernel
theorem dX9_guess_19 : decode cX9_guess 19 = .ok (.invokevirtual 236, 3) := by decide +kernel
theorem dX9_guess_22 : decode cX9_guess 22 = .ok (.aload_n 0, 1) := by decide +kernel
theorem dX9_guess_23 : decode cX9_guess 23 = .ok (.getfield 63, 3) := by decide +kernel
theorem dX9_guess_26 : decode cX9_guess 26 = .ok (.getfield 239, 3) := by decide +kernel
theorem dX9_guess_29 : decode cX9_guess 29 = .ok (.ireturn, 1) := by decide +kernel
theorem dX9_listen_0 : decode cX9_listen 0 = .ok (.aload_n 0, 1) := by decide +kernel
theorem dX9_listen_1 : decode cX9_listen 1 = .ok (.getfield 26, 3) := by decide +kernel
theorem dX9_listen_4 : decode cX9_listen 4 = .ok (.iload_n 1, 1) := by decide +kernel
theorem dX9_listen_5 : decode cX9_listen 5 = .ok (.invokevirtual 156, 3) := by decide +kernel
theorem dX9_listen_8 : decode cX9_listen 8 = .ok (.ifCond .ne 6, 3) := by decide +kernel
theorem dX9_listen_11 : decode cX9_listen 11 = .ok (.bipush (-101), 2) := by decide +kernel
theorem dX9_listen_13 : decode cX9_listen 13 = .ok (.ireturn, 1) := by decide +kernel
theorem dX9_listen_14 : decode cX9_listen 14 = .ok (.aload_n 0, 1) := by decide +kernel
theorem dX9_listen_15 : decode cX9_listen 15 = .ok (.getfield 63, 3) := by decide +kernel
theorem dX9_listen_18 : decode cX9_listen 18 = .ok (.iload_n 1, 1) := by decide +kernel
theorem dX9_listen_19 : decode cX9_listen 19 = .ok (.invokevirtual 236, 3) := by decide +kernel
theorem dX9_listen_22 : decode cX9_listen 22 = .ok (.aload_n 0, 1) := by decide +kernel
theorem dX9_listen_23 : decode cX9_listen 23 = .ok (.getfield 63, 3) := by decide +kernel
theorem dX9_listen_26 : decode cX9_listen 26 = .ok (.invokevirtual 242, 3) := by decide +kernel
theorem dX9_listen_29 : decode cX9_listen 29 = .ok (.ireturn, 1) := by decide +kernel
theorem dX9_draughts_0 : decode cX9_draughts 0 = .ok (.iload_n 1, 1) := by decide +kernel
theorem dX9_draughts_1 : decode cX9_draughts 1 = .ok (.iconst 1, 1) := by decide +kernel
theorem dX9_draughts_2 : decode cX9_draughts 2 = .ok (.if_icmp .lt 22, 3) := by decide +kernel
theorem dX9_draughts_5 : decode cX9_draughts 5 = .ok (.iload_n 1, 1) := by decide +kernel
theorem dX9_draughts_6 : decode cX9_draughts 6 = .ok (.bipush 30, 2) := by decide +kernel
theorem dX9_draughts_8 : decode cX9_draughts 8 = .ok (.if_icmp .gt 16, 3) := by decide +kernel
theorem dX9_draughts_11 : decode cX9_draughts 11 = .ok (.iload_n 2, 1) := by decide +kernel
theorem dX9_draughts_12 : decode cX9_draughts 12 = .ok (.ifCond .lt 12, 3) := by decide +kernel
theorem dX9_draughts_15 : decode cX9_draughts 15 = .ok (.iload_n 3, 1) := by decide +kernel
theorem dX9_draughts_16 : decode cX9_draughts 16 = .ok (.ifCond .lt 8, 3) := by decide +kernel
theorem dX9_draughts_19 : decode cX9_draughts 19 = .ok (.iload_n 3, 1) := by decide +kernel
theorem dX9_draughts_20 : decode cX9_draughts 20 = .ok (.iconst 2, 1) := by decide +kernel
theorem dX9_draughts_21 : decode cX9_draughts 21 = .ok (.if_icmp .le 6, 3) := by decide +kernel
theorem dX9_draughts_24 : decode cX9_draughts 24 = .ok (.bipush (-102), 2) := by decide +kernel
theorem dX9_draughts_26 : decode cX9_draughts 26 = .ok (.ireturn, 1) := by decide +kernel
theorem dX9_draughts_27 : decode cX9_draughts 27 = .ok (.aload_n 0, 1) := by decide +kernel
theorem dX9_draughts_28 : decode cX9_draughts 28 = .ok (.getfield 26, 3) := by decide +kernel
theorem dX9_draughts_31 : decode cX9_draughts 31 = .ok (.getfield 150, 3) := by decide +kernel
theorem dX9_draughts_34 : decode cX9_draughts 34 = .ok (.ifCond .ne 6, 3) := by decide +kernel
theorem dX9_draughts_37 : decode cX9_draughts 37 = .ok (.bipush (-103), 2) := by decide +kernel
theorem dX9_draughts_39 : decode cX9_draughts 39 = .ok (.ireturn, 1) := by decide +kernel
theorem dX9_draughts_40 : decode cX9_draughts 40 = .ok (.aload_n 0, 1) := by decide +kernel
theorem dX9_draughts_41 : decode cX9_draughts 41 = .ok (.getfield 70, 3) := by decide +kernel
theorem dX9_draughts_44 : decode cX9_draughts 44 = .ok (.iload_n 1, 1) := by decide +kernel
theorem dX9_draughts_45 : decode cX9_draughts 45 = .ok (.iload_n 2, 1) := by decide +kernel
theorem dX9_draughts_46 : decode cX9_draughts 46 = .ok (.invokevirtual 245, 3) := by decide +kernel
theorem dX9_draughts_49 : decode cX9_draughts 49 = .ok (.iload_n 3, 1) := by decide +kernel
theorem dX9_draughts_50 : decode cX9_draughts 50 = .ok (.lookupswitch 42 #[(0, 26), (1, 34)], 26) := by decide +kernel
theorem dX9_draughts_76 : decode cX9_draughts 76 = .ok (.aload_n 0, 1) := by decide +kernel
theorem dX9_draughts_77 : decode cX9_draughts 77 = .ok (.getfield 70, 3) := by decide +kernel
theorem dX9_draughts_80 : decode cX9_draughts 80 = .ok (.getfield 248, 3) := by decide +kernel
theorem dX9_draughts_83 : decode cX9_draughts 83 = .ok (.ireturn, 1) := by decide +kernel
theorem dX9_draughts_84 : decode cX9_draughts 84 = .ok (.aload_n 0, 1) := by decide +kernel
theorem dX9_draughts_85 : decode cX9_draughts 85 = .ok (.getfield 70, 3) := by decide +kernel
theorem dX9_draughts_88 : decode cX9_draughts 88 = .ok (.getfield 249, 3) := by decide +kernel
theorem dX9_draughts_91 : decode cX9_draughts 91 = .ok (.ireturn, 1) := by decide +kernel
theorem dX9_draughts_92 : decode cX9_draughts 92 = .ok (.aload_n 0, 1) := by decide +kernel
theorem dX9_draughts_93 : decode cX9_draughts 93 = .ok (.getfield 70, 3) := by decide +kernel
theorem dX9_draughts_96 : decode cX9_draughts 96 = .ok (.getfield 251, 3) := by decide +kernel
theorem dX9_draughts_99 : decode cX9_draughts 99 = .ok (.ireturn, 1) := by decide +kernel
theorem dX9_image_0 : decode cX9_image 0 = .ok (.aload_n 0, 1) := by decide +kernel
theorem dX9_image_1 : decode cX9_image 1 = .ok (.getfield 19, 3) := by decide +kernel
theorem dX9_image_4 : decode cX9_image 4 = .ok (.getfield 110, 3) := by decide +kernel
theorem dX9_image_7 : decode cX9_image 7 = .ok (.ifCond .ne 6, 3) := by decide +kernel
theorem dX9_image_10 : decode cX9_image 10 = .ok (.bipush (-103), 2) := by decide +kernel
theorem dX9_image_12 : decode cX9_image 12 = .ok (.ireturn, 1) := by decide +kernel
theorem dX9_image_13 : decode cX9_image 13 = .ok (.aload_n 0, 1) := by decide +kernel
theorem dX9_image_14 : decode cX9_image 14 = .ok (.getfield 30, 3) := by decide +kernel
theorem dX9_image_17 : decode cX9_image 17 = .ok (.aload_n 0, 1) := by decide +kernel
theorem dX9_image_18 : decode cX9_image 18 = .ok (.getfield 26, 3) := by decide +kernel
theorem dX9_image_21 : decode cX9_image 21 = .ok (.invokevirtual 254, 3) := by decide +kernel
theorem dX9_image_24 : decode cX9_image 24 = .ok (.aload_n 0, 1) := by decide +kernel
theorem dX9_image_25 : decode cX9_image 25 = .ok (.iconst 1, 1) := by decide +kernel
theorem dX9_image_26 : decode cX9_image 26 = .ok (.putfield 74, 3) := by decide +kernel
theorem dX9_image_29 : decode cX9_image 29 = .ok (.aload_n 0, 1) := by decide +kernel
theorem dX9_image_30 : decode cX9_image 30 = .ok (.getfield 26, 3) := by decide +kernel
theorem dX9_image_33 : decode cX9_image 33 = .ok (.getfield 178, 3) := by decide +kernel
theorem dX9_image_36 : decode cX9_image 36 = .ok (.ireturn, 1) := by decide +kernel
theorem dX9_restore_0 : decode cX9_restore 0 = .ok (.aload_n 0, 1) := by decide +kernel
theorem dX9_restore_1 : decode cX9_restore 1 = .ok (.getfield 74, 3) := by decide +kernel
theorem dX9_restore_4 : decode cX9_restore 4 = .ok (.ifCond .ne 6, 3) := by decide +kernel
theorem dX9_restore_7 : decode cX9_restore 7 = .ok (.bipush (-103), 2) := by decide +kernel
theorem dX9_restore_9 : decode cX9_restore 9 = .ok (.ireturn, 1) := by decide +kernel
theorem dX9_restore_10 : decode cX9_restore 10 = .ok (.aload_n 0, 1) := by decide +kernel
theorem dX9_restore_11 : decode cX9_restore 11 = .ok (.getfield 26, 3) := by decide +kernel
theorem dX9_restore_14 : decode cX9_restore 14 = .ok (.aload_n 0, 1) := by decide +kernel
theorem dX9_restore_15 : decode cX9_restore 15 = .ok (.getfield 30, 3) := by decide +kernel
theorem dX9_restore_18 : decode cX9_restore 18 = .ok (.invokevirtual 254, 3) := by decide +kernel
theorem dX9_restore_21 : decode cX9_restore 21 = .ok (.aload_n 0, 1) := by decide +kernel
theorem dX9_restore_22 : decode cX9_restore 22 = .ok (.getfield 26, 3) := by decide +kernel
theorem dX9_restore_25 : decode cX9_restore 25 = .ok (.getfield 178, 3) := by decide +kernel
theorem dX9_restore_28 : decode cX9_restore 28 = .ok (.ireturn, 1) := by decide +kernel
theorem dX9_count_0 : decode cX9_count 0 = .ok (.iload_n 1, 1) := by decide +kernel
theorem dX9_count_1 : decode cX9_count 1 = .ok (.ifCond .lt 9, 3) := by decide +kernel
theorem dX9_count_4 : decode cX9_count 4 = .ok (.iload_n 1, 1) := by decide +kernel
theorem dX9_count_5 : decode cX9_count 5 = .ok (.bipush 12, 2) := by decide +kernel
theorem dX9_count_7 : decode cX9_count 7 = .ok (.if_icmp .le 6, 3) := by decide +kernel
theorem dX9_count_10 : decode cX9_count 10 = .ok (.bipush (-102), 2) := by decide +kernel
theorem dX9_count_12 : decode cX9_count 12 = .ok (.ireturn, 1) := by decide +kernel
theorem dX9_count_13 : decode cX9_count 13 = .ok (.aload_n 0, 1) := by decide +kernel
theorem dX9_count_14 : decode cX9_count 14 = .ok (.iload_n 1, 1) := by decide +kernel
theorem dX9_count_15 : decode cX9_count 15 = .ok (.invokevirtual 258, 3) := by decide +kernel
theorem dX9_count_18 : decode cX9_count 18 = .ok (.ireturn, 1) := by decide +kernel
theorem dX9_countOf_0 : decode cX9_countOf 0 = .ok (.iload_n 1, 1) := by decide +kernel
theorem dX9_countOf_1 : decode cX9_countOf 1 = .ok (.tableswitch 180 0 11 #[63, 71, 79, 87, 105, 130, 138, 146, 154, 162, 170, 175], 63) := by decide +kernel
theorem dX9_countOf_64 : decode cX9_countOf 64 = .ok (.aload_n 0, 1) := by decide +kernel
