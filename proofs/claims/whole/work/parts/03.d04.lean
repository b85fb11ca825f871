theorem dX10_asItIs_19 : decode cX10_asItIs 19 = .ok (.iconst 4, 1) := by decide +kernel
theorem dX10_asItIs_20 : decode cX10_asItIs 20 = .ok (.iload_n 1, 1) := by decide +kernel
theorem dX10_asItIs_21 : decode cX10_asItIs 21 = .ok (.imul, 1) := by decide +kernel
theorem dX10_asItIs_22 : decode cX10_asItIs 22 = .ok (.iconst 1, 1) := by decide +kernel
theorem dX10_asItIs_23 : decode cX10_asItIs 23 = .ok (.iadd, 1) := by decide +kernel
theorem dX10_asItIs_24 : decode cX10_asItIs 24 = .ok (.iaload, 1) := by decide +kernel
theorem dX10_asItIs_25 : decode cX10_asItIs 25 = .ok (.iastore, 1) := by decide +kernel
theorem dX10_asItIs_26 : decode cX10_asItIs 26 = .ok (.iinc 1 1, 3) := by decide +kernel
theorem dX10_asItIs_29 : decode cX10_asItIs 29 = .ok (.goto (-27), 3) := by decide +kernel
theorem dX10_asItIs_32 : decode cX10_asItIs 32 = .ok (.return_, 1) := by decide +kernel
theorem dX10_isAwake_0 : decode cX10_isAwake 0 = .ok (.aload_n 0, 1) := by decide +kernel
theorem dX10_isAwake_1 : decode cX10_isAwake 1 = .ok (.iload_n 1, 1) := by decide +kernel
theorem dX10_isAwake_2 : decode cX10_isAwake 2 = .ok (.invokevirtual 116, 3) := by decide +kernel
theorem dX10_isAwake_5 : decode cX10_isAwake 5 = .ok (.ifCond .eq 20, 3) := by decide +kernel
theorem dX10_isAwake_8 : decode cX10_isAwake 8 = .ok (.aload_n 0, 1) := by decide +kernel
theorem dX10_isAwake_9 : decode cX10_isAwake 9 = .ok (.getfield 25, 3) := by decide +kernel
theorem dX10_isAwake_12 : decode cX10_isAwake 12 = .ok (.iload_n 1, 1) := by decide +kernel
theorem dX10_isAwake_13 : decode cX10_isAwake 13 = .ok (.iaload, 1) := by decide +kernel
theorem dX10_isAwake_14 : decode cX10_isAwake 14 = .ok (.aload_n 0, 1) := by decide +kernel
theorem dX10_isAwake_15 : decode cX10_isAwake 15 = .ok (.getfield 94, 3) := by decide +kernel
theorem dX10_isAwake_18 : decode cX10_isAwake 18 = .ok (.if_icmp .ge 7, 3) := by decide +kernel
theorem dX10_isAwake_21 : decode cX10_isAwake 21 = .ok (.iconst 1, 1) := by decide +kernel
theorem dX10_isAwake_22 : decode cX10_isAwake 22 = .ok (.goto 4, 3) := by decide +kernel
theorem dX10_isAwake_25 : decode cX10_isAwake 25 = .ok (.iconst 0, 1) := by decide +kernel
theorem dX10_isAwake_26 : decode cX10_isAwake 26 = .ok (.ireturn, 1) := by decide +kernel
theorem dX10_isHeard_0 : decode cX10_isHeard 0 = .ok (.aload_n 0, 1) := by decide +kernel
theorem dX10_isHeard_1 : decode cX10_isHeard 1 = .ok (.iload_n 1, 1) := by decide +kernel
theorem dX10_isHeard_2 : decode cX10_isHeard 2 = .ok (.invokevirtual 119, 3) := by decide +kernel
theorem dX10_isHeard_5 : decode cX10_isHeard 5 = .ok (.ifCond .ne 35, 3) := by decide +kernel
theorem dX10_isHeard_8 : decode cX10_isHeard 8 = .ok (.aload_n 0, 1) := by decide +kernel
theorem dX10_isHeard_9 : decode cX10_isHeard 9 = .ok (.getfield 19, 3) := by decide +kernel
theorem dX10_isHeard_12 : decode cX10_isHeard 12 = .ok (.iconst 4, 1) := by decide +kernel
theorem dX10_isHeard_13 : decode cX10_isHeard 13 = .ok (.iload_n 1, 1) := by decide +kernel
theorem dX10_isHeard_14 : decode cX10_isHeard 14 = .ok (.imul, 1) := by decide +kernel
theorem dX10_isHeard_15 : decode cX10_isHeard 15 = .ok (.iaload, 1) := by decide +kernel
theorem dX10_isHeard_16 : decode cX10_isHeard 16 = .ok (.iconst 2, 1) := by decide +kernel
theorem dX10_isHeard_17 : decode cX10_isHeard 17 = .ok (.if_icmp .ne 27, 3) := by decide +kernel
theorem dX10_isHeard_20 : decode cX10_isHeard 20 = .ok (.aload_n 0, 1) := by decide +kernel
theorem dX10_isHeard_21 : decode cX10_isHeard 21 = .ok (.iload_n 1, 1) := by decide +kernel
theorem dX10_isHeard_22 : decode cX10_isHeard 22 = .ok (.iconst 1, 1) := by decide +kernel
theorem dX10_isHeard_23 : decode cX10_isHeard 23 = .ok (.isub, 1) := by decide +kernel
theorem dX10_isHeard_24 : decode cX10_isHeard 24 = .ok (.invokevirtual 119, 3) := by decide +kernel
theorem dX10_isHeard_27 : decode cX10_isHeard 27 = .ok (.ifCond .ne 13, 3) := by decide +kernel
theorem dX10_isHeard_30 : decode cX10_isHeard 30 = .ok (.aload_n 0, 1) := by decide +kernel
theorem dX10_isHeard_31 : decode cX10_isHeard 31 = .ok (.iload_n 1, 1) := by decide +kernel
theorem dX10_isHeard_32 : decode cX10_isHeard 32 = .ok (.iconst 1, 1) := by decide +kernel
theorem dX10_isHeard_33 : decode cX10_isHeard 33 = .ok (.iadd, 1) := by decide +kernel
theorem dX10_isHeard_34 : decode cX10_isHeard 34 = .ok (.invokevirtual 119, 3) := by decide +kernel
theorem dX10_isHeard_37 : decode cX10_isHeard 37 = .ok (.ifCond .eq 7, 3) := by decide +kernel
theorem dX10_isHeard_40 : decode cX10_isHeard 40 = .ok (.iconst 1, 1) := by decide +kernel
theorem dX10_isHeard_41 : decode cX10_isHeard 41 = .ok (.goto 4, 3) := by decide +kernel
theorem dX10_isHeard_44 : decode cX10_isHeard 44 = .ok (.iconst 0, 1) := by decide +kernel
theorem dX10_isHeard_45 : decode cX10_isHeard 45 = .ok (.ireturn, 1) := by decide +kernel
theorem dX10_mostOf_0 : decode cX10_mostOf 0 = .ok (.iload_n 0, 1) := by decide +kernel
theorem dX10_mostOf_1 : decode cX10_mostOf 1 = .ok (.iconst 1, 1) := by decide +kernel
theorem dX10_mostOf_2 : decode cX10_mostOf 2 = .ok (.if_icmp .ne 7, 3) := by decide +kernel
theorem dX10_mostOf_5 : decode cX10_mostOf 5 = .ok (.iconst 2, 1) := by decide +kernel
theorem dX10_mostOf_6 : decode cX10_mostOf 6 = .ok (.goto 13, 3) := by decide +kernel
theorem dX10_mostOf_9 : decode cX10_mostOf 9 = .ok (.iload_n 0, 1) := by decide +kernel
theorem dX10_mostOf_10 : decode cX10_mostOf 10 = .ok (.iconst 4, 1) := by decide +kernel
theorem dX10_mostOf_11 : decode cX10_mostOf 11 = .ok (.if_icmp .ne 7, 3) := by decide +kernel
theorem dX10_mostOf_14 : decode cX10_mostOf 14 = .ok (.iconst 4, 1) := by decide +kernel
theorem dX10_mostOf_15 : decode cX10_mostOf 15 = .ok (.goto 4, 3) := by decide +kernel
theorem dX10_mostOf_18 : decode cX10_mostOf 18 = .ok (.iconst 1, 1) := by decide +kernel
theorem dX10_mostOf_19 : decode cX10_mostOf 19 = .ok (.ireturn, 1) := by decide +kernel
theorem dX10_layTakes_0 : decode cX10_layTakes 0 = .ok (.aload_n 0, 1) := by decide +kernel
theorem dX10_layTakes_1 : decode cX10_layTakes 1 = .ok (.getfield 16, 3) := by decide +kernel
theorem dX10_layTakes_4 : decode cX10_layTakes 4 = .ok (.iconst 2, 1) := by decide +kernel
theorem dX10_layTakes_5 : decode cX10_layTakes 5 = .ok (.iload_n 1, 1) := by decide +kernel
theorem dX10_layTakes_6 : decode cX10_layTakes 6 = .ok (.imul, 1) := by decide +kernel
theorem dX10_layTakes_7 : decode cX10_layTakes 7 = .ok (.iconst 1, 1) := by decide +kernel
theorem dX10_layTakes_8 : decode cX10_layTakes 8 = .ok (.iadd, 1) := by decide +kernel
theorem dX10_layTakes_9 : decode cX10_layTakes 9 = .ok (.iaload, 1) := by decide +kernel
theorem dX10_layTakes_10 : decode cX10_layTakes 10 = .ok (.istore_n 2, 1) := by decide +kernel
theorem dX10_layTakes_11 : decode cX10_layTakes 11 = .ok (.iconst 0, 1) := by decide +kernel
theorem dX10_layTakes_12 : decode cX10_layTakes 12 = .ok (.istore_n 3, 1) := by decide +kernel
theorem dX10_layTakes_13 : decode cX10_layTakes 13 = .ok (.iconst 0, 1) := by decide +kernel
theorem dX10_layTakes_14 : decode cX10_layTakes 14 = .ok (.istore 4, 2) := by decide +kernel
theorem dX10_layTakes_16 : decode cX10_layTakes 16 = .ok (.iload 4, 2) := by decide +kernel
theorem dX10_layTakes_18 : decode cX10_layTakes 18 = .ok (.aload_n 0, 1) := by decide +kernel
theorem dX10_layTakes_19 : decode cX10_layTakes 19 = .ok (.getfield 103, 3) := by decide +kernel
theorem dX10_layTakes_22 : decode cX10_layTakes 22 = .ok (.if_icmp .ge 37, 3) := by decide +kernel
theorem dX10_layTakes_25 : decode cX10_layTakes 25 = .ok (.aload_n 0, 1) := by decide +kernel
theorem dX10_layTakes_26 : decode cX10_layTakes 26 = .ok (.getfield 28, 3) := by decide +kernel
theorem dX10_layTakes_29 : decode cX10_layTakes 29 = .ok (.iload 4, 2) := by decide +kernel
theorem dX10_layTakes_31 : decode cX10_layTakes 31 = .ok (.iconst 0, 1) := by decide +kernel
theorem dX10_layTakes_32 : decode cX10_layTakes 32 = .ok (.iastore, 1) := by decide +kernel
theorem dX10_layTakes_33 : decode cX10_layTakes 33 = .ok (.iload_n 3, 1) := by decide +kernel
theorem dX10_layTakes_34 : decode cX10_layTakes 34 = .ok (.aload_n 0, 1) := by decide +kernel
theorem dX10_layTakes_35 : decode cX10_layTakes 35 = .ok (.iload 4, 2) := by decide +kernel
theorem dX10_layTakes_37 : decode cX10_layTakes 37 = .ok (.invokevirtual 122, 3) := by decide +kernel
theorem dX10_layTakes_40 : decode cX10_layTakes 40 = .ok (.ifCond .eq 10, 3) := by decide +kernel
theorem dX10_layTakes_43 : decode cX10_layTakes 43 = .ok (.iconst 1, 1) := by decide +kernel
theorem dX10_layTakes_44 : decode cX10_layTakes 44 = .ok (.iload 4, 2) := by decide +kernel
theorem dX10_layTakes_46 : decode cX10_layTakes 46 = .ok (.ishl, 1) := by decide +kernel
theorem dX10_layTakes_47 : decode cX10_layTakes 47 = .ok (.goto 4, 3) := by decide +kernel
theorem dX10_layTakes_50 : decode cX10_layTakes 50 = .ok (.iconst 0, 1) := by decide +kernel
theorem dX10_layTakes_51 : decode cX10_layTakes 51 = .ok (.ior, 1) := by decide +kernel
theorem dX10_layTakes_52 : decode cX10_layTakes 52 = .ok (.istore_n 3, 1) := by decide +kernel
theorem dX10_layTakes_53 : decode cX10_layTakes 53 = .ok (.iinc 4 1, 3) := by decide +kernel
theorem dX10_layTakes_56 : decode cX10_layTakes 56 = .ok (.goto (-40), 3) := by decide +kernel
theorem dX10_layTakes_59 : decode cX10_layTakes 59 = .ok (.iload_n 3, 1) := by decide +kernel
theorem dX10_layTakes_60 : decode cX10_layTakes 60 = .ok (.ifCond .eq 121, 3) := by decide +kernel
theorem dX10_layTakes_63 : decode cX10_layTakes 63 = .ok (.iconst (-1), 1) := by decide +kernel
theorem dX10_layTakes_64 : decode cX10_layTakes 64 = .ok (.istore 4, 2) := by decide +kernel
theorem dX10_layTakes_66 : decode cX10_layTakes 66 = .ok (.iconst 0, 1) := by decide +kernel
theorem dX10_layTakes_67 : decode cX10_layTakes 67 = .ok (.istore 5, 2) := by decide +kernel
theorem dX10_layTakes_69 : decode cX10_layTakes 69 = .ok (.iload 5, 2) := by decide +kernel
theorem dX10_layTakes_71 : decode cX10_layTakes 71 = .ok (.aload_n 0, 1) := by decide +kernel
theorem dX10_layTakes_72 : decode cX10_layTakes 72 = .ok (.getfield 103, 3) := by decide +kernel
theorem dX10_layTakes_75 : decode cX10_layTakes 75 = .ok (.if_icmp .ge 51, 3) := by decide +kernel
theorem dX10_layTakes_78 : decode cX10_layTakes 78 = .ok (.iload_n 3, 1) := by decide +kernel
theorem dX10_layTakes_79 : decode cX10_layTakes 79 = .ok (.iload 5, 2) := by decide +kernel
theorem dX10_layTakes_81 : decode cX10_layTakes 81 = .ok (.ishr, 1) := by decide +kernel
theorem dX10_layTakes_82 : decode cX10_layTakes 82 = .ok (.iconst 1, 1) := by decide +kernel
theorem dX10_layTakes_83 : decode cX10_layTakes 83 = .ok (.iand, 1) := by decide +kernel
theorem dX10_layTakes_84 : decode cX10_layTakes 84 = .ok (.iconst 1, 1) := by decide +kernel
theorem dX10_layTakes_85 : decode cX10_layTakes 85 = .ok (.if_icmp .ne 31, 3) := by decide +kernel
theorem dX10_layTakes_88 : decode cX10_layTakes 88 = .ok (.iload 4, 2) := by decide +kernel
theorem dX10_layTakes_90 : decode cX10_layTakes 90 = .ok (.iconst (-1), 1) := by decide +kernel
theorem dX10_layTakes_91 : decode cX10_layTakes 91 = .ok (.if_icmp .eq 20, 3) := by decide +kernel
theorem dX10_layTakes_94 : decode cX10_layTakes 94 = .ok (.aload_n 0, 1) := by decide +kernel
theorem dX10_layTakes_95 : decode cX10_layTakes 95 = .ok (.getfield 25, 3) := by decide +kernel
theorem dX10_layTakes_98 : decode cX10_layTakes 98 = .ok (.iload 5, 2) := by decide +kernel
theorem dX10_layTakes_100 : decode cX10_layTakes 100 = .ok (.iaload, 1) := by decide +kernel
theorem dX10_layTakes_101 : decode cX10_layTakes 101 = .ok (.aload_n 0, 1) := by decide +kernel
theorem dX10_layTakes_102 : decode cX10_layTakes 102 = .ok (.getfield 25, 3) := by decide +kernel
theorem dX10_layTakes_105 : decode cX10_layTakes 105 = .ok (.iload 4, 2) := by decide +kernel
theorem dX10_layTakes_107 : decode cX10_layTakes 107 = .ok (.iaload, 1) := by decide +kernel
theorem dX10_layTakes_108 : decode cX10_layTakes 108 = .ok (.if_icmp .ge 8, 3) := by decide +kernel
theorem dX10_layTakes_111 : decode cX10_layTakes 111 = .ok (.iload 5, 2) := by decide +kernel
theorem dX10_layTakes_113 : decode cX10_layTakes 113 = .ok (.goto 5, 3) := by decide +kernel
theorem dX10_layTakes_116 : decode cX10_layTakes 116 = .ok (.iload 4, 2) := by decide +kernel
theorem dX10_layTakes_118 : decode cX10_layTakes 118 = .ok (.istore 4, 2) := by decide +kernel
theorem dX10_layTakes_120 : decode cX10_layTakes 120 = .ok (.iinc 5 1, 3) := by decide +kernel
theorem dX10_layTakes_123 : decode cX10_layTakes 123 = .ok (.goto (-54), 3) := by decide +kernel
theorem dX10_layTakes_126 : decode cX10_layTakes 126 = .ok (.aload_n 0, 1) := by decide +kernel
theorem dX10_layTakes_127 : decode cX10_layTakes 127 = .ok (.getfield 19, 3) := by decide +kernel
theorem dX10_layTakes_130 : decode cX10_layTakes 130 = .ok (.iconst 4, 1) := by decide +kernel
theorem dX10_layTakes_131 : decode cX10_layTakes 131 = .ok (.iload 4, 2) := by decide +kernel
theorem dX10_layTakes_133 : decode cX10_layTakes 133 = .ok (.imul, 1) := by decide +kernel
theorem dX10_layTakes_134 : decode cX10_layTakes 134 = .ok (.iaload, 1) := by decide +kernel
theorem dX10_layTakes_135 : decode cX10_layTakes 135 = .ok (.invokestatic 125, 3) := by decide +kernel
theorem dX10_layTakes_138 : decode cX10_layTakes 138 = .ok (.istore 5, 2) := by decide +kernel
theorem dX10_layTakes_140 : decode cX10_layTakes 140 = .ok (.aload_n 0, 1) := by decide +kernel
theorem dX10_layTakes_141 : decode cX10_layTakes 141 = .ok (.getfield 28, 3) := by decide +kernel
theorem dX10_layTakes_144 : decode cX10_layTakes 144 = .ok (.iload 4, 2) := by decide +kernel
theorem dX10_layTakes_146 : decode cX10_layTakes 146 = .ok (.iload_n 2, 1) := by decide +kernel
theorem dX10_layTakes_147 : decode cX10_layTakes 147 = .ok (.iload 5, 2) := by decide +kernel
theorem dX10_layTakes_149 : decode cX10_layTakes 149 = .ok (.if_icmp .ge 7, 3) := by decide +kernel
theorem dX10_layTakes_152 : decode cX10_layTakes 152 = .ok (.iload_n 2, 1) := by decide +kernel
theorem dX10_layTakes_153 : decode cX10_layTakes 153 = .ok (.goto 5, 3) := by decide +kernel
theorem dX10_layTakes_156 : decode cX10_layTakes 156 = .ok (.iload 5, 2) := by decide +kernel
theorem dX10_layTakes_158 : decode cX10_layTakes 158 = .ok (.iastore, 1) := by decide +kernel
theorem dX10_layTakes_159 : decode cX10_layTakes 159 = .ok (.iload_n 2, 1) := by decide +kernel
theorem dX10_layTakes_160 : decode cX10_layTakes 160 = .ok (.aload_n 0, 1) := by decide +kernel
theorem dX10_layTakes_161 : decode cX10_layTakes 161 = .ok (.getfield 28, 3) := by decide +kernel
theorem dX10_layTakes_164 : decode cX10_layTakes 164 = .ok (.iload 4, 2) := by decide +kernel
theorem dX10_layTakes_166 : decode cX10_layTakes 166 = .ok (.iaload, 1) := by decide +kernel
theorem dX10_layTakes_167 : decode cX10_layTakes 167 = .ok (.isub, 1) := by decide +kernel
theorem dX10_layTakes_168 : decode cX10_layTakes 168 = .ok (.istore_n 2, 1) := by decide +kernel
theorem dX10_layTakes_169 : decode cX10_layTakes 169 = .ok (.iload_n 3, 1) := by decide +kernel
theorem dX10_layTakes_170 : decode cX10_layTakes 170 = .ok (.iconst 1, 1) := by decide +kernel
theorem dX10_layTakes_171 : decode cX10_layTakes 171 = .ok (.iload 4, 2) := by decide +kernel
theorem dX10_layTakes_173 : decode cX10_layTakes 173 = .ok (.ishl, 1) := by decide +kernel
theorem dX10_layTakes_174 : decode cX10_layTakes 174 = .ok (.iconst (-1), 1) := by decide +kernel
theorem dX10_layTakes_175 : decode cX10_layTakes 175 = .ok (.ixor, 1) := by decide +kernel
theorem dX10_layTakes_176 : decode cX10_layTakes 176 = .ok (.iand, 1) := by decide +kernel
theorem dX10_layTakes_177 : decode cX10_layTakes 177 = .ok (.istore_n 3, 1) := by decide +kernel
theorem dX10_layTakes_178 : decode cX10_layTakes 178 = .ok (.goto (-119), 3) := by decide +kernel
theorem dX10_layTakes_181 : decode cX10_layTakes 181 = .ok (.iload_n 2, 1) := by decide +kernel
theorem dX10_layTakes_182 : decode cX10_layTakes 182 = .ok (.ireturn, 1) := by decide +kernel
theorem dX10_snores_0 : decode cX10_snores 0 = .ok (.aload_n 0, 1) := by decide +kernel
theorem dX10_snores_1 : decode cX10_snores 1 = .ok (.iload_n 1, 1) := by decide +kernel
theorem dX10_snores_2 : decode cX10_snores 2 = .ok (.invokevirtual 116, 3) := by decide +kernel
theorem dX10_snores_5 : decode cX10_snores 5 = .ok (.ifCond .eq 32, 3) := by decide +kernel
theorem dX10_snores_8 : decode cX10_snores 8 = .ok (.aload_n 0, 1) := by decide +kernel
theorem dX10_snores_9 : decode cX10_snores 9 = .ok (.getfield 19, 3) := by decide +kernel
theorem dX10_snores_12 : decode cX10_snores 12 = .ok (.iconst 4, 1) := by decide +kernel
theorem dX10_snores_13 : decode cX10_snores 13 = .ok (.iload_n 1, 1) := by decide +kernel
theorem dX10_snores_14 : decode cX10_snores 14 = .ok (.imul, 1) := by decide +kernel
theorem dX10_snores_15 : decode cX10_snores 15 = .ok (.iaload, 1) := by decide +kernel
theorem dX10_snores_16 : decode cX10_snores 16 = .ok (.iconst 3, 1) := by decide +kernel
theorem dX10_snores_17 : decode cX10_snores 17 = .ok (.if_icmp .ne 20, 3) := by decide +kernel
theorem dX10_snores_20 : decode cX10_snores 20 = .ok (.aload_n 0, 1) := by decide +kernel
theorem dX10_snores_21 : decode cX10_snores 21 = .ok (.getfield 25, 3) := by decide +kernel
theorem dX10_snores_24 : decode cX10_snores 24 = .ok (.iload_n 1, 1) := by decide +kernel
theorem dX10_snores_25 : decode cX10_snores 25 = .ok (.iaload, 1) := by decide +kernel
theorem dX10_snores_26 : decode cX10_snores 26 = .ok (.aload_n 0, 1) := by decide +kernel
theorem dX10_snores_27 : decode cX10_snores 27 = .ok (.getfield 94, 3) := by decide +kernel
theorem dX10_snores_30 : decode cX10_snores 30 = .ok (.if_icmp .lt 7, 3) := by decide +kernel
theorem dX10_snores_33 : decode cX10_snores 33 = .ok (.iconst 1, 1) := by decide +kernel
theorem dX10_snores_34 : decode cX10_snores 34 = .ok (.goto 4, 3) := by decide +kernel
theorem dX10_snores_37 : decode cX10_snores 37 = .ok (.iconst 0, 1) := by decide +kernel
theorem dX10_snores_38 : decode cX10_snores 38 = .ok (.ireturn, 1) := by decide +kernel
theorem dX10_plays_0 : decode cX10_plays 0 = .ok (.aload_n 0, 1) := by decide +kernel
theorem dX10_plays_1 : decode cX10_plays 1 = .ok (.iload_n 1, 1) := by decide +kernel
theorem dX10_plays_2 : decode cX10_plays 2 = .ok (.invokevirtual 128, 3) := by decide +kernel
theorem dX10_plays_5 : decode cX10_plays 5 = .ok (.istore_n 2, 1) := by decide +kernel
theorem dX10_plays_6 : decode cX10_plays 6 = .ok (.aload_n 0, 1) := by decide +kernel
theorem dX10_plays_7 : decode cX10_plays 7 = .ok (.getfield 16, 3) := by decide +kernel
theorem dX10_plays_10 : decode cX10_plays 10 = .ok (.iconst 2, 1) := by decide +kernel
theorem dX10_plays_11 : decode cX10_plays 11 = .ok (.iload_n 1, 1) := by decide +kernel
theorem dX10_plays_12 : decode cX10_plays 12 = .ok (.imul, 1) := by decide +kernel
theorem dX10_plays_13 : decode cX10_plays 13 = .ok (.iaload, 1) := by decide +kernel
theorem dX10_plays_14 : decode cX10_plays 14 = .ok (.istore_n 3, 1) := by decide +kernel
theorem dX10_plays_15 : decode cX10_plays 15 = .ok (.iconst 0, 1) := by decide +kernel
theorem dX10_plays_16 : decode cX10_plays 16 = .ok (.istore 4, 2) := by decide +kernel
theorem dX10_plays_18 : decode cX10_plays 18 = .ok (.iload 4, 2) := by decide +kernel
theorem dX10_plays_20 : decode cX10_plays 20 = .ok (.aload_n 0, 1) := by decide +kernel
theorem dX10_plays_21 : decode cX10_plays 21 = .ok (.getfield 103, 3) := by decide +kernel
theorem dX10_plays_24 : decode cX10_plays 24 = .ok (.if_icmp .ge 135, 3) := by decide +kernel
theorem dX10_plays_27 : decode cX10_plays 27 = .ok (.aload_n 0, 1) := by decide +kernel
theorem dX10_plays_28 : decode cX10_plays 28 = .ok (.getfield 25, 3) := by decide +kernel
theorem dX10_plays_31 : decode cX10_plays 31 = .ok (.iload 4, 2) := by decide +kernel
theorem dX10_plays_33 : decode cX10_plays 33 = .ok (.iaload, 1) := by decide +kernel
theorem dX10_plays_34 : decode cX10_plays 34 = .ok (.aload_n 0, 1) := by decide +kernel
theorem dX10_plays_35 : decode cX10_plays 35 = .ok (.getfield 28, 3) := by decide +kernel
theorem dX10_plays_38 : decode cX10_plays 38 = .ok (.iload 4, 2) := by decide +kernel
theorem dX10_plays_40 : decode cX10_plays 40 = .ok (.iaload, 1) := by decide +kernel
theorem dX10_plays_41 : decode cX10_plays 41 = .ok (.ifCond .le 7, 3) := by decide +kernel
theorem dX10_plays_44 : decode cX10_plays 44 = .ok (.iconst 1, 1) := by decide +kernel
theorem dX10_plays_45 : decode cX10_plays 45 = .ok (.goto 4, 3) := by decide +kernel
theorem dX10_plays_48 : decode cX10_plays 48 = .ok (.iconst 0, 1) := by decide +kernel
theorem dX10_plays_49 : decode cX10_plays 49 = .ok (.iadd, 1) := by decide +kernel
theorem dX10_plays_50 : decode cX10_plays 50 = .ok (.iload_n 3, 1) := by decide +kernel
theorem dX10_plays_51 : decode cX10_plays 51 = .ok (.ifCond .ne 7, 3) := by decide +kernel
theorem dX10_plays_54 : decode cX10_plays 54 = .ok (.iconst 2, 1) := by decide +kernel
theorem dX10_plays_55 : decode cX10_plays 55 = .ok (.goto 23, 3) := by decide +kernel
theorem dX10_plays_58 : decode cX10_plays 58 = .ok (.iload_n 3, 1) := by decide +kernel
theorem dX10_plays_59 : decode cX10_plays 59 = .ok (.iconst 1, 1) := by decide +kernel
theorem dX10_plays_60 : decode cX10_plays 60 = .ok (.if_icmp .ne 7, 3) := by decide +kernel
theorem dX10_plays_63 : decode cX10_plays 63 = .ok (.iconst (-1), 1) := by decide +kernel
theorem dX10_plays_64 : decode cX10_plays 64 = .ok (.goto 14, 3) := by decide +kernel
theorem dX10_plays_67 : decode cX10_plays 67 = .ok (.iload_n 3, 1) := by decide +kernel
theorem dX10_plays_68 : decode cX10_plays 68 = .ok (.iconst 2, 1) := by decide +kernel
theorem dX10_plays_69 : decode cX10_plays 69 = .ok (.if_icmp .ne 8, 3) := by decide +kernel
theorem dX10_plays_72 : decode cX10_plays 72 = .ok (.bipush (-3), 2) := by decide +kernel
theorem dX10_plays_74 : decode cX10_plays 74 = .ok (.goto 4, 3) := by decide +kernel
theorem dX10_plays_77 : decode cX10_plays 77 = .ok (.iconst 1, 1) := by decide +kernel
theorem dX10_plays_78 : decode cX10_plays 78 = .ok (.iadd, 1) := by decide +kernel
theorem dX10_plays_79 : decode cX10_plays 79 = .ok (.istore 5, 2) := by decide +kernel
theorem dX10_plays_81 : decode cX10_plays 81 = .ok (.iload 5, 2) := by decide +kernel
theorem dX10_plays_83 : decode cX10_plays 83 = .ok (.aload_n 0, 1) := by decide +kernel
theorem dX10_plays_84 : decode cX10_plays 84 = .ok (.iload 4, 2) := by decide +kernel
theorem dX10_plays_86 : decode cX10_plays 86 = .ok (.iconst 1, 1) := by decide +kernel
theorem dX10_plays_87 : decode cX10_plays 87 = .ok (.isub, 1) := by decide +kernel
theorem dX10_plays_88 : decode cX10_plays 88 = .ok (.invokevirtual 131, 3) := by decide +kernel
theorem dX10_plays_91 : decode cX10_plays 91 = .ok (.ifCond .eq 7, 3) := by decide +kernel
theorem dX10_plays_94 : decode cX10_plays 94 = .ok (.iconst 1, 1) := by decide +kernel
theorem dX10_plays_95 : decode cX10_plays 95 = .ok (.goto 4, 3) := by decide +kernel
theorem dX10_plays_98 : decode cX10_plays 98 = .ok (.iconst 0, 1) := by decide +kernel
theorem dX10_plays_99 : decode cX10_plays 99 = .ok (.isub, 1) := by decide +kernel
theorem dX10_plays_100 : decode cX10_plays 100 = .ok (.istore 5, 2) := by decide +kernel
theorem dX10_plays_102 : decode cX10_plays 102 = .ok (.iload 5, 2) := by decide +kernel
theorem dX10_plays_104 : decode cX10_plays 104 = .ok (.aload_n 0, 1) := by decide +kernel
theorem dX10_plays_105 : decode cX10_plays 105 = .ok (.iload 4, 2) := by decide +kernel
theorem dX10_plays_107 : decode cX10_plays 107 = .ok (.iconst 1, 1) := by decide +kernel
theorem dX10_plays_108 : decode cX10_plays 108 = .ok (.iadd, 1) := by decide +kernel
theorem dX10_plays_109 : decode cX10_plays 109 = .ok (.invokevirtual 131, 3) := by decide +kernel
theorem dX10_plays_112 : decode cX10_plays 112 = .ok (.ifCond .eq 7, 3) := by decide +kernel
theorem dX10_plays_115 : decode cX10_plays 115 = .ok (.iconst 1, 1) := by decide +kernel
theorem dX10_plays_116 : decode cX10_plays 116 = .ok (.goto 4, 3) := by decide +kernel
theorem dX10_plays_119 : decode cX10_plays 119 = .ok (.iconst 0, 1) := by decide +kernel
theorem dX10_plays_120 : decode cX10_plays 120 = .ok (.isub, 1) := by decide +kernel
theorem dX10_plays_121 : decode cX10_plays 121 = .ok (.istore 5, 2) := by decide +kernel
theorem dX10_plays_123 : decode cX10_plays 123 = .ok (.aload_n 0, 1) := by decide +kernel
theorem dX10_plays_124 : decode cX10_plays 124 = .ok (.getfield 31, 3) := by decide +kernel
theorem dX10_plays_127 : decode cX10_plays 127 = .ok (.iload 4, 2) := by decide +kernel
theorem dX10_plays_129 : decode cX10_plays 129 = .ok (.iload 5, 2) := by decide +kernel
theorem dX10_plays_131 : decode cX10_plays 131 = .ok (.ifCond .ge 7, 3) := by decide +kernel
theorem dX10_plays_134 : decode cX10_plays 134 = .ok (.iconst 0, 1) := by decide +kernel
theorem dX10_plays_135 : decode cX10_plays 135 = .ok (.goto 17, 3) := by decide +kernel
theorem dX10_plays_138 : decode cX10_plays 138 = .ok (.iload 5, 2) := by decide +kernel
theorem dX10_plays_140 : decode cX10_plays 140 = .ok (.bipush 9, 2) := by decide +kernel
theorem dX10_plays_142 : decode cX10_plays 142 = .ok (.if_icmp .le 8, 3) := by decide +kernel
theorem dX10_plays_145 : decode cX10_plays 145 = .ok (.bipush 9, 2) := by decide +kernel
theorem dX10_plays_147 : decode cX10_plays 147 = .ok (.goto 5, 3) := by decide +kernel
theorem dX10_plays_150 : decode cX10_plays 150 = .ok (.iload 5, 2) := by decide +kernel
theorem dX10_plays_152 : decode cX10_plays 152 = .ok (.iastore, 1) := by decide +kernel
theorem dX10_plays_153 : decode cX10_plays 153 = .ok (.iinc 4 1, 3) := by decide +kernel
theorem dX10_plays_156 : decode cX10_plays 156 = .ok (.goto (-138), 3) := by decide +kernel
theorem dX10_plays_159 : decode cX10_plays 159 = .ok (.iconst 0, 1) := by decide +kernel
theorem dX10_plays_160 : decode cX10_plays 160 = .ok (.istore 4, 2) := by decide +kernel
theorem dX10_plays_162 : decode cX10_plays 162 = .ok (.iload 4, 2) := by decide +kernel
theorem dX10_plays_164 : decode cX10_plays 164 = .ok (.aload_n 0, 1) := by decide +kernel
theorem dX10_plays_165 : decode cX10_plays 165 = .ok (.getfield 103, 3) := by decide +kernel
theorem dX10_plays_168 : decode cX10_plays 168 = .ok (.if_icmp .ge 23, 3) := by decide +kernel
theorem dX10_plays_171 : decode cX10_plays 171 = .ok (.aload_n 0, 1) := by decide +kernel
theorem dX10_plays_172 : decode cX10_plays 172 = .ok (.getfield 25, 3) := by decide +kernel
theorem dX10_plays_175 : decode cX10_plays 175 = .ok (.iload 4, 2) := by decide +kernel
theorem dX10_plays_177 : decode cX10_plays 177 = .ok (.aload_n 0, 1) := by decide +kernel
theorem dX10_plays_178 : decode cX10_plays 178 = .ok (.getfield 31, 3) := by decide +kernel
theorem dX10_plays_181 : decode cX10_plays 181 = .ok (.iload 4, 2) := by decide +kernel
theorem dX10_plays_183 : decode cX10_plays 183 = .ok (.iaload, 1) := by decide +kernel
theorem dX10_plays_184 : decode cX10_plays 184 = .ok (.iastore, 1) := by decide +kernel
theorem dX10_plays_185 : decode cX10_plays 185 = .ok (.iinc 4 1, 3) := by decide +kernel
theorem dX10_plays_188 : decode cX10_plays 188 = .ok (.goto (-26), 3) := by decide +kernel
theorem dX10_plays_191 : decode cX10_plays 191 = .ok (.iload_n 2, 1) := by decide +kernel
theorem dX10_plays_192 : decode cX10_plays 192 = .ok (.ireturn, 1) := by decide +kernel
theorem dX10_drinks_0 : decode cX10_drinks 0 = .ok (.aload_n 0, 1) := by decide +kernel
theorem dX10_drinks_1 : decode cX10_drinks 1 = .ok (.getfield 25, 3) := by decide +kernel
theorem dX10_drinks_4 : decode cX10_drinks 4 = .ok (.iload_n 1, 1) := by decide +kernel
theorem dX10_drinks_5 : decode cX10_drinks 5 = .ok (.aload_n 0, 1) := by decide +kernel
theorem dX10_drinks_6 : decode cX10_drinks 6 = .ok (.getfield 25, 3) := by decide +kernel
theorem dX10_drinks_9 : decode cX10_drinks 9 = .ok (.iload_n 1, 1) := by decide +kernel
theorem dX10_drinks_10 : decode cX10_drinks 10 = .ok (.iaload, 1) := by decide +kernel
theorem dX10_drinks_11 : decode cX10_drinks 11 = .ok (.iconst 4, 1) := by decide +kernel
theorem dX10_drinks_12 : decode cX10_drinks 12 = .ok (.if_icmp .ge 7, 3) := by decide +kernel
theorem dX10_drinks_15 : decode cX10_drinks 15 = .ok (.iconst 0, 1) := by decide +kernel
theorem dX10_drinks_16 : decode cX10_drinks 16 = .ok (.goto 11, 3) := by decide +kernel
theorem dX10_drinks_19 : decode cX10_drinks 19 = .ok (.aload_n 0, 1) := by decide +kernel
theorem dX10_drinks_20 : decode cX10_drinks 20 = .ok (.getfield 25, 3) := by decide +kernel
theorem dX10_drinks_23 : decode cX10_drinks 23 = .ok (.iload_n 1, 1) := by decide +kernel
theorem dX10_drinks_24 : decode cX10_drinks 24 = .ok (.iaload, 1) := by decide +kernel
theorem dX10_drinks_25 : decode cX10_drinks 25 = .ok (.iconst 4, 1) := by decide +kernel
theorem dX10_drinks_26 : decode cX10_drinks 26 = .ok (.isub, 1) := by decide +kernel
theorem dX10_drinks_27 : decode cX10_drinks 27 = .ok (.iastore, 1) := by decide +kernel
theorem dX10_drinks_28 : decode cX10_drinks 28 = .ok (.return_, 1) := by decide +kernel
theorem dX10_lostIn_0 : decode cX10_lostIn 0 = .ok (.iconst 0, 1) := by decide +kernel
theorem dX10_lostIn_1 : decode cX10_lostIn 1 = .ok (.istore_n 2, 1) := by decide +kernel
theorem dX10_lostIn_2 : decode cX10_lostIn 2 = .ok (.iconst 0, 1) := by decide +kernel
theorem dX10_lostIn_3 : decode cX10_lostIn 3 = .ok (.istore_n 3, 1) := by decide +kernel
theorem dX10_lostIn_4 : decode cX10_lostIn 4 = .ok (.iload_n 3, 1) := by decide +kernel
theorem dX10_lostIn_5 : decode cX10_lostIn 5 = .ok (.iload_n 1, 1) := by decide +kernel
theorem dX10_lostIn_6 : decode cX10_lostIn 6 = .ok (.if_icmp .gt 15, 3) := by decide +kernel
theorem dX10_lostIn_9 : decode cX10_lostIn 9 = .ok (.aload_n 0, 1) := by decide +kernel
theorem dX10_lostIn_10 : decode cX10_lostIn 10 = .ok (.iload_n 3, 1) := by decide +kernel
theorem dX10_lostIn_11 : decode cX10_lostIn 11 = .ok (.invokevirtual 134, 3) := by decide +kernel
theorem dX10_lostIn_14 : decode cX10_lostIn 14 = .ok (.istore_n 2, 1) := by decide +kernel
theorem dX10_lostIn_15 : decode cX10_lostIn 15 = .ok (.iinc 3 1, 3) := by decide +kernel
theorem dX10_lostIn_18 : decode cX10_lostIn 18 = .ok (.goto (-14), 3) := by decide +kernel
theorem dX10_lostIn_21 : decode cX10_lostIn 21 = .ok (.iload_n 2, 1) := by decide +kernel
theorem dX10_lostIn_22 : decode cX10_lostIn 22 = .ok (.ireturn, 1) := by decide +kernel
theorem dX10_toldOf_0 : decode cX10_toldOf 0 = .ok (.iconst (-1), 1) := by decide +kernel
theorem dX10_toldOf_1 : decode cX10_toldOf 1 = .ok (.istore_n 2, 1) := by decide +kernel
theorem dX10_toldOf_2 : decode cX10_toldOf 2 = .ok (.iconst 0, 1) := by decide +kernel
theorem dX10_toldOf_3 : decode cX10_toldOf 3 = .ok (.istore_n 3, 1) := by decide +kernel
theorem dX10_toldOf_4 : decode cX10_toldOf 4 = .ok (.iload_n 3, 1) := by decide +kernel
theorem dX10_toldOf_5 : decode cX10_toldOf 5 = .ok (.aload_n 0, 1) := by decide +kernel
theorem dX10_toldOf_6 : decode cX10_toldOf 6 = .ok (.getfield 106, 3) := by decide +kernel
theorem dX10_toldOf_9 : decode cX10_toldOf 9 = .ok (.if_icmp .ge 36, 3) := by decide +kernel
theorem dX10_toldOf_12 : decode cX10_toldOf 12 = .ok (.aload_n 0, 1) := by decide +kernel
theorem dX10_toldOf_13 : decode cX10_toldOf 13 = .ok (.getfield 22, 3) := by decide +kernel
theorem dX10_toldOf_16 : decode cX10_toldOf 16 = .ok (.iconst 2, 1) := by decide +kernel
theorem dX10_toldOf_17 : decode cX10_toldOf 17 = .ok (.iload_n 3, 1) := by decide +kernel
theorem dX10_toldOf_18 : decode cX10_toldOf 18 = .ok (.imul, 1) := by decide +kernel
theorem dX10_toldOf_19 : decode cX10_toldOf 19 = .ok (.iaload, 1) := by decide +kernel
theorem dX10_toldOf_20 : decode cX10_toldOf 20 = .ok (.iload_n 1, 1) := by decide +kernel
theorem dX10_toldOf_21 : decode cX10_toldOf 21 = .ok (.if_icmp .ne 16, 3) := by decide +kernel
theorem dX10_toldOf_24 : decode cX10_toldOf 24 = .ok (.aload_n 0, 1) := by decide +kernel
theorem dX10_toldOf_25 : decode cX10_toldOf 25 = .ok (.getfield 22, 3) := by decide +kernel
theorem dX10_toldOf_28 : decode cX10_toldOf 28 = .ok (.iconst 2, 1) := by decide +kernel
theorem dX10_toldOf_29 : decode cX10_toldOf 29 = .ok (.iload_n 3, 1) := by decide +kernel
theorem dX10_toldOf_30 : decode cX10_toldOf 30 = .ok (.imul, 1) := by decide +kernel
theorem dX10_toldOf_31 : decode cX10_toldOf 31 = .ok (.iconst 1, 1) := by decide +kernel
theorem dX10_toldOf_32 : decode cX10_toldOf 32 = .ok (.iadd, 1) := by decide +kernel
theorem dX10_toldOf_33 : decode cX10_toldOf 33 = .ok (.iaload, 1) := by decide +kernel
theorem dX10_toldOf_34 : decode cX10_toldOf 34 = .ok (.goto 4, 3) := by decide +kernel
theorem dX10_toldOf_37 : decode cX10_toldOf 37 = .ok (.iload_n 2, 1) := by decide +kernel
theorem dX10_toldOf_38 : decode cX10_toldOf 38 = .ok (.istore_n 2, 1) := by decide +kernel
theorem dX10_toldOf_39 : decode cX10_toldOf 39 = .ok (.iinc 3 1, 3) := by decide +kernel
theorem dX10_toldOf_42 : decode cX10_toldOf 42 = .ok (.goto (-38), 3) := by decide +kernel
theorem dX10_toldOf_45 : decode cX10_toldOf 45 = .ok (.iload_n 2, 1) := by decide +kernel
theorem dX10_toldOf_46 : decode cX10_toldOf 46 = .ok (.ireturn, 1) := by decide +kernel
theorem dX10_tellBar_0 : decode cX10_tellBar 0 = .ok (.iload_n 2, 1) := by decide +kernel
theorem dX10_tellBar_1 : decode cX10_tellBar 1 = .ok (.tableswitch 58 0 3 #[31, 31, 42, 52], 31) := by decide +kernel
theorem dX10_tellBar_32 : decode cX10_tellBar 32 = .ok (.aload_n 0, 1) := by decide +kernel
theorem dX10_tellBar_33 : decode cX10_tellBar 33 = .ok (.getfield 16, 3) := by decide +kernel
theorem dX10_tellBar_36 : decode cX10_tellBar 36 = .ok (.iconst 2, 1) := by decide +kernel
theorem dX10_tellBar_37 : decode cX10_tellBar 37 = .ok (.iload_n 1, 1) := by decide +kernel
theorem dX10_tellBar_38 : decode cX10_tellBar 38 = .ok (.imul, 1) := by decide +kernel
theorem dX10_tellBar_39 : decode cX10_tellBar 39 = .ok (.iload_n 2, 1) := by decide +kernel
theorem dX10_tellBar_40 : decode cX10_tellBar 40 = .ok (.iadd, 1) := by decide +kernel
theorem dX10_tellBar_41 : decode cX10_tellBar 41 = .ok (.iaload, 1) := by decide +kernel
theorem dX10_tellBar_42 : decode cX10_tellBar 42 = .ok (.ireturn, 1) := by decide +kernel
theorem dX10_tellBar_43 : decode cX10_tellBar 43 = .ok (.aload_n 0, 1) := by decide +kernel
theorem dX10_tellBar_44 : decode cX10_tellBar 44 = .ok (.invokevirtual 137, 3) := by decide +kernel
theorem dX10_tellBar_47 : decode cX10_tellBar 47 = .ok (.aload_n 0, 1) := by decide +kernel
theorem dX10_tellBar_48 : decode cX10_tellBar 48 = .ok (.iload_n 1, 1) := by decide +kernel
theorem dX10_tellBar_49 : decode cX10_tellBar 49 = .ok (.invokevirtual 140, 3) := by decide +kernel
theorem dX10_tellBar_52 : decode cX10_tellBar 52 = .ok (.ireturn, 1) := by decide +kernel
theorem dX10_tellBar_53 : decode cX10_tellBar 53 = .ok (.aload_n 0, 1) := by decide +kernel
theorem dX10_tellBar_54 : decode cX10_tellBar 54 = .ok (.iload_n 1, 1) := by decide +kernel
theorem dX10_tellBar_55 : decode cX10_tellBar 55 = .ok (.invokevirtual 143, 3) := by decide +kernel
theorem dX10_tellBar_58 : decode cX10_tellBar 58 = .ok (.ireturn, 1) := by decide +kernel
theorem dX10_tellBar_59 : decode cX10_tellBar 59 = .ok (.bipush (-102), 2) := by decide +kernel
theorem dX10_tellBar_61 : decode cX10_tellBar 61 = .ok (.ireturn, 1) := by decide +kernel
theorem dX10_bar_0 : decode cX10_bar 0 = .ok (.aload_n 0, 1) := by decide +kernel
theorem dX10_bar_1 : decode cX10_bar 1 = .ok (.iload_n 1, 1) := by decide +kernel
theorem dX10_bar_2 : decode cX10_bar 2 = .ok (.invokevirtual 146, 3) := by decide +kernel
theorem dX10_bar_5 : decode cX10_bar 5 = .ok (.ifCond .eq 12, 3) := by decide +kernel
theorem dX10_bar_8 : decode cX10_bar 8 = .ok (.aload_n 0, 1) := by decide +kernel
theorem dX10_bar_9 : decode cX10_bar 9 = .ok (.iload_n 1, 1) := by decide +kernel
theorem dX10_bar_10 : decode cX10_bar 10 = .ok (.iload_n 2, 1) := by decide +kernel
theorem dX10_bar_11 : decode cX10_bar 11 = .ok (.invokevirtual 149, 3) := by decide +kernel
theorem dX10_bar_14 : decode cX10_bar 14 = .ok (.goto 5, 3) := by decide +kernel
theorem dX10_bar_17 : decode cX10_bar 17 = .ok (.bipush (-101), 2) := by decide +kernel
theorem dX10_bar_19 : decode cX10_bar 19 = .ok (.ireturn, 1) := by decide +kernel
theorem dX10_takesNext_0 : decode cX10_takesNext 0 = .ok (.aload_n 0, 1) := by decide +kernel
theorem dX10_takesNext_1 : decode cX10_takesNext 1 = .ok (.getfield 97, 3) := by decide +kernel
theorem dX10_takesNext_4 : decode cX10_takesNext 4 = .ok (.aload_n 0, 1) := by decide +kernel
theorem dX10_takesNext_5 : decode cX10_takesNext 5 = .ok (.getfield 91, 3) := by decide +kernel
theorem dX10_takesNext_8 : decode cX10_takesNext 8 = .ok (.if_icmp .ne 5, 3) := by decide +kernel
theorem dX10_takesNext_11 : decode cX10_takesNext 11 = .ok (.iconst 0, 1) := by decide +kernel
theorem dX10_takesNext_12 : decode cX10_takesNext 12 = .ok (.ireturn, 1) := by decide +kernel
theorem dX10_takesNext_13 : decode cX10_takesNext 13 = .ok (.aload_n 0, 1) := by decide +kernel
theorem dX10_takesNext_14 : decode cX10_takesNext 14 = .ok (.aload_n 0, 1) := by decide +kernel
theorem dX10_takesNext_15 : decode cX10_takesNext 15 = .ok (.getfield 97, 3) := by decide +kernel
theorem dX10_takesNext_18 : decode cX10_takesNext 18 = .ok (.invokevirtual 128, 3) := by decide +kernel
theorem dX10_takesNext_21 : decode cX10_takesNext 21 = .ok (.istore_n 2, 1) := by decide +kernel
theorem dX10_takesNext_22 : decode cX10_takesNext 22 = .ok (.aload_n 0, 1) := by decide +kernel
theorem dX10_takesNext_23 : decode cX10_takesNext 23 = .ok (.getfield 28, 3) := by decide +kernel
theorem dX10_takesNext_26 : decode cX10_takesNext 26 = .ok (.iload_n 1, 1) := by decide +kernel
theorem dX10_takesNext_27 : decode cX10_takesNext 27 = .ok (.iaload, 1) := by decide +kernel
theorem dX10_takesNext_28 : decode cX10_takesNext 28 = .ok (.ireturn, 1) := by decide +kernel
theorem dX10_tellPlayer_0 : decode cX10_tellPlayer 0 = .ok (.aload_n 0, 1) := by decide +kernel
theorem dX10_tellPlayer_1 : decode cX10_tellPlayer 1 = .ok (.invokevirtual 137, 3) := by decide +kernel
theorem dX10_tellPlayer_4 : decode cX10_tellPlayer 4 = .ok (.iload_n 2, 1) := by decide +kernel
theorem dX10_tellPlayer_5 : decode cX10_tellPlayer 5 = .ok (.tableswitch 101 0 6 #[43, 43, 54, 68, 82, 88, 88], 43) := by decide +kernel
theorem dX10_tellPlayer_48 : decode cX10_tellPlayer 48 = .ok (.aload_n 0, 1) := by decide +kernel
theorem dX10_tellPlayer_49 : decode cX10_tellPlayer 49 = .ok (.getfield 19, 3) := by decide +kernel
theorem dX10_tellPlayer_52 : decode cX10_tellPlayer 52 = .ok (.iconst 4, 1) := by decide +kernel
theorem dX10_tellPlayer_53 : decode cX10_tellPlayer 53 = .ok (.iload_n 1, 1) := by decide +kernel
theorem dX10_tellPlayer_54 : decode cX10_tellPlayer 54 = .ok (.imul, 1) := by decide +kernel
theorem dX10_tellPlayer_55 : decode cX10_tellPlayer 55 = .ok (.iload_n 2, 1) := by decide +kernel
theorem dX10_tellPlayer_56 : decode cX10_tellPlayer 56 = .ok (.iadd, 1) := by decide +kernel
theorem dX10_tellPlayer_57 : decode cX10_tellPlayer 57 = .ok (.iaload, 1) := by decide +kernel
theorem dX10_tellPlayer_58 : decode cX10_tellPlayer 58 = .ok (.ireturn, 1) := by decide +kernel
theorem dX10_tellPlayer_59 : decode cX10_tellPlayer 59 = .ok (.aload_n 0, 1) := by decide +kernel
theorem dX10_tellPlayer_60 : decode cX10_tellPlayer 60 = .ok (.iload_n 1, 1) := by decide +kernel
theorem dX10_tellPlayer_61 : decode cX10_tellPlayer 61 = .ok (.invokevirtual 119, 3) := by decide +kernel
theorem dX10_tellPlayer_64 : decode cX10_tellPlayer 64 = .ok (.ifCond .eq 7, 3) := by decide +kernel
theorem dX10_tellPlayer_67 : decode cX10_tellPlayer 67 = .ok (.iconst 1, 1) := by decide +kernel
theorem dX10_tellPlayer_68 : decode cX10_tellPlayer 68 = .ok (.goto 4, 3) := by decide +kernel
theorem dX10_tellPlayer_71 : decode cX10_tellPlayer 71 = .ok (.iconst 0, 1) := by decide +kernel
theorem dX10_tellPlayer_72 : decode cX10_tellPlayer 72 = .ok (.ireturn, 1) := by decide +kernel
theorem dX10_tellPlayer_73 : decode cX10_tellPlayer 73 = .ok (.aload_n 0, 1) := by decide +kernel
theorem dX10_tellPlayer_74 : decode cX10_tellPlayer 74 = .ok (.iload_n 1, 1) := by decide +kernel
theorem dX10_tellPlayer_75 : decode cX10_tellPlayer 75 = .ok (.invokevirtual 122, 3) := by decide +kernel
theorem dX10_tellPlayer_78 : decode cX10_tellPlayer 78 = .ok (.ifCond .eq 7, 3) := by decide +kernel
theorem dX10_tellPlayer_81 : decode cX10_tellPlayer 81 = .ok (.iconst 1, 1) := by decide +kernel
theorem dX10_tellPlayer_82 : decode cX10_tellPlayer 82 = .ok (.goto 4, 3) := by decide +kernel
theorem dX10_tellPlayer_85 : decode cX10_tellPlayer 85 = .ok (.iconst 0, 1) := by decide +kernel
theorem dX10_tellPlayer_86 : decode cX10_tellPlayer 86 = .ok (.ireturn, 1) := by decide +kernel
theorem dX10_tellPlayer_87 : decode cX10_tellPlayer 87 = .ok (.aload_n 0, 1) := by decide +kernel
theorem dX10_tellPlayer_88 : decode cX10_tellPlayer 88 = .ok (.iload_n 1, 1) := by decide +kernel
theorem dX10_tellPlayer_89 : decode cX10_tellPlayer 89 = .ok (.invokevirtual 153, 3) := by decide +kernel
theorem dX10_tellPlayer_92 : decode cX10_tellPlayer 92 = .ok (.ireturn, 1) := by decide +kernel
theorem dX10_tellPlayer_93 : decode cX10_tellPlayer 93 = .ok (.aload_n 0, 1) := by decide +kernel
theorem dX10_tellPlayer_94 : decode cX10_tellPlayer 94 = .ok (.getfield 19, 3) := by decide +kernel
theorem dX10_tellPlayer_97 : decode cX10_tellPlayer 97 = .ok (.iconst 4, 1) := by decide +kernel
theorem dX10_tellPlayer_98 : decode cX10_tellPlayer 98 = .ok (.iload_n 1, 1) := by decide +kernel
theorem dX10_tellPlayer_99 : decode cX10_tellPlayer 99 = .ok (.imul, 1) := by decide +kernel
theorem dX10_tellPlayer_100 : decode cX10_tellPlayer 100 = .ok (.iload_n 2, 1) := by decide +kernel
theorem dX10_tellPlayer_101 : decode cX10_tellPlayer 101 = .ok (.iadd, 1) := by decide +kernel
theorem dX10_tellPlayer_102 : decode cX10_tellPlayer 102 = .ok (.iconst 3, 1) := by decide +kernel
theorem dX10_tellPlayer_103 : decode cX10_tellPlayer 103 = .ok (.isub, 1) := by decide +kernel
theorem dX10_tellPlayer_104 : decode cX10_tellPlayer 104 = .ok (.iaload, 1) := by decide +kernel
theorem dX10_tellPlayer_105 : decode cX10_tellPlayer 105 = .ok (.ireturn, 1) := by decide +kernel
theorem dX10_tellPlayer_106 : decode cX10_tellPlayer 106 = .ok (.bipush (-102), 2) := by decide +kernel
theorem dX10_tellPlayer_108 : decode cX10_tellPlayer 108 = .ok (.ireturn, 1) := by decide +kernel
theorem dX10_about_0 : decode cX10_about 0 = .ok (.aload_n 0, 1) := by decide +kernel
theorem dX10_about_1 : decode cX10_about 1 = .ok (.iload_n 1, 1) := by decide +kernel
theorem dX10_about_2 : decode cX10_about 2 = .ok (.invokevirtual 116, 3) := by decide +kernel
theorem dX10_about_5 : decode cX10_about 5 = .ok (.ifCond .eq 12, 3) := by decide +kernel
theorem dX10_about_8 : decode cX10_about 8 = .ok (.aload_n 0, 1) := by decide +kernel
theorem dX10_about_9 : decode cX10_about 9 = .ok (.iload_n 1, 1) := by decide +kernel
theorem dX10_about_10 : decode cX10_about 10 = .ok (.iload_n 2, 1) := by decide +kernel
theorem dX10_about_11 : decode cX10_about 11 = .ok (.invokevirtual 156, 3) := by decide +kernel
theorem dX10_about_14 : decode cX10_about 14 = .ok (.goto 5, 3) := by decide +kernel
theorem dX10_about_17 : decode cX10_about 17 = .ok (.bipush (-101), 2) := by decide +kernel
theorem dX10_about_19 : decode cX10_about 19 = .ok (.ireturn, 1) := by decide +kernel
theorem dX10_as_0 : decode cX10_as 0 = .ok (.aload_n 0, 1) := by decide +kernel
theorem dX10_as_1 : decode cX10_as 1 = .ok (.iload_n 1, 1) := by decide +kernel
theorem dX10_as_2 : decode cX10_as 2 = .ok (.invokevirtual 116, 3) := by decide +kernel
theorem dX10_as_5 : decode cX10_as 5 = .ok (.ifCond .ne 6, 3) := by decide +kernel
theorem dX10_as_8 : decode cX10_as 8 = .ok (.bipush (-101), 2) := by decide +kernel
theorem dX10_as_10 : decode cX10_as 10 = .ok (.ireturn, 1) := by decide +kernel
theorem dX10_as_11 : decode cX10_as 11 = .ok (.iload_n 2, 1) := by decide +kernel
theorem dX10_as_12 : decode cX10_as 12 = .ok (.i2l, 1) := by decide +kernel
theorem dX10_as_13 : decode cX10_as 13 = .ok (.lconst 0, 1) := by decide +kernel
theorem dX10_as_14 : decode cX10_as 14 = .ok (.ldc2_w 72, 3) := by decide +kernel
theorem dX10_as_17 : decode cX10_as 17 = .ok (.invokestatic 55, 3) := by decide +kernel
theorem dX10_as_20 : decode cX10_as 20 = .ok (.ifCond .ne 6, 3) := by decide +kernel
theorem dX10_as_23 : decode cX10_as 23 = .ok (.bipush (-102), 2) := by decide +kernel
theorem dX10_as_25 : decode cX10_as 25 = .ok (.ireturn, 1) := by decide +kernel
theorem dX10_as_26 : decode cX10_as 26 = .ok (.aload_n 0, 1) := by decide +kernel
theorem dX10_as_27 : decode cX10_as 27 = .ok (.getfield 19, 3) := by decide +kernel
theorem dX10_as_30 : decode cX10_as 30 = .ok (.iconst 4, 1) := by decide +kernel
theorem dX10_as_31 : decode cX10_as 31 = .ok (.iload_n 1, 1) := by decide +kernel
theorem dX10_as_32 : decode cX10_as 32 = .ok (.imul, 1) := by decide +kernel
theorem dX10_as_33 : decode cX10_as 33 = .ok (.iaload, 1) := by decide +kernel
theorem dX10_as_34 : decode cX10_as 34 = .ok (.istore_n 3, 1) := by decide +kernel
theorem dX10_as_35 : decode cX10_as 35 = .ok (.iload_n 2, 1) := by decide +kernel
theorem dX10_as_36 : decode cX10_as 36 = .ok (.ifCond .eq 18, 3) := by decide +kernel
theorem dX10_as_39 : decode cX10_as 39 = .ok (.iload_n 2, 1) := by decide +kernel
theorem dX10_as_40 : decode cX10_as 40 = .ok (.iload_n 3, 1) := by decide +kernel
theorem dX10_as_41 : decode cX10_as 41 = .ok (.if_icmp .eq 13, 3) := by decide +kernel
theorem dX10_as_44 : decode cX10_as 44 = .ok (.iload_n 2, 1) := by decide +kernel
theorem dX10_as_45 : decode cX10_as 45 = .ok (.iconst 1, 1) := by decide +kernel
theorem dX10_as_46 : decode cX10_as 46 = .ok (.if_icmp .ne 12, 3) := by decide +kernel
theorem dX10_as_49 : decode cX10_as 49 = .ok (.iload_n 3, 1) := by decide +kernel
theorem dX10_as_50 : decode cX10_as 50 = .ok (.iconst 4, 1) := by decide +kernel
theorem dX10_as_51 : decode cX10_as 51 = .ok (.if_icmp .ne 7, 3) := by decide +kernel
theorem dX10_as_54 : decode cX10_as 54 = .ok (.iconst 1, 1) := by decide +kernel
theorem dX10_as_55 : decode cX10_as 55 = .ok (.goto 4, 3) := by decide +kernel
theorem dX10_as_58 : decode cX10_as 58 = .ok (.iconst 0, 1) := by decide +kernel
theorem dX10_as_59 : decode cX10_as 59 = .ok (.istore 4, 2) := by decide +kernel
theorem dX10_as_61 : decode cX10_as 61 = .ok (.iload 4, 2) := by decide +kernel
theorem dX10_as_63 : decode cX10_as 63 = .ok (.ifCond .eq 7, 3) := by decide +kernel
theorem dX10_as_66 : decode cX10_as 66 = .ok (.iload_n 1, 1) := by decide +kernel
theorem dX10_as_67 : decode cX10_as 67 = .ok (.goto 4, 3) := by decide +kernel
theorem dX10_as_70 : decode cX10_as 70 = .ok (.iconst (-1), 1) := by decide +kernel
theorem dX10_as_71 : decode cX10_as 71 = .ok (.ireturn, 1) := by decide +kernel
theorem dX10_layNow_0 : decode cX10_layNow 0 = .ok (.iconst 0, 1) := by decide +kernel
theorem dX10_layNow_1 : decode cX10_layNow 1 = .ok (.istore_n 1, 1) := by decide +kernel
theorem dX10_layNow_2 : decode cX10_layNow 2 = .ok (.iload_n 1, 1) := by decide +kernel
theorem dX10_layNow_3 : decode cX10_layNow 3 = .ok (.aload_n 0, 1) := by decide +kernel
theorem dX10_layNow_4 : decode cX10_layNow 4 = .ok (.getfield 103, 3) := by decide +kernel
theorem dX10_layNow_7 : decode cX10_layNow 7 = .ok (.if_icmp .ge 25, 3) := by decide +kernel
theorem dX10_layNow_10 : decode cX10_layNow 10 = .ok (.aload_n 0, 1) := by decide +kernel
theorem dX10_layNow_11 : decode cX10_layNow 11 = .ok (.getfield 19, 3) := by decide +kernel
theorem dX10_layNow_14 : decode cX10_layNow 14 = .ok (.iconst 4, 1) := by decide +kernel
theorem dX10_layNow_15 : decode cX10_layNow 15 = .ok (.iload_n 1, 1) := by decide +kernel
theorem dX10_layNow_16 : decode cX10_layNow 16 = .ok (.imul, 1) := by decide +kernel
theorem dX10_layNow_17 : decode cX10_layNow 17 = .ok (.iconst 1, 1) := by decide +kernel
theorem dX10_layNow_18 : decode cX10_layNow 18 = .ok (.iadd, 1) := by decide +kernel
theorem dX10_layNow_19 : decode cX10_layNow 19 = .ok (.aload_n 0, 1) := by decide +kernel
theorem dX10_layNow_20 : decode cX10_layNow 20 = .ok (.getfield 25, 3) := by decide +kernel
theorem dX10_layNow_23 : decode cX10_layNow 23 = .ok (.iload_n 1, 1) := by decide +kernel
theorem dX10_layNow_24 : decode cX10_layNow 24 = .ok (.iaload, 1) := by decide +kernel
theorem dX10_layNow_25 : decode cX10_layNow 25 = .ok (.iastore, 1) := by decide +kernel
theorem dX10_layNow_26 : decode cX10_layNow 26 = .ok (.iinc 1 1, 3) := by decide +kernel
theorem dX10_layNow_29 : decode cX10_layNow 29 = .ok (.goto (-27), 3) := by decide +kernel
theorem dX10_layNow_32 : decode cX10_layNow 32 = .ok (.return_, 1) := by decide +kernel
theorem dX10_coffee_0 : decode cX10_coffee 0 = .ok (.aload_n 0, 1) := by decide +kernel
theorem dX10_coffee_1 : decode cX10_coffee 1 = .ok (.iload_n 1, 1) := by decide +kernel
theorem dX10_coffee_2 : decode cX10_coffee 2 = .ok (.invokevirtual 116, 3) := by decide +kernel
theorem dX10_coffee_5 : decode cX10_coffee 5 = .ok (.ifCond .ne 6, 3) := by decide +kernel
theorem dX10_coffee_8 : decode cX10_coffee 8 = .ok (.bipush (-101), 2) := by decide +kernel
theorem dX10_coffee_10 : decode cX10_coffee 10 = .ok (.ireturn, 1) := by decide +kernel
theorem dX10_coffee_11 : decode cX10_coffee 11 = .ok (.aload_n 0, 1) := by decide +kernel
theorem dX10_coffee_12 : decode cX10_coffee 12 = .ok (.invokevirtual 137, 3) := by decide +kernel
theorem dX10_coffee_15 : decode cX10_coffee 15 = .ok (.aload_n 0, 1) := by decide +kernel
theorem dX10_coffee_16 : decode cX10_coffee 16 = .ok (.iload_n 1, 1) := by decide +kernel
theorem dX10_coffee_17 : decode cX10_coffee 17 = .ok (.invokevirtual 159, 3) := by decide +kernel
theorem dX10_coffee_20 : decode cX10_coffee 20 = .ok (.aload_n 0, 1) := by decide +kernel
theorem dX10_coffee_21 : decode cX10_coffee 21 = .ok (.invokevirtual 163, 3) := by decide +kernel
theorem dX10_coffee_24 : decode cX10_coffee 24 = .ok (.aload_n 0, 1) := by decide +kernel
theorem dX10_coffee_25 : decode cX10_coffee 25 = .ok (.getfield 19, 3) := by decide +kernel
theorem dX10_coffee_28 : decode cX10_coffee 28 = .ok (.iconst 4, 1) := by decide +kernel
theorem dX10_coffee_29 : decode cX10_coffee 29 = .ok (.iload_n 1, 1) := by decide +kernel
theorem dX10_coffee_30 : decode cX10_coffee 30 = .ok (.imul, 1) := by decide +kernel
theorem dX10_coffee_31 : decode cX10_coffee 31 = .ok (.iconst 3, 1) := by decide +kernel
theorem dX10_coffee_32 : decode cX10_coffee 32 = .ok (.iadd, 1) := by decide +kernel
theorem dX10_coffee_33 : decode cX10_coffee 33 = .ok (.dup2, 1) := by decide +kernel
theorem dX10_coffee_34 : decode cX10_coffee 34 = .ok (.iaload, 1) := by decide +kernel
theorem dX10_coffee_35 : decode cX10_coffee 35 = .ok (.iconst 1, 1) := by decide +kernel
theorem dX10_coffee_36 : decode cX10_coffee 36 = .ok (.iadd, 1) := by decide +kernel
theorem dX10_coffee_37 : decode cX10_coffee 37 = .ok (.iastore, 1) := by decide +kernel
theorem dX10_coffee_38 : decode cX10_coffee 38 = .ok (.aload_n 0, 1) := by decide +kernel
theorem dX10_coffee_39 : decode cX10_coffee 39 = .ok (.getfield 25, 3) := by decide +kernel
theorem dX10_coffee_42 : decode cX10_coffee 42 = .ok (.iload_n 1, 1) := by decide +kernel
theorem dX10_coffee_43 : decode cX10_coffee 43 = .ok (.iaload, 1) := by decide +kernel
theorem dX10_coffee_44 : decode cX10_coffee 44 = .ok (.ireturn, 1) := by decide +kernel
theorem dX10_tire_0 : decode cX10_tire 0 = .ok (.aload_n 0, 1) := by decide +kernel
theorem dX10_tire_1 : decode cX10_tire 1 = .ok (.iload_n 1, 1) := by decide +kernel
theorem dX10_tire_2 : decode cX10_tire 2 = .ok (.invokevirtual 116, 3) := by decide +kernel
theorem dX10_tire_5 : decode cX10_tire 5 = .ok (.ifCond .ne 6, 3) := by decide +kernel
theorem dX10_tire_8 : decode cX10_tire 8 = .ok (.bipush (-101), 2) := by decide +kernel
theorem dX10_tire_10 : decode cX10_tire 10 = .ok (.ireturn, 1) := by decide +kernel
theorem dX10_tire_11 : decode cX10_tire 11 = .ok (.iload_n 2, 1) := by decide +kernel
theorem dX10_tire_12 : decode cX10_tire 12 = .ok (.i2l, 1) := by decide +kernel
theorem dX10_tire_13 : decode cX10_tire 13 = .ok (.lconst 0, 1) := by decide +kernel
theorem dX10_tire_14 : decode cX10_tire 14 = .ok (.ldc2_w 77, 3) := by decide +kernel
theorem dX10_tire_17 : decode cX10_tire 17 = .ok (.invokestatic 55, 3) := by decide +kernel
theorem dX10_tire_20 : decode cX10_tire 20 = .ok (.ifCond .ne 6, 3) := by decide +kernel
theorem dX10_tire_23 : decode cX10_tire 23 = .ok (.bipush (-102), 2) := by decide +kernel
theorem dX10_tire_25 : decode cX10_tire 25 = .ok (.ireturn, 1) := by decide +kernel
theorem dX10_tire_26 : decode cX10_tire 26 = .ok (.aload_n 0, 1) := by decide +kernel
theorem dX10_tire_27 : decode cX10_tire 27 = .ok (.getfield 19, 3) := by decide +kernel
theorem dX10_tire_30 : decode cX10_tire 30 = .ok (.iconst 4, 1) := by decide +kernel
theorem dX10_tire_31 : decode cX10_tire 31 = .ok (.iload_n 1, 1) := by decide +kernel
theorem dX10_tire_32 : decode cX10_tire 32 = .ok (.imul, 1) := by decide +kernel
theorem dX10_tire_33 : decode cX10_tire 33 = .ok (.iconst 1, 1) := by decide +kernel
theorem dX10_tire_34 : decode cX10_tire 34 = .ok (.iadd, 1) := by decide +kernel
theorem dX10_tire_35 : decode cX10_tire 35 = .ok (.iaload, 1) := by decide +kernel
theorem dX10_tire_36 : decode cX10_tire 36 = .ok (.istore_n 3, 1) := by decide +kernel
theorem dX10_tire_37 : decode cX10_tire 37 = .ok (.aload_n 0, 1) := by decide +kernel
theorem dX10_tire_38 : decode cX10_tire 38 = .ok (.getfield 19, 3) := by decide +kernel
theorem dX10_tire_41 : decode cX10_tire 41 = .ok (.iconst 4, 1) := by decide +kernel
theorem dX10_tire_42 : decode cX10_tire 42 = .ok (.iload_n 1, 1) := by decide +kernel
theorem dX10_tire_43 : decode cX10_tire 43 = .ok (.imul, 1) := by decide +kernel
theorem dX10_tire_44 : decode cX10_tire 44 = .ok (.iconst 1, 1) := by decide +kernel
theorem dX10_tire_45 : decode cX10_tire 45 = .ok (.iadd, 1) := by decide +kernel
theorem dX10_tire_46 : decode cX10_tire 46 = .ok (.iload_n 2, 1) := by decide +kernel
theorem dX10_tire_47 : decode cX10_tire 47 = .ok (.iastore, 1) := by decide +kernel
theorem dX10_tire_48 : decode cX10_tire 48 = .ok (.iload_n 3, 1) := by decide +kernel
theorem dX10_tire_49 : decode cX10_tire 49 = .ok (.ireturn, 1) := by decide +kernel
theorem dX10_play_0 : decode cX10_play 0 = .ok (.aload_n 0, 1) := by decide +kernel
theorem dX10_play_1 : decode cX10_play 1 = .ok (.invokevirtual 112, 3) := by decide +kernel
theorem dX10_play_4 : decode cX10_play 4 = .ok (.ifCond .ne 14, 3) := by decide +kernel
theorem dX10_play_7 : decode cX10_play 7 = .ok (.aload_n 0, 1) := by decide +kernel
theorem dX10_play_8 : decode cX10_play 8 = .ok (.getfield 97, 3) := by decide +kernel
theorem dX10_play_11 : decode cX10_play 11 = .ok (.aload_n 0, 1) := by decide +kernel
theorem dX10_play_12 : decode cX10_play 12 = .ok (.getfield 91, 3) := by decide +kernel
theorem dX10_play_15 : decode cX10_play 15 = .ok (.if_icmp .ne 6, 3) := by decide +kernel
theorem dX10_play_18 : decode cX10_play 18 = .ok (.bipush (-103), 2) := by decide +kernel
theorem dX10_play_20 : decode cX10_play 20 = .ok (.ireturn, 1) := by decide +kernel
theorem dX10_play_21 : decode cX10_play 21 = .ok (.aload_n 0, 1) := by decide +kernel
theorem dX10_play_22 : decode cX10_play 22 = .ok (.invokevirtual 137, 3) := by decide +kernel
theorem dX10_play_25 : decode cX10_play 25 = .ok (.aload_n 0, 1) := by decide +kernel
theorem dX10_play_26 : decode cX10_play 26 = .ok (.aload_n 0, 1) := by decide +kernel
theorem dX10_play_27 : decode cX10_play 27 = .ok (.getfield 97, 3) := by decide +kernel
theorem dX10_play_30 : decode cX10_play 30 = .ok (.invokevirtual 134, 3) := by decide +kernel
theorem dX10_play_33 : decode cX10_play 33 = .ok (.istore_n 1, 1) := by decide +kernel
theorem dX10_play_34 : decode cX10_play 34 = .ok (.aload_n 0, 1) := by decide +kernel
theorem dX10_play_35 : decode cX10_play 35 = .ok (.invokevirtual 163, 3) := by decide +kernel
theorem dX10_play_38 : decode cX10_play 38 = .ok (.iconst 0, 1) := by decide +kernel
theorem dX10_play_39 : decode cX10_play 39 = .ok (.istore_n 2, 1) := by decide +kernel
theorem dX10_play_40 : decode cX10_play 40 = .ok (.iload_n 2, 1) := by decide +kernel
theorem dX10_play_41 : decode cX10_play 41 = .ok (.aload_n 0, 1) := by decide +kernel
theorem dX10_play_42 : decode cX10_play 42 = .ok (.getfield 103, 3) := by decide +kernel
theorem dX10_play_45 : decode cX10_play 45 = .ok (.if_icmp .ge 28, 3) := by decide +kernel
theorem dX10_play_48 : decode cX10_play 48 = .ok (.aload_n 0, 1) := by decide +kernel
theorem dX10_play_49 : decode cX10_play 49 = .ok (.getfield 19, 3) := by decide +kernel
theorem dX10_play_52 : decode cX10_play 52 = .ok (.iconst 4, 1) := by decide +kernel
theorem dX10_play_53 : decode cX10_play 53 = .ok (.iload_n 2, 1) := by decide +kernel
theorem dX10_play_54 : decode cX10_play 54 = .ok (.imul, 1) := by decide +kernel
theorem dX10_play_55 : decode cX10_play 55 = .ok (.iconst 2, 1) := by decide +kernel
theorem dX10_play_56 : decode cX10_play 56 = .ok (.iadd, 1) := by decide +kernel
theorem dX10_play_57 : decode cX10_play 57 = .ok (.dup2, 1) := by decide +kernel
theorem dX10_play_58 : decode cX10_play 58 = .ok (.iaload, 1) := by decide +kernel
theorem dX10_play_59 : decode cX10_play 59 = .ok (.aload_n 0, 1) := by decide +kernel
theorem dX10_play_60 : decode cX10_play 60 = .ok (.getfield 28, 3) := by decide +kernel
theorem dX10_play_63 : decode cX10_play 63 = .ok (.iload_n 2, 1) := by decide +kernel
theorem dX10_play_64 : decode cX10_play 64 = .ok (.iaload, 1) := by decide +kernel
theorem dX10_play_65 : decode cX10_play 65 = .ok (.iadd, 1) := by decide +kernel
theorem dX10_play_66 : decode cX10_play 66 = .ok (.iastore, 1) := by decide +kernel
theorem dX10_play_67 : decode cX10_play 67 = .ok (.iinc 2 1, 3) := by decide +kernel
theorem dX10_play_70 : decode cX10_play 70 = .ok (.goto (-30), 3) := by decide +kernel
theorem dX10_play_73 : decode cX10_play 73 = .ok (.aload_n 0, 1) := by decide +kernel
theorem dX10_play_74 : decode cX10_play 74 = .ok (.dup, 1) := by decide +kernel
theorem dX10_play_75 : decode cX10_play 75 = .ok (.getfield 100, 3) := by decide +kernel
theorem dX10_play_78 : decode cX10_play 78 = .ok (.iload_n 1, 1) := by decide +kernel
theorem dX10_play_79 : decode cX10_play 79 = .ok (.iadd, 1) := by decide +kernel
theorem dX10_play_80 : decode cX10_play 80 = .ok (.putfield 100, 3) := by decide +kernel
theorem dX10_play_83 : decode cX10_play 83 = .ok (.aload_n 0, 1) := by decide +kernel
theorem dX10_play_84 : decode cX10_play 84 = .ok (.dup, 1) := by decide +kernel
theorem dX10_play_85 : decode cX10_play 85 = .ok (.getfield 97, 3) := by decide +kernel
theorem dX10_play_88 : decode cX10_play 88 = .ok (.iconst 1, 1) := by decide +kernel
theorem dX10_play_89 : decode cX10_play 89 = .ok (.iadd, 1) := by decide +kernel
theorem dX10_play_90 : decode cX10_play 90 = .ok (.putfield 97, 3) := by decide +kernel
theorem dX10_play_93 : decode cX10_play 93 = .ok (.iload_n 1, 1) := by decide +kernel
theorem dX10_play_94 : decode cX10_play 94 = .ok (.ireturn, 1) := by decide +kernel
theorem dX10_again_0 : decode cX10_again 0 = .ok (.aload_n 0, 1) := by decide +kernel
theorem dX10_again_1 : decode cX10_again 1 = .ok (.invokevirtual 112, 3) := by decide +kernel
theorem dX10_again_4 : decode cX10_again 4 = .ok (.ifCond .eq 6, 3) := by decide +kernel
theorem dX10_again_7 : decode cX10_again 7 = .ok (.bipush (-103), 2) := by decide +kernel
theorem dX10_again_9 : decode cX10_again 9 = .ok (.ireturn, 1) := by decide +kernel
theorem dX10_again_10 : decode cX10_again 10 = .ok (.aload_n 0, 1) := by decide +kernel
theorem dX10_again_11 : decode cX10_again 11 = .ok (.getfield 97, 3) := by decide +kernel
theorem dX10_again_14 : decode cX10_again 14 = .ok (.istore_n 1, 1) := by decide +kernel
theorem dX10_again_15 : decode cX10_again 15 = .ok (.aload_n 0, 1) := by decide +kernel
theorem dX10_again_16 : decode cX10_again 16 = .ok (.iconst 0, 1) := by decide +kernel
theorem dX10_again_17 : decode cX10_again 17 = .ok (.putfield 97, 3) := by decide +kernel
theorem dX10_again_20 : decode cX10_again 20 = .ok (.iload_n 1, 1) := by decide +kernel
theorem dX10_again_21 : decode cX10_again 21 = .ok (.ireturn, 1) := by decide +kernel
theorem dX10_hearingOf_0 : decode cX10_hearingOf 0 = .ok (.aload_n 0, 1) := by decide +kernel
theorem dX10_hearingOf_1 : decode cX10_hearingOf 1 = .ok (.invokevirtual 137, 3) := by decide +kernel
theorem dX10_hearingOf_4 : decode cX10_hearingOf 4 = .ok (.iconst 0, 1) := by decide +kernel
theorem dX10_hearingOf_5 : decode cX10_hearingOf 5 = .ok (.istore_n 2, 1) := by decide +kernel
theorem dX10_hearingOf_6 : decode cX10_hearingOf 6 = .ok (.iconst (-1), 1) := by decide +kernel
theorem dX10_hearingOf_7 : decode cX10_hearingOf 7 = .ok (.istore_n 3, 1) := by decide +kernel
theorem dX10_hearingOf_8 : decode cX10_hearingOf 8 = .ok (.iconst 0, 1) := by decide +kernel
theorem dX10_hearingOf_9 : decode cX10_hearingOf 9 = .ok (.istore 4, 2) := by decide +kernel
theorem dX10_hearingOf_11 : decode cX10_hearingOf 11 = .ok (.iload 4, 2) := by decide +kernel
theorem dX10_hearingOf_13 : decode cX10_hearingOf 13 = .ok (.aload_n 0, 1) := by decide +kernel
theorem dX10_hearingOf_14 : decode cX10_hearingOf 14 = .ok (.getfield 91, 3) := by decide +kernel
theorem dX10_hearingOf_17 : decode cX10_hearingOf 17 = .ok (.if_icmp .ge 39, 3) := by decide +kernel
theorem dX10_hearingOf_20 : decode cX10_hearingOf 20 = .ok (.aload_n 0, 1) := by decide +kernel
theorem dX10_hearingOf_21 : decode cX10_hearingOf 21 = .ok (.iload 4, 2) := by decide +kernel
theorem dX10_hearingOf_23 : decode cX10_hearingOf 23 = .ok (.invokevirtual 134, 3) := by decide +kernel
theorem dX10_hearingOf_26 : decode cX10_hearingOf 26 = .ok (.istore 5, 2) := by decide +kernel
theorem dX10_hearingOf_28 : decode cX10_hearingOf 28 = .ok (.iload_n 2, 1) := by decide +kernel
theorem dX10_hearingOf_29 : decode cX10_hearingOf 29 = .ok (.iload 5, 2) := by decide +kernel
theorem dX10_hearingOf_31 : decode cX10_hearingOf 31 = .ok (.iadd, 1) := by decide +kernel
theorem dX10_hearingOf_32 : decode cX10_hearingOf 32 = .ok (.istore_n 2, 1) := by decide +kernel
theorem dX10_hearingOf_33 : decode cX10_hearingOf 33 = .ok (.iload_n 3, 1) := by decide +kernel
theorem dX10_hearingOf_34 : decode cX10_hearingOf 34 = .ok (.iconst (-1), 1) := by decide +kernel
theorem dX10_hearingOf_35 : decode cX10_hearingOf 35 = .ok (.if_icmp .ne 13, 3) := by decide +kernel
theorem dX10_hearingOf_38 : decode cX10_hearingOf 38 = .ok (.iload 5, 2) := by decide +kernel
theorem dX10_hearingOf_40 : decode cX10_hearingOf 40 = .ok (.ifCond .le 8, 3) := by decide +kernel
theorem dX10_hearingOf_43 : decode cX10_hearingOf 43 = .ok (.iload 4, 2) := by decide +kernel
theorem dX10_hearingOf_45 : decode cX10_hearingOf 45 = .ok (.goto 4, 3) := by decide +kernel
theorem dX10_hearingOf_48 : decode cX10_hearingOf 48 = .ok (.iload_n 3, 1) := by decide +kernel
theorem dX10_hearingOf_49 : decode cX10_hearingOf 49 = .ok (.istore_n 3, 1) := by decide +kernel
theorem dX10_hearingOf_50 : decode cX10_hearingOf 50 = .ok (.iinc 4 1, 3) := by decide +kernel
theorem dX10_hearingOf_53 : decode cX10_hearingOf 53 = .ok (.goto (-42), 3) := by decide +kernel
