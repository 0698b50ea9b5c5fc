theorem dX3_tell_149 : decode cX3_tell 149 = .ok (.iconst 0, 1) := by decide +kernel
theorem dX3_tell_150 : decode cX3_tell 150 = .ok (.invokestatic 32, 3) := by decide +kernel
theorem dX3_tell_153 : decode cX3_tell 153 = .ok (.iastore, 1) := by decide +kernel
theorem dX3_tell_154 : decode cX3_tell 154 = .ok (.goto 35, 3) := by decide +kernel
theorem dX3_tell_157 : decode cX3_tell 157 = .ok (.iload 4, 2) := by decide +kernel
theorem dX3_tell_159 : decode cX3_tell 159 = .ok (.iconst 2, 1) := by decide +kernel
theorem dX3_tell_160 : decode cX3_tell 160 = .ok (.if_icmp .lt 29, 3) := by decide +kernel
theorem dX3_tell_163 : decode cX3_tell 163 = .ok (.iinc 4 (-1), 3) := by decide +kernel
theorem dX3_tell_166 : decode cX3_tell 166 = .ok (.aload_n 3, 1) := by decide +kernel
theorem dX3_tell_167 : decode cX3_tell 167 = .ok (.iload 4, 2) := by decide +kernel
theorem dX3_tell_169 : decode cX3_tell 169 = .ok (.iconst 1, 1) := by decide +kernel
theorem dX3_tell_170 : decode cX3_tell 170 = .ok (.isub, 1) := by decide +kernel
theorem dX3_tell_171 : decode cX3_tell 171 = .ok (.iload 6, 2) := by decide +kernel
theorem dX3_tell_173 : decode cX3_tell 173 = .ok (.iconst (-1), 1) := by decide +kernel
theorem dX3_tell_174 : decode cX3_tell 174 = .ok (.ixor, 1) := by decide +kernel
theorem dX3_tell_175 : decode cX3_tell 175 = .ok (.aload_n 3, 1) := by decide +kernel
theorem dX3_tell_176 : decode cX3_tell 176 = .ok (.iload 4, 2) := by decide +kernel
theorem dX3_tell_178 : decode cX3_tell 178 = .ok (.iconst 1, 1) := by decide +kernel
theorem dX3_tell_179 : decode cX3_tell 179 = .ok (.isub, 1) := by decide +kernel
theorem dX3_tell_180 : decode cX3_tell 180 = .ok (.iaload, 1) := by decide +kernel
theorem dX3_tell_181 : decode cX3_tell 181 = .ok (.aload_n 3, 1) := by decide +kernel
theorem dX3_tell_182 : decode cX3_tell 182 = .ok (.iload 4, 2) := by decide +kernel
theorem dX3_tell_184 : decode cX3_tell 184 = .ok (.iaload, 1) := by decide +kernel
theorem dX3_tell_185 : decode cX3_tell 185 = .ok (.invokestatic 36, 3) := by decide +kernel
theorem dX3_tell_188 : decode cX3_tell 188 = .ok (.iastore, 1) := by decide +kernel
theorem dX3_tell_189 : decode cX3_tell 189 = .ok (.iinc 5 1, 3) := by decide +kernel
theorem dX3_tell_192 : decode cX3_tell 192 = .ok (.goto (-171), 3) := by decide +kernel
theorem dX3_tell_195 : decode cX3_tell 195 = .ok (.iload 4, 2) := by decide +kernel
theorem dX3_tell_197 : decode cX3_tell 197 = .ok (.iconst 1, 1) := by decide +kernel
theorem dX3_tell_198 : decode cX3_tell 198 = .ok (.if_icmp .ge 7, 3) := by decide +kernel
theorem dX3_tell_201 : decode cX3_tell 201 = .ok (.iconst 0, 1) := by decide +kernel
theorem dX3_tell_202 : decode cX3_tell 202 = .ok (.goto 9, 3) := by decide +kernel
theorem dX3_tell_205 : decode cX3_tell 205 = .ok (.aload_n 3, 1) := by decide +kernel
theorem dX3_tell_206 : decode cX3_tell 206 = .ok (.iload 4, 2) := by decide +kernel
theorem dX3_tell_208 : decode cX3_tell 208 = .ok (.iconst 1, 1) := by decide +kernel
theorem dX3_tell_209 : decode cX3_tell 209 = .ok (.isub, 1) := by decide +kernel
theorem dX3_tell_210 : decode cX3_tell 210 = .ok (.iaload, 1) := by decide +kernel
theorem dX3_tell_211 : decode cX3_tell 211 = .ok (.ireturn, 1) := by decide +kernel
theorem dX3_joined_0 : decode cX3_joined 0 = .ok (.iload_n 0, 1) := by decide +kernel
theorem dX3_joined_1 : decode cX3_joined 1 = .ok (.tableswitch 129 9 19 #[59, 76, 129, 129, 129, 129, 121, 125, 129, 93, 107], 59) := by decide +kernel
theorem dX3_joined_60 : decode cX3_joined 60 = .ok (.iload_n 1, 1) := by decide +kernel
theorem dX3_joined_61 : decode cX3_joined 61 = .ok (.ifCond .ne 7, 3) := by decide +kernel
theorem dX3_joined_64 : decode cX3_joined 64 = .ok (.iload_n 2, 1) := by decide +kernel
theorem dX3_joined_65 : decode cX3_joined 65 = .ok (.ifCond .eq 7, 3) := by decide +kernel
theorem dX3_joined_68 : decode cX3_joined 68 = .ok (.iconst 1, 1) := by decide +kernel
theorem dX3_joined_69 : decode cX3_joined 69 = .ok (.goto 4, 3) := by decide +kernel
theorem dX3_joined_72 : decode cX3_joined 72 = .ok (.iconst 0, 1) := by decide +kernel
theorem dX3_joined_73 : decode cX3_joined 73 = .ok (.invokestatic 32, 3) := by decide +kernel
theorem dX3_joined_76 : decode cX3_joined 76 = .ok (.ireturn, 1) := by decide +kernel
theorem dX3_joined_77 : decode cX3_joined 77 = .ok (.iload_n 1, 1) := by decide +kernel
theorem dX3_joined_78 : decode cX3_joined 78 = .ok (.ifCond .eq 11, 3) := by decide +kernel
theorem dX3_joined_81 : decode cX3_joined 81 = .ok (.iload_n 2, 1) := by decide +kernel
theorem dX3_joined_82 : decode cX3_joined 82 = .ok (.ifCond .eq 7, 3) := by decide +kernel
theorem dX3_joined_85 : decode cX3_joined 85 = .ok (.iconst 1, 1) := by decide +kernel
theorem dX3_joined_86 : decode cX3_joined 86 = .ok (.goto 4, 3) := by decide +kernel
theorem dX3_joined_89 : decode cX3_joined 89 = .ok (.iconst 0, 1) := by decide +kernel
theorem dX3_joined_90 : decode cX3_joined 90 = .ok (.invokestatic 32, 3) := by decide +kernel
theorem dX3_joined_93 : decode cX3_joined 93 = .ok (.ireturn, 1) := by decide +kernel
theorem dX3_joined_94 : decode cX3_joined 94 = .ok (.iload_n 1, 1) := by decide +kernel
theorem dX3_joined_95 : decode cX3_joined 95 = .ok (.iload_n 2, 1) := by decide +kernel
theorem dX3_joined_96 : decode cX3_joined 96 = .ok (.if_icmp .ge 7, 3) := by decide +kernel
theorem dX3_joined_99 : decode cX3_joined 99 = .ok (.iconst 1, 1) := by decide +kernel
theorem dX3_joined_100 : decode cX3_joined 100 = .ok (.goto 4, 3) := by decide +kernel
theorem dX3_joined_103 : decode cX3_joined 103 = .ok (.iconst 0, 1) := by decide +kernel
theorem dX3_joined_104 : decode cX3_joined 104 = .ok (.invokestatic 32, 3) := by decide +kernel
theorem dX3_joined_107 : decode cX3_joined 107 = .ok (.ireturn, 1) := by decide +kernel
theorem dX3_joined_108 : decode cX3_joined 108 = .ok (.iload_n 1, 1) := by decide +kernel
theorem dX3_joined_109 : decode cX3_joined 109 = .ok (.iload_n 2, 1) := by decide +kernel
theorem dX3_joined_110 : decode cX3_joined 110 = .ok (.if_icmp .ne 7, 3) := by decide +kernel
theorem dX3_joined_113 : decode cX3_joined 113 = .ok (.iconst 1, 1) := by decide +kernel
theorem dX3_joined_114 : decode cX3_joined 114 = .ok (.goto 4, 3) := by decide +kernel
theorem dX3_joined_117 : decode cX3_joined 117 = .ok (.iconst 0, 1) := by decide +kernel
theorem dX3_joined_118 : decode cX3_joined 118 = .ok (.invokestatic 32, 3) := by decide +kernel
theorem dX3_joined_121 : decode cX3_joined 121 = .ok (.ireturn, 1) := by decide +kernel
theorem dX3_joined_122 : decode cX3_joined 122 = .ok (.iload_n 1, 1) := by decide +kernel
theorem dX3_joined_123 : decode cX3_joined 123 = .ok (.iload_n 2, 1) := by decide +kernel
theorem dX3_joined_124 : decode cX3_joined 124 = .ok (.iadd, 1) := by decide +kernel
theorem dX3_joined_125 : decode cX3_joined 125 = .ok (.ireturn, 1) := by decide +kernel
theorem dX3_joined_126 : decode cX3_joined 126 = .ok (.iload_n 1, 1) := by decide +kernel
theorem dX3_joined_127 : decode cX3_joined 127 = .ok (.iload_n 2, 1) := by decide +kernel
theorem dX3_joined_128 : decode cX3_joined 128 = .ok (.isub, 1) := by decide +kernel
theorem dX3_joined_129 : decode cX3_joined 129 = .ok (.ireturn, 1) := by decide +kernel
theorem dX3_joined_130 : decode cX3_joined 130 = .ok (.iload_n 1, 1) := by decide +kernel
theorem dX3_joined_131 : decode cX3_joined 131 = .ok (.iload_n 2, 1) := by decide +kernel
theorem dX3_joined_132 : decode cX3_joined 132 = .ok (.imul, 1) := by decide +kernel
theorem dX3_joined_133 : decode cX3_joined 133 = .ok (.ireturn, 1) := by decide +kernel
theorem dX3_truth_0 : decode cX3_truth 0 = .ok (.iload_n 0, 1) := by decide +kernel
theorem dX3_truth_1 : decode cX3_truth 1 = .ok (.ifCond .eq 7, 3) := by decide +kernel
theorem dX3_truth_4 : decode cX3_truth 4 = .ok (.iconst 1, 1) := by decide +kernel
theorem dX3_truth_5 : decode cX3_truth 5 = .ok (.goto 4, 3) := by decide +kernel
theorem dX3_truth_8 : decode cX3_truth 8 = .ok (.iconst 0, 1) := by decide +kernel
theorem dX3_truth_9 : decode cX3_truth 9 = .ok (.ireturn, 1) := by decide +kernel
theorem dX4_init_0 : decode cX4_init 0 = .ok (.aload_n 0, 1) := by decide +kernel
theorem dX4_init_1 : decode cX4_init 1 = .ok (.invokespecial 3, 3) := by decide +kernel
theorem dX4_init_4 : decode cX4_init 4 = .ok (.aload_n 0, 1) := by decide +kernel
theorem dX4_init_5 : decode cX4_init 5 = .ok (.bipush 8, 2) := by decide +kernel
theorem dX4_init_7 : decode cX4_init 7 = .ok (.newarray .int, 2) := by decide +kernel
theorem dX4_init_9 : decode cX4_init 9 = .ok (.putfield 9, 3) := by decide +kernel
theorem dX4_init_12 : decode cX4_init 12 = .ok (.aload_n 0, 1) := by decide +kernel
theorem dX4_init_13 : decode cX4_init 13 = .ok (.bipush 8, 2) := by decide +kernel
theorem dX4_init_15 : decode cX4_init 15 = .ok (.newarray .int, 2) := by decide +kernel
theorem dX4_init_17 : decode cX4_init 17 = .ok (.putfield 15, 3) := by decide +kernel
theorem dX4_init_20 : decode cX4_init 20 = .ok (.return_, 1) := by decide +kernel
theorem dX4_begin_0 : decode cX4_begin 0 = .ok (.aload_n 0, 1) := by decide +kernel
theorem dX4_begin_1 : decode cX4_begin 1 = .ok (.iload_n 1, 1) := by decide +kernel
theorem dX4_begin_2 : decode cX4_begin 2 = .ok (.putfield 18, 3) := by decide +kernel
theorem dX4_begin_5 : decode cX4_begin 5 = .ok (.aload_n 0, 1) := by decide +kernel
theorem dX4_begin_6 : decode cX4_begin 6 = .ok (.iload_n 2, 1) := by decide +kernel
theorem dX4_begin_7 : decode cX4_begin 7 = .ok (.putfield 22, 3) := by decide +kernel
theorem dX4_begin_10 : decode cX4_begin 10 = .ok (.aload_n 0, 1) := by decide +kernel
theorem dX4_begin_11 : decode cX4_begin 11 = .ok (.iconst 0, 1) := by decide +kernel
theorem dX4_begin_12 : decode cX4_begin 12 = .ok (.putfield 25, 3) := by decide +kernel
theorem dX4_begin_15 : decode cX4_begin 15 = .ok (.return_, 1) := by decide +kernel
theorem dX4_become_0 : decode cX4_become 0 = .ok (.aload_n 0, 1) := by decide +kernel
theorem dX4_become_1 : decode cX4_become 1 = .ok (.aload_n 1, 1) := by decide +kernel
theorem dX4_become_2 : decode cX4_become 2 = .ok (.getfield 18, 3) := by decide +kernel
theorem dX4_become_5 : decode cX4_become 5 = .ok (.aload_n 1, 1) := by decide +kernel
theorem dX4_become_6 : decode cX4_become 6 = .ok (.getfield 22, 3) := by decide +kernel
theorem dX4_become_9 : decode cX4_become 9 = .ok (.invokevirtual 28, 3) := by decide +kernel
theorem dX4_become_12 : decode cX4_become 12 = .ok (.iconst 0, 1) := by decide +kernel
theorem dX4_become_13 : decode cX4_become 13 = .ok (.istore_n 2, 1) := by decide +kernel
theorem dX4_become_14 : decode cX4_become 14 = .ok (.iload_n 2, 1) := by decide +kernel
theorem dX4_become_15 : decode cX4_become 15 = .ok (.aload_n 1, 1) := by decide +kernel
theorem dX4_become_16 : decode cX4_become 16 = .ok (.getfield 25, 3) := by decide +kernel
theorem dX4_become_19 : decode cX4_become 19 = .ok (.if_icmp .ge 25, 3) := by decide +kernel
theorem dX4_become_22 : decode cX4_become 22 = .ok (.aload_n 0, 1) := by decide +kernel
theorem dX4_become_23 : decode cX4_become 23 = .ok (.aload_n 1, 1) := by decide +kernel
theorem dX4_become_24 : decode cX4_become 24 = .ok (.getfield 9, 3) := by decide +kernel
theorem dX4_become_27 : decode cX4_become 27 = .ok (.iload_n 2, 1) := by decide +kernel
theorem dX4_become_28 : decode cX4_become 28 = .ok (.iaload, 1) := by decide +kernel
theorem dX4_become_29 : decode cX4_become 29 = .ok (.aload_n 1, 1) := by decide +kernel
theorem dX4_become_30 : decode cX4_become 30 = .ok (.getfield 15, 3) := by decide +kernel
theorem dX4_become_33 : decode cX4_become 33 = .ok (.iload_n 2, 1) := by decide +kernel
theorem dX4_become_34 : decode cX4_become 34 = .ok (.iaload, 1) := by decide +kernel
theorem dX4_become_35 : decode cX4_become 35 = .ok (.invokevirtual 32, 3) := by decide +kernel
theorem dX4_become_38 : decode cX4_become 38 = .ok (.iinc 2 1, 3) := by decide +kernel
theorem dX4_become_41 : decode cX4_become 41 = .ok (.goto (-27), 3) := by decide +kernel
theorem dX4_become_44 : decode cX4_become 44 = .ok (.return_, 1) := by decide +kernel
theorem dX4_add_0 : decode cX4_add 0 = .ok (.aload_n 0, 1) := by decide +kernel
theorem dX4_add_1 : decode cX4_add 1 = .ok (.getfield 25, 3) := by decide +kernel
theorem dX4_add_4 : decode cX4_add 4 = .ok (.bipush 8, 2) := by decide +kernel
theorem dX4_add_6 : decode cX4_add 6 = .ok (.if_icmp .ge 33, 3) := by decide +kernel
theorem dX4_add_9 : decode cX4_add 9 = .ok (.aload_n 0, 1) := by decide +kernel
theorem dX4_add_10 : decode cX4_add 10 = .ok (.getfield 9, 3) := by decide +kernel
theorem dX4_add_13 : decode cX4_add 13 = .ok (.aload_n 0, 1) := by decide +kernel
theorem dX4_add_14 : decode cX4_add 14 = .ok (.getfield 25, 3) := by decide +kernel
theorem dX4_add_17 : decode cX4_add 17 = .ok (.iload_n 1, 1) := by decide +kernel
theorem dX4_add_18 : decode cX4_add 18 = .ok (.iastore, 1) := by decide +kernel
theorem dX4_add_19 : decode cX4_add 19 = .ok (.aload_n 0, 1) := by decide +kernel
theorem dX4_add_20 : decode cX4_add 20 = .ok (.getfield 15, 3) := by decide +kernel
theorem dX4_add_23 : decode cX4_add 23 = .ok (.aload_n 0, 1) := by decide +kernel
theorem dX4_add_24 : decode cX4_add 24 = .ok (.getfield 25, 3) := by decide +kernel
theorem dX4_add_27 : decode cX4_add 27 = .ok (.iload_n 2, 1) := by decide +kernel
theorem dX4_add_28 : decode cX4_add 28 = .ok (.iastore, 1) := by decide +kernel
theorem dX4_add_29 : decode cX4_add 29 = .ok (.aload_n 0, 1) := by decide +kernel
theorem dX4_add_30 : decode cX4_add 30 = .ok (.dup, 1) := by decide +kernel
theorem dX4_add_31 : decode cX4_add 31 = .ok (.getfield 25, 3) := by decide +kernel
theorem dX4_add_34 : decode cX4_add 34 = .ok (.iconst 1, 1) := by decide +kernel
theorem dX4_add_35 : decode cX4_add 35 = .ok (.iadd, 1) := by decide +kernel
theorem dX4_add_36 : decode cX4_add 36 = .ok (.putfield 25, 3) := by decide +kernel
theorem dX4_add_39 : decode cX4_add 39 = .ok (.return_, 1) := by decide +kernel
theorem dX4_endsAhead_0 : decode cX4_endsAhead 0 = .ok (.aload_n 0, 1) := by decide +kernel
theorem dX4_endsAhead_1 : decode cX4_endsAhead 1 = .ok (.getfield 25, 3) := by decide +kernel
theorem dX4_endsAhead_4 : decode cX4_endsAhead 4 = .ok (.iconst 1, 1) := by decide +kernel
theorem dX4_endsAhead_5 : decode cX4_endsAhead 5 = .ok (.if_icmp .lt 18, 3) := by decide +kernel
theorem dX4_endsAhead_8 : decode cX4_endsAhead 8 = .ok (.aload_n 0, 1) := by decide +kernel
theorem dX4_endsAhead_9 : decode cX4_endsAhead 9 = .ok (.getfield 9, 3) := by decide +kernel
theorem dX4_endsAhead_12 : decode cX4_endsAhead 12 = .ok (.aload_n 0, 1) := by decide +kernel
theorem dX4_endsAhead_13 : decode cX4_endsAhead 13 = .ok (.getfield 25, 3) := by decide +kernel
theorem dX4_endsAhead_16 : decode cX4_endsAhead 16 = .ok (.iconst 1, 1) := by decide +kernel
theorem dX4_endsAhead_17 : decode cX4_endsAhead 17 = .ok (.isub, 1) := by decide +kernel
theorem dX4_endsAhead_18 : decode cX4_endsAhead 18 = .ok (.iaload, 1) := by decide +kernel
theorem dX4_endsAhead_19 : decode cX4_endsAhead 19 = .ok (.iload_n 1, 1) := by decide +kernel
theorem dX4_endsAhead_20 : decode cX4_endsAhead 20 = .ok (.if_icmp .ge 7, 3) := by decide +kernel
theorem dX4_endsAhead_23 : decode cX4_endsAhead 23 = .ok (.iconst 1, 1) := by decide +kernel
theorem dX4_endsAhead_24 : decode cX4_endsAhead 24 = .ok (.goto 4, 3) := by decide +kernel
theorem dX4_endsAhead_27 : decode cX4_endsAhead 27 = .ok (.iconst 0, 1) := by decide +kernel
theorem dX4_endsAhead_28 : decode cX4_endsAhead 28 = .ok (.ireturn, 1) := by decide +kernel
theorem dX4_farthestPlace_0 : decode cX4_farthestPlace 0 = .ok (.iconst 0, 1) := by decide +kernel
theorem dX4_farthestPlace_1 : decode cX4_farthestPlace 1 = .ok (.istore_n 1, 1) := by decide +kernel
theorem dX4_farthestPlace_2 : decode cX4_farthestPlace 2 = .ok (.iconst 0, 1) := by decide +kernel
theorem dX4_farthestPlace_3 : decode cX4_farthestPlace 3 = .ok (.istore_n 2, 1) := by decide +kernel
theorem dX4_farthestPlace_4 : decode cX4_farthestPlace 4 = .ok (.iload_n 2, 1) := by decide +kernel
theorem dX4_farthestPlace_5 : decode cX4_farthestPlace 5 = .ok (.aload_n 0, 1) := by decide +kernel
theorem dX4_farthestPlace_6 : decode cX4_farthestPlace 6 = .ok (.getfield 25, 3) := by decide +kernel
theorem dX4_farthestPlace_9 : decode cX4_farthestPlace 9 = .ok (.if_icmp .ge 20, 3) := by decide +kernel
theorem dX4_farthestPlace_12 : decode cX4_farthestPlace 12 = .ok (.iload_n 1, 1) := by decide +kernel
theorem dX4_farthestPlace_13 : decode cX4_farthestPlace 13 = .ok (.aload_n 0, 1) := by decide +kernel
theorem dX4_farthestPlace_14 : decode cX4_farthestPlace 14 = .ok (.getfield 15, 3) := by decide +kernel
theorem dX4_farthestPlace_17 : decode cX4_farthestPlace 17 = .ok (.iload_n 2, 1) := by decide +kernel
theorem dX4_farthestPlace_18 : decode cX4_farthestPlace 18 = .ok (.iaload, 1) := by decide +kernel
theorem dX4_farthestPlace_19 : decode cX4_farthestPlace 19 = .ok (.invokestatic 35, 3) := by decide +kernel
theorem dX4_farthestPlace_22 : decode cX4_farthestPlace 22 = .ok (.istore_n 1, 1) := by decide +kernel
theorem dX4_farthestPlace_23 : decode cX4_farthestPlace 23 = .ok (.iinc 2 1, 3) := by decide +kernel
theorem dX4_farthestPlace_26 : decode cX4_farthestPlace 26 = .ok (.goto (-22), 3) := by decide +kernel
theorem dX4_farthestPlace_29 : decode cX4_farthestPlace 29 = .ok (.iload_n 1, 1) := by decide +kernel
theorem dX4_farthestPlace_30 : decode cX4_farthestPlace 30 = .ok (.ireturn, 1) := by decide +kernel
theorem dX4_lay_0 : decode cX4_lay 0 = .ok (.iconst 0, 1) := by decide +kernel
theorem dX4_lay_1 : decode cX4_lay 1 = .ok (.istore_n 3, 1) := by decide +kernel
theorem dX4_lay_2 : decode cX4_lay 2 = .ok (.iload_n 3, 1) := by decide +kernel
theorem dX4_lay_3 : decode cX4_lay 3 = .ok (.aload_n 1, 1) := by decide +kernel
theorem dX4_lay_4 : decode cX4_lay 4 = .ok (.arraylength, 1) := by decide +kernel
theorem dX4_lay_5 : decode cX4_lay 5 = .ok (.if_icmp .ge 18, 3) := by decide +kernel
theorem dX4_lay_8 : decode cX4_lay 8 = .ok (.aload_n 1, 1) := by decide +kernel
theorem dX4_lay_9 : decode cX4_lay 9 = .ok (.iload_n 3, 1) := by decide +kernel
theorem dX4_lay_10 : decode cX4_lay 10 = .ok (.aload_n 0, 1) := by decide +kernel
theorem dX4_lay_11 : decode cX4_lay 11 = .ok (.iload_n 3, 1) := by decide +kernel
theorem dX4_lay_12 : decode cX4_lay 12 = .ok (.iload_n 2, 1) := by decide +kernel
theorem dX4_lay_13 : decode cX4_lay 13 = .ok (.invokevirtual 41, 3) := by decide +kernel
theorem dX4_lay_16 : decode cX4_lay 16 = .ok (.iastore, 1) := by decide +kernel
theorem dX4_lay_17 : decode cX4_lay 17 = .ok (.iinc 3 1, 3) := by decide +kernel
theorem dX4_lay_20 : decode cX4_lay 20 = .ok (.goto (-18), 3) := by decide +kernel
theorem dX4_lay_23 : decode cX4_lay 23 = .ok (.return_, 1) := by decide +kernel
theorem dX4_where_0 : decode cX4_where 0 = .ok (.iconst 0, 1) := by decide +kernel
theorem dX4_where_1 : decode cX4_where 1 = .ok (.aload_n 0, 1) := by decide +kernel
theorem dX4_where_2 : decode cX4_where 2 = .ok (.iload_n 1, 1) := by decide +kernel
theorem dX4_where_3 : decode cX4_where 3 = .ok (.iload_n 2, 1) := by decide +kernel
theorem dX4_where_4 : decode cX4_where 4 = .ok (.invokevirtual 44, 3) := by decide +kernel
theorem dX4_where_7 : decode cX4_where 7 = .ok (.sipush 1000, 3) := by decide +kernel
theorem dX4_where_10 : decode cX4_where 10 = .ok (.iload_n 2, 1) := by decide +kernel
theorem dX4_where_11 : decode cX4_where 11 = .ok (.imul, 1) := by decide +kernel
theorem dX4_where_12 : decode cX4_where 12 = .ok (.invokestatic 47, 3) := by decide +kernel
theorem dX4_where_15 : decode cX4_where 15 = .ok (.ireturn, 1) := by decide +kernel
theorem dX4_unbound_0 : decode cX4_unbound 0 = .ok (.aload_n 0, 1) := by decide +kernel
theorem dX4_unbound_1 : decode cX4_unbound 1 = .ok (.getfield 18, 3) := by decide +kernel
theorem dX4_unbound_4 : decode cX4_unbound 4 = .ok (.tableswitch 96 1 5 #[36, 42, 49, 57, 75], 36) := by decide +kernel
theorem dX4_unbound_40 : decode cX4_unbound 40 = .ok (.aload_n 0, 1) := by decide +kernel
theorem dX4_unbound_41 : decode cX4_unbound 41 = .ok (.iload_n 1, 1) := by decide +kernel
theorem dX4_unbound_42 : decode cX4_unbound 42 = .ok (.invokevirtual 51, 3) := by decide +kernel
theorem dX4_unbound_45 : decode cX4_unbound 45 = .ok (.ireturn, 1) := by decide +kernel
theorem dX4_unbound_46 : decode cX4_unbound 46 = .ok (.aload_n 0, 1) := by decide +kernel
theorem dX4_unbound_47 : decode cX4_unbound 47 = .ok (.iload_n 1, 1) := by decide +kernel
theorem dX4_unbound_48 : decode cX4_unbound 48 = .ok (.iload_n 2, 1) := by decide +kernel
theorem dX4_unbound_49 : decode cX4_unbound 49 = .ok (.invokevirtual 55, 3) := by decide +kernel
theorem dX4_unbound_52 : decode cX4_unbound 52 = .ok (.ireturn, 1) := by decide +kernel
theorem dX4_unbound_53 : decode cX4_unbound 53 = .ok (.aload_n 0, 1) := by decide +kernel
theorem dX4_unbound_54 : decode cX4_unbound 54 = .ok (.iload_n 1, 1) := by decide +kernel
theorem dX4_unbound_55 : decode cX4_unbound 55 = .ok (.invokevirtual 51, 3) := by decide +kernel
theorem dX4_unbound_58 : decode cX4_unbound 58 = .ok (.iconst 2, 1) := by decide +kernel
theorem dX4_unbound_59 : decode cX4_unbound 59 = .ok (.idiv, 1) := by decide +kernel
theorem dX4_unbound_60 : decode cX4_unbound 60 = .ok (.ireturn, 1) := by decide +kernel
theorem dX4_unbound_61 : decode cX4_unbound 61 = .ok (.aload_n 0, 1) := by decide +kernel
theorem dX4_unbound_62 : decode cX4_unbound 62 = .ok (.iload_n 1, 1) := by decide +kernel
theorem dX4_unbound_63 : decode cX4_unbound 63 = .ok (.iload_n 1, 1) := by decide +kernel
theorem dX4_unbound_64 : decode cX4_unbound 64 = .ok (.aload_n 0, 1) := by decide +kernel
theorem dX4_unbound_65 : decode cX4_unbound 65 = .ok (.getfield 22, 3) := by decide +kernel
theorem dX4_unbound_68 : decode cX4_unbound 68 = .ok (.iconst 1, 1) := by decide +kernel
theorem dX4_unbound_69 : decode cX4_unbound 69 = .ok (.iadd, 1) := by decide +kernel
theorem dX4_unbound_70 : decode cX4_unbound 70 = .ok (.invokestatic 58, 3) := by decide +kernel
theorem dX4_unbound_73 : decode cX4_unbound 73 = .ok (.isub, 1) := by decide +kernel
theorem dX4_unbound_74 : decode cX4_unbound 74 = .ok (.iload_n 2, 1) := by decide +kernel
theorem dX4_unbound_75 : decode cX4_unbound 75 = .ok (.invokevirtual 55, 3) := by decide +kernel
theorem dX4_unbound_78 : decode cX4_unbound 78 = .ok (.ireturn, 1) := by decide +kernel
theorem dX4_unbound_79 : decode cX4_unbound 79 = .ok (.aload_n 0, 1) := by decide +kernel
theorem dX4_unbound_80 : decode cX4_unbound 80 = .ok (.iload_n 1, 1) := by decide +kernel
theorem dX4_unbound_81 : decode cX4_unbound 81 = .ok (.invokevirtual 51, 3) := by decide +kernel
theorem dX4_unbound_84 : decode cX4_unbound 84 = .ok (.sipush 1000, 3) := by decide +kernel
theorem dX4_unbound_87 : decode cX4_unbound 87 = .ok (.iload_n 1, 1) := by decide +kernel
theorem dX4_unbound_88 : decode cX4_unbound 88 = .ok (.aload_n 0, 1) := by decide +kernel
theorem dX4_unbound_89 : decode cX4_unbound 89 = .ok (.getfield 22, 3) := by decide +kernel
theorem dX4_unbound_92 : decode cX4_unbound 92 = .ok (.iconst 2, 1) := by decide +kernel
theorem dX4_unbound_93 : decode cX4_unbound 93 = .ok (.iadd, 1) := by decide +kernel
theorem dX4_unbound_94 : decode cX4_unbound 94 = .ok (.invokestatic 58, 3) := by decide +kernel
theorem dX4_unbound_97 : decode cX4_unbound 97 = .ok (.imul, 1) := by decide +kernel
theorem dX4_unbound_98 : decode cX4_unbound 98 = .ok (.iadd, 1) := by decide +kernel
theorem dX4_unbound_99 : decode cX4_unbound 99 = .ok (.ireturn, 1) := by decide +kernel
theorem dX4_unbound_100 : decode cX4_unbound 100 = .ok (.aload_n 0, 1) := by decide +kernel
theorem dX4_unbound_101 : decode cX4_unbound 101 = .ok (.iload_n 1, 1) := by decide +kernel
theorem dX4_unbound_102 : decode cX4_unbound 102 = .ok (.invokevirtual 61, 3) := by decide +kernel
theorem dX4_unbound_105 : decode cX4_unbound 105 = .ok (.ireturn, 1) := by decide +kernel
theorem dX4_late_0 : decode cX4_late 0 = .ok (.aload_n 0, 1) := by decide +kernel
theorem dX4_late_1 : decode cX4_late 1 = .ok (.iconst 0, 1) := by decide +kernel
theorem dX4_late_2 : decode cX4_late 2 = .ok (.iload_n 1, 1) := by decide +kernel
theorem dX4_late_3 : decode cX4_late 3 = .ok (.bipush 10, 2) := by decide +kernel
theorem dX4_late_5 : decode cX4_late 5 = .ok (.aload_n 0, 1) := by decide +kernel
theorem dX4_late_6 : decode cX4_late 6 = .ok (.getfield 22, 3) := by decide +kernel
theorem dX4_late_9 : decode cX4_late 9 = .ok (.imul, 1) := by decide +kernel
theorem dX4_late_10 : decode cX4_late 10 = .ok (.isub, 1) := by decide +kernel
theorem dX4_late_11 : decode cX4_late 11 = .ok (.invokestatic 35, 3) := by decide +kernel
theorem dX4_late_14 : decode cX4_late 14 = .ok (.invokevirtual 61, 3) := by decide +kernel
theorem dX4_late_17 : decode cX4_late 17 = .ok (.ireturn, 1) := by decide +kernel
theorem dX4_turned_0 : decode cX4_turned 0 = .ok (.sipush 1000, 3) := by decide +kernel
theorem dX4_turned_3 : decode cX4_turned 3 = .ok (.iload_n 2, 1) := by decide +kernel
theorem dX4_turned_4 : decode cX4_turned 4 = .ok (.imul, 1) := by decide +kernel
theorem dX4_turned_5 : decode cX4_turned 5 = .ok (.aload_n 0, 1) := by decide +kernel
theorem dX4_turned_6 : decode cX4_turned 6 = .ok (.iload_n 1, 1) := by decide +kernel
theorem dX4_turned_7 : decode cX4_turned 7 = .ok (.invokevirtual 61, 3) := by decide +kernel
theorem dX4_turned_10 : decode cX4_turned 10 = .ok (.isub, 1) := by decide +kernel
theorem dX4_turned_11 : decode cX4_turned 11 = .ok (.ireturn, 1) := by decide +kernel
theorem dX4_byPoints_0 : decode cX4_byPoints 0 = .ok (.aload_n 0, 1) := by decide +kernel
theorem dX4_byPoints_1 : decode cX4_byPoints 1 = .ok (.getfield 25, 3) := by decide +kernel
theorem dX4_byPoints_4 : decode cX4_byPoints 4 = .ok (.iconst 1, 1) := by decide +kernel
theorem dX4_byPoints_5 : decode cX4_byPoints 5 = .ok (.if_icmp .ge 5, 3) := by decide +kernel
theorem dX4_byPoints_8 : decode cX4_byPoints 8 = .ok (.iconst 0, 1) := by decide +kernel
theorem dX4_byPoints_9 : decode cX4_byPoints 9 = .ok (.ireturn, 1) := by decide +kernel
theorem dX4_byPoints_10 : decode cX4_byPoints 10 = .ok (.iconst 0, 1) := by decide +kernel
theorem dX4_byPoints_11 : decode cX4_byPoints 11 = .ok (.istore_n 2, 1) := by decide +kernel
theorem dX4_byPoints_12 : decode cX4_byPoints 12 = .ok (.iload_n 2, 1) := by decide +kernel
theorem dX4_byPoints_13 : decode cX4_byPoints 13 = .ok (.aload_n 0, 1) := by decide +kernel
theorem dX4_byPoints_14 : decode cX4_byPoints 14 = .ok (.getfield 25, 3) := by decide +kernel
theorem dX4_byPoints_17 : decode cX4_byPoints 17 = .ok (.if_icmp .ge 19, 3) := by decide +kernel
theorem dX4_byPoints_20 : decode cX4_byPoints 20 = .ok (.aload_n 0, 1) := by decide +kernel
theorem dX4_byPoints_21 : decode cX4_byPoints 21 = .ok (.getfield 9, 3) := by decide +kernel
theorem dX4_byPoints_24 : decode cX4_byPoints 24 = .ok (.iload_n 2, 1) := by decide +kernel
theorem dX4_byPoints_25 : decode cX4_byPoints 25 = .ok (.iaload, 1) := by decide +kernel
theorem dX4_byPoints_26 : decode cX4_byPoints 26 = .ok (.iload_n 1, 1) := by decide +kernel
theorem dX4_byPoints_27 : decode cX4_byPoints 27 = .ok (.if_icmp .gt 9, 3) := by decide +kernel
theorem dX4_byPoints_30 : decode cX4_byPoints 30 = .ok (.iinc 2 1, 3) := by decide +kernel
theorem dX4_byPoints_33 : decode cX4_byPoints 33 = .ok (.goto (-21), 3) := by decide +kernel
theorem dX4_byPoints_36 : decode cX4_byPoints 36 = .ok (.iload_n 2, 1) := by decide +kernel
theorem dX4_byPoints_37 : decode cX4_byPoints 37 = .ok (.ifCond .eq 11, 3) := by decide +kernel
theorem dX4_byPoints_40 : decode cX4_byPoints 40 = .ok (.iload_n 2, 1) := by decide +kernel
theorem dX4_byPoints_41 : decode cX4_byPoints 41 = .ok (.aload_n 0, 1) := by decide +kernel
theorem dX4_byPoints_42 : decode cX4_byPoints 42 = .ok (.getfield 25, 3) := by decide +kernel
theorem dX4_byPoints_45 : decode cX4_byPoints 45 = .ok (.if_icmp .ne 27, 3) := by decide +kernel
theorem dX4_byPoints_48 : decode cX4_byPoints 48 = .ok (.sipush 1000, 3) := by decide +kernel
theorem dX4_byPoints_51 : decode cX4_byPoints 51 = .ok (.aload_n 0, 1) := by decide +kernel
theorem dX4_byPoints_52 : decode cX4_byPoints 52 = .ok (.getfield 15, 3) := by decide +kernel
theorem dX4_byPoints_55 : decode cX4_byPoints 55 = .ok (.iload_n 2, 1) := by decide +kernel
theorem dX4_byPoints_56 : decode cX4_byPoints 56 = .ok (.ifCond .ne 7, 3) := by decide +kernel
theorem dX4_byPoints_59 : decode cX4_byPoints 59 = .ok (.iconst 0, 1) := by decide +kernel
theorem dX4_byPoints_60 : decode cX4_byPoints 60 = .ok (.goto 9, 3) := by decide +kernel
theorem dX4_byPoints_63 : decode cX4_byPoints 63 = .ok (.aload_n 0, 1) := by decide +kernel
theorem dX4_byPoints_64 : decode cX4_byPoints 64 = .ok (.getfield 25, 3) := by decide +kernel
theorem dX4_byPoints_67 : decode cX4_byPoints 67 = .ok (.iconst 1, 1) := by decide +kernel
theorem dX4_byPoints_68 : decode cX4_byPoints 68 = .ok (.isub, 1) := by decide +kernel
theorem dX4_byPoints_69 : decode cX4_byPoints 69 = .ok (.iaload, 1) := by decide +kernel
theorem dX4_byPoints_70 : decode cX4_byPoints 70 = .ok (.imul, 1) := by decide +kernel
theorem dX4_byPoints_71 : decode cX4_byPoints 71 = .ok (.ireturn, 1) := by decide +kernel
theorem dX4_byPoints_72 : decode cX4_byPoints 72 = .ok (.iload_n 2, 1) := by decide +kernel
theorem dX4_byPoints_73 : decode cX4_byPoints 73 = .ok (.iconst 1, 1) := by decide +kernel
theorem dX4_byPoints_74 : decode cX4_byPoints 74 = .ok (.isub, 1) := by decide +kernel
theorem dX4_byPoints_75 : decode cX4_byPoints 75 = .ok (.istore_n 3, 1) := by decide +kernel
theorem dX4_byPoints_76 : decode cX4_byPoints 76 = .ok (.sipush 1000, 3) := by decide +kernel
theorem dX4_byPoints_79 : decode cX4_byPoints 79 = .ok (.aload_n 0, 1) := by decide +kernel
theorem dX4_byPoints_80 : decode cX4_byPoints 80 = .ok (.getfield 15, 3) := by decide +kernel
theorem dX4_byPoints_83 : decode cX4_byPoints 83 = .ok (.iload_n 3, 1) := by decide +kernel
theorem dX4_byPoints_84 : decode cX4_byPoints 84 = .ok (.iaload, 1) := by decide +kernel
theorem dX4_byPoints_85 : decode cX4_byPoints 85 = .ok (.imul, 1) := by decide +kernel
theorem dX4_byPoints_86 : decode cX4_byPoints 86 = .ok (.istore 4, 2) := by decide +kernel
theorem dX4_byPoints_88 : decode cX4_byPoints 88 = .ok (.aload_n 0, 1) := by decide +kernel
theorem dX4_byPoints_89 : decode cX4_byPoints 89 = .ok (.getfield 9, 3) := by decide +kernel
theorem dX4_byPoints_92 : decode cX4_byPoints 92 = .ok (.iload_n 2, 1) := by decide +kernel
theorem dX4_byPoints_93 : decode cX4_byPoints 93 = .ok (.iaload, 1) := by decide +kernel
theorem dX4_byPoints_94 : decode cX4_byPoints 94 = .ok (.aload_n 0, 1) := by decide +kernel
theorem dX4_byPoints_95 : decode cX4_byPoints 95 = .ok (.getfield 9, 3) := by decide +kernel
theorem dX4_byPoints_98 : decode cX4_byPoints 98 = .ok (.iload_n 3, 1) := by decide +kernel
theorem dX4_byPoints_99 : decode cX4_byPoints 99 = .ok (.iaload, 1) := by decide +kernel
theorem dX4_byPoints_100 : decode cX4_byPoints 100 = .ok (.isub, 1) := by decide +kernel
theorem dX4_byPoints_101 : decode cX4_byPoints 101 = .ok (.istore 5, 2) := by decide +kernel
theorem dX4_byPoints_103 : decode cX4_byPoints 103 = .ok (.sipush 1000, 3) := by decide +kernel
theorem dX4_byPoints_106 : decode cX4_byPoints 106 = .ok (.aload_n 0, 1) := by decide +kernel
theorem dX4_byPoints_107 : decode cX4_byPoints 107 = .ok (.getfield 15, 3) := by decide +kernel
theorem dX4_byPoints_110 : decode cX4_byPoints 110 = .ok (.iload_n 2, 1) := by decide +kernel
theorem dX4_byPoints_111 : decode cX4_byPoints 111 = .ok (.iaload, 1) := by decide +kernel
theorem dX4_byPoints_112 : decode cX4_byPoints 112 = .ok (.aload_n 0, 1) := by decide +kernel
theorem dX4_byPoints_113 : decode cX4_byPoints 113 = .ok (.getfield 15, 3) := by decide +kernel
theorem dX4_byPoints_116 : decode cX4_byPoints 116 = .ok (.iload_n 3, 1) := by decide +kernel
theorem dX4_byPoints_117 : decode cX4_byPoints 117 = .ok (.iaload, 1) := by decide +kernel
theorem dX4_byPoints_118 : decode cX4_byPoints 118 = .ok (.isub, 1) := by decide +kernel
theorem dX4_byPoints_119 : decode cX4_byPoints 119 = .ok (.imul, 1) := by decide +kernel
theorem dX4_byPoints_120 : decode cX4_byPoints 120 = .ok (.iload_n 1, 1) := by decide +kernel
theorem dX4_byPoints_121 : decode cX4_byPoints 121 = .ok (.aload_n 0, 1) := by decide +kernel
theorem dX4_byPoints_122 : decode cX4_byPoints 122 = .ok (.getfield 9, 3) := by decide +kernel
theorem dX4_byPoints_125 : decode cX4_byPoints 125 = .ok (.iload_n 3, 1) := by decide +kernel
theorem dX4_byPoints_126 : decode cX4_byPoints 126 = .ok (.iaload, 1) := by decide +kernel
theorem dX4_byPoints_127 : decode cX4_byPoints 127 = .ok (.isub, 1) := by decide +kernel
theorem dX4_byPoints_128 : decode cX4_byPoints 128 = .ok (.imul, 1) := by decide +kernel
theorem dX4_byPoints_129 : decode cX4_byPoints 129 = .ok (.istore 6, 2) := by decide +kernel
theorem dX4_byPoints_131 : decode cX4_byPoints 131 = .ok (.iload 5, 2) := by decide +kernel
theorem dX4_byPoints_133 : decode cX4_byPoints 133 = .ok (.iconst 1, 1) := by decide +kernel
theorem dX4_byPoints_134 : decode cX4_byPoints 134 = .ok (.if_icmp .ge 8, 3) := by decide +kernel
theorem dX4_byPoints_137 : decode cX4_byPoints 137 = .ok (.iload 4, 2) := by decide +kernel
theorem dX4_byPoints_139 : decode cX4_byPoints 139 = .ok (.goto 11, 3) := by decide +kernel
theorem dX4_byPoints_142 : decode cX4_byPoints 142 = .ok (.iload 4, 2) := by decide +kernel
theorem dX4_byPoints_144 : decode cX4_byPoints 144 = .ok (.iload 6, 2) := by decide +kernel
theorem dX4_byPoints_146 : decode cX4_byPoints 146 = .ok (.iload 5, 2) := by decide +kernel
theorem dX4_byPoints_148 : decode cX4_byPoints 148 = .ok (.idiv, 1) := by decide +kernel
theorem dX4_byPoints_149 : decode cX4_byPoints 149 = .ok (.iadd, 1) := by decide +kernel
theorem dX4_byPoints_150 : decode cX4_byPoints 150 = .ok (.ireturn, 1) := by decide +kernel
theorem dX5_init_0 : decode cX5_init 0 = .ok (.aload_n 0, 1) := by decide +kernel
theorem dX5_init_1 : decode cX5_init 1 = .ok (.invokespecial 1, 3) := by decide +kernel
theorem dX5_init_4 : decode cX5_init 4 = .ok (.aload_n 0, 1) := by decide +kernel
theorem dX5_init_5 : decode cX5_init 5 = .ok (.new 7, 3) := by decide +kernel
theorem dX5_init_8 : decode cX5_init 8 = .ok (.dup, 1) := by decide +kernel
theorem dX5_init_9 : decode cX5_init 9 = .ok (.invokespecial 9, 3) := by decide +kernel
theorem dX5_init_12 : decode cX5_init 12 = .ok (.putfield 10, 3) := by decide +kernel
theorem dX5_init_15 : decode cX5_init 15 = .ok (.aload_n 0, 1) := by decide +kernel
theorem dX5_init_16 : decode cX5_init 16 = .ok (.new 7, 3) := by decide +kernel
theorem dX5_init_19 : decode cX5_init 19 = .ok (.dup, 1) := by decide +kernel
theorem dX5_init_20 : decode cX5_init 20 = .ok (.invokespecial 9, 3) := by decide +kernel
theorem dX5_init_23 : decode cX5_init 23 = .ok (.putfield 16, 3) := by decide +kernel
theorem dX5_init_26 : decode cX5_init 26 = .ok (.aload_n 0, 1) := by decide +kernel
theorem dX5_init_27 : decode cX5_init 27 = .ok (.new 19, 3) := by decide +kernel
theorem dX5_init_30 : decode cX5_init 30 = .ok (.dup, 1) := by decide +kernel
theorem dX5_init_31 : decode cX5_init 31 = .ok (.invokespecial 21, 3) := by decide +kernel
theorem dX5_init_34 : decode cX5_init 34 = .ok (.putfield 22, 3) := by decide +kernel
theorem dX5_init_37 : decode cX5_init 37 = .ok (.aload_n 0, 1) := by decide +kernel
theorem dX5_init_38 : decode cX5_init 38 = .ok (.bipush 6, 2) := by decide +kernel
theorem dX5_init_40 : decode cX5_init 40 = .ok (.anewarray 26, 3) := by decide +kernel
theorem dX5_init_43 : decode cX5_init 43 = .ok (.putfield 28, 3) := by decide +kernel
theorem dX5_init_46 : decode cX5_init 46 = .ok (.aload_n 0, 1) := by decide +kernel
theorem dX5_init_47 : decode cX5_init 47 = .ok (.iconst 4, 1) := by decide +kernel
theorem dX5_init_48 : decode cX5_init 48 = .ok (.anewarray 32, 3) := by decide +kernel
theorem dX5_init_51 : decode cX5_init 51 = .ok (.putfield 34, 3) := by decide +kernel
theorem dX5_init_54 : decode cX5_init 54 = .ok (.aload_n 0, 1) := by decide +kernel
theorem dX5_init_55 : decode cX5_init 55 = .ok (.sipush 601, 3) := by decide +kernel
theorem dX5_init_58 : decode cX5_init 58 = .ok (.newarray .int, 2) := by decide +kernel
theorem dX5_init_60 : decode cX5_init 60 = .ok (.putfield 38, 3) := by decide +kernel
theorem dX5_init_63 : decode cX5_init 63 = .ok (.aload_n 0, 1) := by decide +kernel
theorem dX5_init_64 : decode cX5_init 64 = .ok (.sipush 601, 3) := by decide +kernel
theorem dX5_init_67 : decode cX5_init 67 = .ok (.newarray .int, 2) := by decide +kernel
theorem dX5_init_69 : decode cX5_init 69 = .ok (.putfield 42, 3) := by decide +kernel
theorem dX5_init_72 : decode cX5_init 72 = .ok (.aload_n 0, 1) := by decide +kernel
theorem dX5_init_73 : decode cX5_init 73 = .ok (.bipush 6, 2) := by decide +kernel
theorem dX5_init_75 : decode cX5_init 75 = .ok (.newarray .int, 2) := by decide +kernel
theorem dX5_init_77 : decode cX5_init 77 = .ok (.putfield 45, 3) := by decide +kernel
theorem dX5_init_80 : decode cX5_init 80 = .ok (.aload_n 0, 1) := by decide +kernel
theorem dX5_init_81 : decode cX5_init 81 = .ok (.sipush 160, 3) := by decide +kernel
theorem dX5_init_84 : decode cX5_init 84 = .ok (.newarray .int, 2) := by decide +kernel
theorem dX5_init_86 : decode cX5_init 86 = .ok (.putfield 48, 3) := by decide +kernel
theorem dX5_init_89 : decode cX5_init 89 = .ok (.aload_n 0, 1) := by decide +kernel
theorem dX5_init_90 : decode cX5_init 90 = .ok (.bipush 15, 2) := by decide +kernel
theorem dX5_init_92 : decode cX5_init 92 = .ok (.newarray .int, 2) := by decide +kernel
theorem dX5_init_94 : decode cX5_init 94 = .ok (.putfield 51, 3) := by decide +kernel
theorem dX5_init_97 : decode cX5_init 97 = .ok (.aload_n 0, 1) := by decide +kernel
theorem dX5_init_98 : decode cX5_init 98 = .ok (.new 54, 3) := by decide +kernel
theorem dX5_init_101 : decode cX5_init 101 = .ok (.dup, 1) := by decide +kernel
theorem dX5_init_102 : decode cX5_init 102 = .ok (.invokespecial 56, 3) := by decide +kernel
theorem dX5_init_105 : decode cX5_init 105 = .ok (.putfield 57, 3) := by decide +kernel
theorem dX5_init_108 : decode cX5_init 108 = .ok (.iconst 0, 1) := by decide +kernel
theorem dX5_init_109 : decode cX5_init 109 = .ok (.istore_n 1, 1) := by decide +kernel
theorem dX5_init_110 : decode cX5_init 110 = .ok (.iload_n 1, 1) := by decide +kernel
theorem dX5_init_111 : decode cX5_init 111 = .ok (.bipush 6, 2) := by decide +kernel
theorem dX5_init_113 : decode cX5_init 113 = .ok (.if_icmp .ge 22, 3) := by decide +kernel
theorem dX5_init_116 : decode cX5_init 116 = .ok (.aload_n 0, 1) := by decide +kernel
theorem dX5_init_117 : decode cX5_init 117 = .ok (.getfield 28, 3) := by decide +kernel
theorem dX5_init_120 : decode cX5_init 120 = .ok (.iload_n 1, 1) := by decide +kernel
theorem dX5_init_121 : decode cX5_init 121 = .ok (.new 26, 3) := by decide +kernel
theorem dX5_init_124 : decode cX5_init 124 = .ok (.dup, 1) := by decide +kernel
theorem dX5_init_125 : decode cX5_init 125 = .ok (.invokespecial 61, 3) := by decide +kernel
theorem dX5_init_128 : decode cX5_init 128 = .ok (.aastore, 1) := by decide +kernel
theorem dX5_init_129 : decode cX5_init 129 = .ok (.iinc 1 1, 3) := by decide +kernel
theorem dX5_init_132 : decode cX5_init 132 = .ok (.goto (-22), 3) := by decide +kernel
theorem dX5_init_135 : decode cX5_init 135 = .ok (.iconst 0, 1) := by decide +kernel
theorem dX5_init_136 : decode cX5_init 136 = .ok (.istore_n 1, 1) := by decide +kernel
theorem dX5_init_137 : decode cX5_init 137 = .ok (.iload_n 1, 1) := by decide +kernel
theorem dX5_init_138 : decode cX5_init 138 = .ok (.iconst 4, 1) := by decide +kernel
theorem dX5_init_139 : decode cX5_init 139 = .ok (.if_icmp .ge 22, 3) := by decide +kernel
theorem dX5_init_142 : decode cX5_init 142 = .ok (.aload_n 0, 1) := by decide +kernel
theorem dX5_init_143 : decode cX5_init 143 = .ok (.getfield 34, 3) := by decide +kernel
theorem dX5_init_146 : decode cX5_init 146 = .ok (.iload_n 1, 1) := by decide +kernel
theorem dX5_init_147 : decode cX5_init 147 = .ok (.new 32, 3) := by decide +kernel
theorem dX5_init_150 : decode cX5_init 150 = .ok (.dup, 1) := by decide +kernel
theorem dX5_init_151 : decode cX5_init 151 = .ok (.invokespecial 62, 3) := by decide +kernel
theorem dX5_init_154 : decode cX5_init 154 = .ok (.aastore, 1) := by decide +kernel
theorem dX5_init_155 : decode cX5_init 155 = .ok (.iinc 1 1, 3) := by decide +kernel
theorem dX5_init_158 : decode cX5_init 158 = .ok (.goto (-21), 3) := by decide +kernel
theorem dX5_init_161 : decode cX5_init 161 = .ok (.aload_n 0, 1) := by decide +kernel
theorem dX5_init_162 : decode cX5_init 162 = .ok (.getfield 28, 3) := by decide +kernel
theorem dX5_init_165 : decode cX5_init 165 = .ok (.iconst 0, 1) := by decide +kernel
theorem dX5_init_166 : decode cX5_init 166 = .ok (.aaload, 1) := by decide +kernel
theorem dX5_init_167 : decode cX5_init 167 = .ok (.invokevirtual 63, 3) := by decide +kernel
theorem dX5_init_170 : decode cX5_init 170 = .ok (.aload_n 0, 1) := by decide +kernel
theorem dX5_init_171 : decode cX5_init 171 = .ok (.iconst 1, 1) := by decide +kernel
theorem dX5_init_172 : decode cX5_init 172 = .ok (.putfield 66, 3) := by decide +kernel
theorem dX5_init_175 : decode cX5_init 175 = .ok (.return_, 1) := by decide +kernel
theorem dX5_set_0 : decode cX5_set 0 = .ok (.iload_n 1, 1) := by decide +kernel
theorem dX5_set_1 : decode cX5_set 1 = .ok (.ifCond .ne 9, 3) := by decide +kernel
theorem dX5_set_4 : decode cX5_set 4 = .ok (.aload_n 0, 1) := by decide +kernel
theorem dX5_set_5 : decode cX5_set 5 = .ok (.iload_n 3, 1) := by decide +kernel
theorem dX5_set_6 : decode cX5_set 6 = .ok (.invokevirtual 70, 3) := by decide +kernel
theorem dX5_set_9 : decode cX5_set 9 = .ok (.ireturn, 1) := by decide +kernel
theorem dX5_set_10 : decode cX5_set 10 = .ok (.iload_n 1, 1) := by decide +kernel
theorem dX5_set_11 : decode cX5_set 11 = .ok (.iconst 1, 1) := by decide +kernel
theorem dX5_set_12 : decode cX5_set 12 = .ok (.if_icmp .ne 12, 3) := by decide +kernel
theorem dX5_set_15 : decode cX5_set 15 = .ok (.aload_n 0, 1) := by decide +kernel
theorem dX5_set_16 : decode cX5_set 16 = .ok (.iload_n 2, 1) := by decide +kernel
theorem dX5_set_17 : decode cX5_set 17 = .ok (.iload_n 3, 1) := by decide +kernel
theorem dX5_set_18 : decode cX5_set 18 = .ok (.invokevirtual 74, 3) := by decide +kernel
theorem dX5_set_21 : decode cX5_set 21 = .ok (.goto 5, 3) := by decide +kernel
theorem dX5_set_24 : decode cX5_set 24 = .ok (.bipush (-2), 2) := by decide +kernel
theorem dX5_set_26 : decode cX5_set 26 = .ok (.ireturn, 1) := by decide +kernel
theorem dX5_changeLong_0 : decode cX5_changeLong 0 = .ok (.iload_n 1, 1) := by decide +kernel
theorem dX5_changeLong_1 : decode cX5_changeLong 1 = .ok (.bipush 10, 2) := by decide +kernel
theorem dX5_changeLong_3 : decode cX5_changeLong 3 = .ok (.if_icmp .lt 10, 3) := by decide +kernel
theorem dX5_changeLong_6 : decode cX5_changeLong 6 = .ok (.iload_n 1, 1) := by decide +kernel
theorem dX5_changeLong_7 : decode cX5_changeLong 7 = .ok (.sipush 999, 3) := by decide +kernel
theorem dX5_changeLong_10 : decode cX5_changeLong 10 = .ok (.if_icmp .le 6, 3) := by decide +kernel
theorem dX5_changeLong_13 : decode cX5_changeLong 13 = .ok (.bipush (-2), 2) := by decide +kernel
theorem dX5_changeLong_15 : decode cX5_changeLong 15 = .ok (.ireturn, 1) := by decide +kernel
theorem dX5_changeLong_16 : decode cX5_changeLong 16 = .ok (.iload_n 1, 1) := by decide +kernel
theorem dX5_changeLong_17 : decode cX5_changeLong 17 = .ok (.aload_n 0, 1) := by decide +kernel
theorem dX5_changeLong_18 : decode cX5_changeLong 18 = .ok (.getfield 10, 3) := by decide +kernel
theorem dX5_changeLong_21 : decode cX5_changeLong 21 = .ok (.invokevirtual 78, 3) := by decide +kernel
theorem dX5_changeLong_24 : decode cX5_changeLong 24 = .ok (.if_icmp .ge 6, 3) := by decide +kernel
theorem dX5_changeLong_27 : decode cX5_changeLong 27 = .ok (.bipush (-3), 2) := by decide +kernel
theorem dX5_changeLong_29 : decode cX5_changeLong 29 = .ok (.ireturn, 1) := by decide +kernel
theorem dX5_changeLong_30 : decode cX5_changeLong 30 = .ok (.aload_n 0, 1) := by decide +kernel
theorem dX5_changeLong_31 : decode cX5_changeLong 31 = .ok (.getfield 10, 3) := by decide +kernel
theorem dX5_changeLong_34 : decode cX5_changeLong 34 = .ok (.getfield 82, 3) := by decide +kernel
theorem dX5_changeLong_37 : decode cX5_changeLong 37 = .ok (.istore_n 2, 1) := by decide +kernel
theorem dX5_changeLong_38 : decode cX5_changeLong 38 = .ok (.aload_n 0, 1) := by decide +kernel
theorem dX5_changeLong_39 : decode cX5_changeLong 39 = .ok (.getfield 10, 3) := by decide +kernel
theorem dX5_changeLong_42 : decode cX5_changeLong 42 = .ok (.iload_n 1, 1) := by decide +kernel
theorem dX5_changeLong_43 : decode cX5_changeLong 43 = .ok (.putfield 82, 3) := by decide +kernel
theorem dX5_changeLong_46 : decode cX5_changeLong 46 = .ok (.iload_n 2, 1) := by decide +kernel
theorem dX5_changeLong_47 : decode cX5_changeLong 47 = .ok (.ireturn, 1) := by decide +kernel
theorem dX5_changeNumber_0 : decode cX5_changeNumber 0 = .ok (.aload_n 0, 1) := by decide +kernel
theorem dX5_changeNumber_1 : decode cX5_changeNumber 1 = .ok (.getfield 10, 3) := by decide +kernel
theorem dX5_changeNumber_4 : decode cX5_changeNumber 4 = .ok (.iload_n 1, 1) := by decide +kernel
theorem dX5_changeNumber_5 : decode cX5_changeNumber 5 = .ok (.invokevirtual 85, 3) := by decide +kernel
theorem dX5_changeNumber_8 : decode cX5_changeNumber 8 = .ok (.ifCond .eq 10, 3) := by decide +kernel
theorem dX5_changeNumber_11 : decode cX5_changeNumber 11 = .ok (.iload_n 2, 1) := by decide +kernel
theorem dX5_changeNumber_12 : decode cX5_changeNumber 12 = .ok (.invokestatic 89, 3) := by decide +kernel
theorem dX5_changeNumber_15 : decode cX5_changeNumber 15 = .ok (.ifCond .ne 6, 3) := by decide +kernel
theorem dX5_changeNumber_18 : decode cX5_changeNumber 18 = .ok (.bipush (-2), 2) := by decide +kernel
theorem dX5_changeNumber_20 : decode cX5_changeNumber 20 = .ok (.ireturn, 1) := by decide +kernel
theorem dX5_changeNumber_21 : decode cX5_changeNumber 21 = .ok (.aload_n 0, 1) := by decide +kernel
theorem dX5_changeNumber_22 : decode cX5_changeNumber 22 = .ok (.getfield 10, 3) := by decide +kernel
theorem dX5_changeNumber_25 : decode cX5_changeNumber 25 = .ok (.getfield 92, 3) := by decide +kernel
theorem dX5_changeNumber_28 : decode cX5_changeNumber 28 = .ok (.iload_n 1, 1) := by decide +kernel
theorem dX5_changeNumber_29 : decode cX5_changeNumber 29 = .ok (.aaload, 1) := by decide +kernel
theorem dX5_changeNumber_30 : decode cX5_changeNumber 30 = .ok (.getfield 96, 3) := by decide +kernel
theorem dX5_changeNumber_33 : decode cX5_changeNumber 33 = .ok (.istore_n 3, 1) := by decide +kernel
theorem dX5_changeNumber_34 : decode cX5_changeNumber 34 = .ok (.aload_n 0, 1) := by decide +kernel
theorem dX5_changeNumber_35 : decode cX5_changeNumber 35 = .ok (.getfield 10, 3) := by decide +kernel
theorem dX5_changeNumber_38 : decode cX5_changeNumber 38 = .ok (.getfield 92, 3) := by decide +kernel
theorem dX5_changeNumber_41 : decode cX5_changeNumber 41 = .ok (.iload_n 1, 1) := by decide +kernel
theorem dX5_changeNumber_42 : decode cX5_changeNumber 42 = .ok (.aaload, 1) := by decide +kernel
theorem dX5_changeNumber_43 : decode cX5_changeNumber 43 = .ok (.iload_n 2, 1) := by decide +kernel
theorem dX5_changeNumber_44 : decode cX5_changeNumber 44 = .ok (.putfield 96, 3) := by decide +kernel
theorem dX5_changeNumber_47 : decode cX5_changeNumber 47 = .ok (.iload_n 3, 1) := by decide +kernel
theorem dX5_changeNumber_48 : decode cX5_changeNumber 48 = .ok (.ireturn, 1) := by decide +kernel
theorem dX5_way_0 : decode cX5_way 0 = .ok (.iload_n 1, 1) := by decide +kernel
theorem dX5_way_1 : decode cX5_way 1 = .ok (.invokestatic 99, 3) := by decide +kernel
theorem dX5_way_4 : decode cX5_way 4 = .ok (.ifCond .eq 10, 3) := by decide +kernel
theorem dX5_way_7 : decode cX5_way 7 = .ok (.iload_n 2, 1) := by decide +kernel
theorem dX5_way_8 : decode cX5_way 8 = .ok (.invokestatic 89, 3) := by decide +kernel
theorem dX5_way_11 : decode cX5_way 11 = .ok (.ifCond .ne 6, 3) := by decide +kernel
theorem dX5_way_14 : decode cX5_way 14 = .ok (.bipush (-2), 2) := by decide +kernel
theorem dX5_way_16 : decode cX5_way 16 = .ok (.ireturn, 1) := by decide +kernel
theorem dX5_way_17 : decode cX5_way 17 = .ok (.aload_n 0, 1) := by decide +kernel
theorem dX5_way_18 : decode cX5_way 18 = .ok (.getfield 10, 3) := by decide +kernel
theorem dX5_way_21 : decode cX5_way 21 = .ok (.getfield 102, 3) := by decide +kernel
theorem dX5_way_24 : decode cX5_way 24 = .ok (.bipush 6, 2) := by decide +kernel
theorem dX5_way_26 : decode cX5_way 26 = .ok (.if_icmp .lt 6, 3) := by decide +kernel
theorem dX5_way_29 : decode cX5_way 29 = .ok (.bipush (-4), 2) := by decide +kernel
theorem dX5_way_31 : decode cX5_way 31 = .ok (.ireturn, 1) := by decide +kernel
theorem dX5_way_32 : decode cX5_way 32 = .ok (.aload_n 0, 1) := by decide +kernel
theorem dX5_way_33 : decode cX5_way 33 = .ok (.getfield 10, 3) := by decide +kernel
theorem dX5_way_36 : decode cX5_way 36 = .ok (.getfield 92, 3) := by decide +kernel
theorem dX5_way_39 : decode cX5_way 39 = .ok (.aload_n 0, 1) := by decide +kernel
theorem dX5_way_40 : decode cX5_way 40 = .ok (.getfield 10, 3) := by decide +kernel
theorem dX5_way_43 : decode cX5_way 43 = .ok (.getfield 102, 3) := by decide +kernel
theorem dX5_way_46 : decode cX5_way 46 = .ok (.aaload, 1) := by decide +kernel
theorem dX5_way_47 : decode cX5_way 47 = .ok (.iload_n 1, 1) := by decide +kernel
theorem dX5_way_48 : decode cX5_way 48 = .ok (.iload_n 2, 1) := by decide +kernel
theorem dX5_way_49 : decode cX5_way 49 = .ok (.invokevirtual 105, 3) := by decide +kernel
theorem dX5_way_52 : decode cX5_way 52 = .ok (.aload_n 0, 1) := by decide +kernel
theorem dX5_way_53 : decode cX5_way 53 = .ok (.getfield 10, 3) := by decide +kernel
theorem dX5_way_56 : decode cX5_way 56 = .ok (.dup, 1) := by decide +kernel
theorem dX5_way_57 : decode cX5_way 57 = .ok (.getfield 102, 3) := by decide +kernel
theorem dX5_way_60 : decode cX5_way 60 = .ok (.iconst 1, 1) := by decide +kernel
theorem dX5_way_61 : decode cX5_way 61 = .ok (.iadd, 1) := by decide +kernel
theorem dX5_way_62 : decode cX5_way 62 = .ok (.putfield 102, 3) := by decide +kernel
theorem dX5_way_65 : decode cX5_way 65 = .ok (.aload_n 0, 1) := by decide +kernel
theorem dX5_way_66 : decode cX5_way 66 = .ok (.getfield 10, 3) := by decide +kernel
theorem dX5_way_69 : decode cX5_way 69 = .ok (.getfield 102, 3) := by decide +kernel
theorem dX5_way_72 : decode cX5_way 72 = .ok (.iconst 1, 1) := by decide +kernel
theorem dX5_way_73 : decode cX5_way 73 = .ok (.isub, 1) := by decide +kernel
theorem dX5_way_74 : decode cX5_way 74 = .ok (.ireturn, 1) := by decide +kernel
theorem dX5_point_0 : decode cX5_point 0 = .ok (.aload_n 0, 1) := by decide +kernel
theorem dX5_point_1 : decode cX5_point 1 = .ok (.iload_n 1, 1) := by decide +kernel
theorem dX5_point_2 : decode cX5_point 2 = .ok (.iload_n 2, 1) := by decide +kernel
theorem dX5_point_3 : decode cX5_point 3 = .ok (.iload_n 3, 1) := by decide +kernel
theorem dX5_point_4 : decode cX5_point 4 = .ok (.invokevirtual 109, 3) := by decide +kernel
theorem dX5_point_7 : decode cX5_point 7 = .ok (.ireturn, 1) := by decide +kernel
theorem dX5_addPoint_0 : decode cX5_addPoint 0 = .ok (.aload_n 0, 1) := by decide +kernel
theorem dX5_addPoint_1 : decode cX5_addPoint 1 = .ok (.getfield 10, 3) := by decide +kernel
theorem dX5_addPoint_4 : decode cX5_addPoint 4 = .ok (.iload_n 1, 1) := by decide +kernel
theorem dX5_addPoint_5 : decode cX5_addPoint 5 = .ok (.invokevirtual 85, 3) := by decide +kernel
theorem dX5_addPoint_8 : decode cX5_addPoint 8 = .ok (.ifCond .eq 25, 3) := by decide +kernel
theorem dX5_addPoint_11 : decode cX5_addPoint 11 = .ok (.iload_n 2, 1) := by decide +kernel
theorem dX5_addPoint_12 : decode cX5_addPoint 12 = .ok (.invokestatic 113, 3) := by decide +kernel
theorem dX5_addPoint_15 : decode cX5_addPoint 15 = .ok (.ifCond .eq 18, 3) := by decide +kernel
theorem dX5_addPoint_18 : decode cX5_addPoint 18 = .ok (.iload_n 3, 1) := by decide +kernel
theorem dX5_addPoint_19 : decode cX5_addPoint 19 = .ok (.ifCond .lt 14, 3) := by decide +kernel
theorem dX5_addPoint_22 : decode cX5_addPoint 22 = .ok (.iload_n 3, 1) := by decide +kernel
theorem dX5_addPoint_23 : decode cX5_addPoint 23 = .ok (.aload_n 0, 1) := by decide +kernel
theorem dX5_addPoint_24 : decode cX5_addPoint 24 = .ok (.getfield 10, 3) := by decide +kernel
theorem dX5_addPoint_27 : decode cX5_addPoint 27 = .ok (.getfield 82, 3) := by decide +kernel
theorem dX5_addPoint_30 : decode cX5_addPoint 30 = .ok (.if_icmp .le 6, 3) := by decide +kernel
theorem dX5_addPoint_33 : decode cX5_addPoint 33 = .ok (.bipush (-2), 2) := by decide +kernel
theorem dX5_addPoint_35 : decode cX5_addPoint 35 = .ok (.ireturn, 1) := by decide +kernel
theorem dX5_addPoint_36 : decode cX5_addPoint 36 = .ok (.aload_n 0, 1) := by decide +kernel
theorem dX5_addPoint_37 : decode cX5_addPoint 37 = .ok (.getfield 10, 3) := by decide +kernel
theorem dX5_addPoint_40 : decode cX5_addPoint 40 = .ok (.getfield 92, 3) := by decide +kernel
theorem dX5_addPoint_43 : decode cX5_addPoint 43 = .ok (.iload_n 1, 1) := by decide +kernel
theorem dX5_addPoint_44 : decode cX5_addPoint 44 = .ok (.aaload, 1) := by decide +kernel
theorem dX5_addPoint_45 : decode cX5_addPoint 45 = .ok (.astore 4, 2) := by decide +kernel
theorem dX5_addPoint_47 : decode cX5_addPoint 47 = .ok (.aload 4, 2) := by decide +kernel
theorem dX5_addPoint_49 : decode cX5_addPoint 49 = .ok (.iload_n 2, 1) := by decide +kernel
theorem dX5_addPoint_50 : decode cX5_addPoint 50 = .ok (.invokevirtual 116, 3) := by decide +kernel
theorem dX5_addPoint_53 : decode cX5_addPoint 53 = .ok (.ifCond .ne 6, 3) := by decide +kernel
theorem dX5_addPoint_56 : decode cX5_addPoint 56 = .ok (.bipush (-2), 2) := by decide +kernel
theorem dX5_addPoint_58 : decode cX5_addPoint 58 = .ok (.ireturn, 1) := by decide +kernel
theorem dX5_addPoint_59 : decode cX5_addPoint 59 = .ok (.aload 4, 2) := by decide +kernel
theorem dX5_addPoint_61 : decode cX5_addPoint 61 = .ok (.getfield 119, 3) := by decide +kernel
theorem dX5_addPoint_64 : decode cX5_addPoint 64 = .ok (.bipush 8, 2) := by decide +kernel
theorem dX5_addPoint_66 : decode cX5_addPoint 66 = .ok (.if_icmp .lt 6, 3) := by decide +kernel
theorem dX5_addPoint_69 : decode cX5_addPoint 69 = .ok (.bipush (-4), 2) := by decide +kernel
theorem dX5_addPoint_71 : decode cX5_addPoint 71 = .ok (.ireturn, 1) := by decide +kernel
theorem dX5_addPoint_72 : decode cX5_addPoint 72 = .ok (.aload 4, 2) := by decide +kernel
theorem dX5_addPoint_74 : decode cX5_addPoint 74 = .ok (.iload_n 2, 1) := by decide +kernel
theorem dX5_addPoint_75 : decode cX5_addPoint 75 = .ok (.iload_n 3, 1) := by decide +kernel
theorem dX5_addPoint_76 : decode cX5_addPoint 76 = .ok (.invokevirtual 120, 3) := by decide +kernel
theorem dX5_addPoint_79 : decode cX5_addPoint 79 = .ok (.aload 4, 2) := by decide +kernel
theorem dX5_addPoint_81 : decode cX5_addPoint 81 = .ok (.getfield 119, 3) := by decide +kernel
theorem dX5_addPoint_84 : decode cX5_addPoint 84 = .ok (.ireturn, 1) := by decide +kernel
theorem dX5_clear_0 : decode cX5_clear 0 = .ok (.aload_n 0, 1) := by decide +kernel
theorem dX5_clear_1 : decode cX5_clear 1 = .ok (.getfield 10, 3) := by decide +kernel
theorem dX5_clear_4 : decode cX5_clear 4 = .ok (.iload_n 1, 1) := by decide +kernel
theorem dX5_clear_5 : decode cX5_clear 5 = .ok (.invokevirtual 85, 3) := by decide +kernel
theorem dX5_clear_8 : decode cX5_clear 8 = .ok (.ifCond .ne 6, 3) := by decide +kernel
theorem dX5_clear_11 : decode cX5_clear 11 = .ok (.bipush (-2), 2) := by decide +kernel
theorem dX5_clear_13 : decode cX5_clear 13 = .ok (.ireturn, 1) := by decide +kernel
theorem dX5_clear_14 : decode cX5_clear 14 = .ok (.aload_n 0, 1) := by decide +kernel
theorem dX5_clear_15 : decode cX5_clear 15 = .ok (.getfield 10, 3) := by decide +kernel
theorem dX5_clear_18 : decode cX5_clear 18 = .ok (.getfield 92, 3) := by decide +kernel
theorem dX5_clear_21 : decode cX5_clear 21 = .ok (.iload_n 1, 1) := by decide +kernel
theorem dX5_clear_22 : decode cX5_clear 22 = .ok (.aaload, 1) := by decide +kernel
theorem dX5_clear_23 : decode cX5_clear 23 = .ok (.getfield 119, 3) := by decide +kernel
theorem dX5_clear_26 : decode cX5_clear 26 = .ok (.istore_n 2, 1) := by decide +kernel
theorem dX5_clear_27 : decode cX5_clear 27 = .ok (.aload_n 0, 1) := by decide +kernel
theorem dX5_clear_28 : decode cX5_clear 28 = .ok (.getfield 10, 3) := by decide +kernel
theorem dX5_clear_31 : decode cX5_clear 31 = .ok (.getfield 92, 3) := by decide +kernel
theorem dX5_clear_34 : decode cX5_clear 34 = .ok (.iload_n 1, 1) := by decide +kernel
theorem dX5_clear_35 : decode cX5_clear 35 = .ok (.aaload, 1) := by decide +kernel
theorem dX5_clear_36 : decode cX5_clear 36 = .ok (.iconst 0, 1) := by decide +kernel
theorem dX5_clear_37 : decode cX5_clear 37 = .ok (.putfield 119, 3) := by decide +kernel
theorem dX5_clear_40 : decode cX5_clear 40 = .ok (.iload_n 2, 1) := by decide +kernel
theorem dX5_clear_41 : decode cX5_clear 41 = .ok (.ireturn, 1) := by decide +kernel
theorem dX5_told_0 : decode cX5_told 0 = .ok (.aload_n 0, 1) := by decide +kernel
theorem dX5_told_1 : decode cX5_told 1 = .ok (.getfield 10, 3) := by decide +kernel
theorem dX5_told_4 : decode cX5_told 4 = .ok (.iload_n 1, 1) := by decide +kernel
theorem dX5_told_5 : decode cX5_told 5 = .ok (.invokevirtual 85, 3) := by decide +kernel
theorem dX5_told_8 : decode cX5_told 8 = .ok (.ifCond .eq 7, 3) := by decide +kernel
theorem dX5_told_11 : decode cX5_told 11 = .ok (.iload_n 2, 1) := by decide +kernel
theorem dX5_told_12 : decode cX5_told 12 = .ok (.ifCond .ge 6, 3) := by decide +kernel
theorem dX5_told_15 : decode cX5_told 15 = .ok (.bipush (-2), 2) := by decide +kernel
theorem dX5_told_17 : decode cX5_told 17 = .ok (.ireturn, 1) := by decide +kernel
theorem dX5_told_18 : decode cX5_told 18 = .ok (.aload_n 0, 1) := by decide +kernel
theorem dX5_told_19 : decode cX5_told 19 = .ok (.getfield 10, 3) := by decide +kernel
theorem dX5_told_22 : decode cX5_told 22 = .ok (.getfield 92, 3) := by decide +kernel
theorem dX5_told_25 : decode cX5_told 25 = .ok (.iload_n 1, 1) := by decide +kernel
theorem dX5_told_26 : decode cX5_told 26 = .ok (.aaload, 1) := by decide +kernel
theorem dX5_told_27 : decode cX5_told 27 = .ok (.astore_n 3, 1) := by decide +kernel
theorem dX5_told_28 : decode cX5_told 28 = .ok (.iload_n 2, 1) := by decide +kernel
theorem dX5_told_29 : decode cX5_told 29 = .ok (.ifCond .ne 8, 3) := by decide +kernel
theorem dX5_told_32 : decode cX5_told 32 = .ok (.aload_n 3, 1) := by decide +kernel
theorem dX5_told_33 : decode cX5_told 33 = .ok (.getfield 123, 3) := by decide +kernel
theorem dX5_told_36 : decode cX5_told 36 = .ok (.ireturn, 1) := by decide +kernel
theorem dX5_told_37 : decode cX5_told 37 = .ok (.iload_n 2, 1) := by decide +kernel
theorem dX5_told_38 : decode cX5_told 38 = .ok (.iconst 1, 1) := by decide +kernel
theorem dX5_told_39 : decode cX5_told 39 = .ok (.if_icmp .ne 8, 3) := by decide +kernel
theorem dX5_told_42 : decode cX5_told 42 = .ok (.aload_n 3, 1) := by decide +kernel
theorem dX5_told_43 : decode cX5_told 43 = .ok (.getfield 96, 3) := by decide +kernel
theorem dX5_told_46 : decode cX5_told 46 = .ok (.ireturn, 1) := by decide +kernel
theorem dX5_told_47 : decode cX5_told 47 = .ok (.iload_n 2, 1) := by decide +kernel
theorem dX5_told_48 : decode cX5_told 48 = .ok (.iconst 2, 1) := by decide +kernel
theorem dX5_told_49 : decode cX5_told 49 = .ok (.if_icmp .ne 8, 3) := by decide +kernel
theorem dX5_told_52 : decode cX5_told 52 = .ok (.aload_n 3, 1) := by decide +kernel
theorem dX5_told_53 : decode cX5_told 53 = .ok (.getfield 119, 3) := by decide +kernel
theorem dX5_told_56 : decode cX5_told 56 = .ok (.ireturn, 1) := by decide +kernel
theorem dX5_told_57 : decode cX5_told 57 = .ok (.iload_n 2, 1) := by decide +kernel
theorem dX5_told_58 : decode cX5_told 58 = .ok (.iconst 3, 1) := by decide +kernel
theorem dX5_told_59 : decode cX5_told 59 = .ok (.isub, 1) := by decide +kernel
theorem dX5_told_60 : decode cX5_told 60 = .ok (.iconst 2, 1) := by decide +kernel
theorem dX5_told_61 : decode cX5_told 61 = .ok (.idiv, 1) := by decide +kernel
theorem dX5_told_62 : decode cX5_told 62 = .ok (.istore 4, 2) := by decide +kernel
theorem dX5_told_64 : decode cX5_told 64 = .ok (.iload 4, 2) := by decide +kernel
theorem dX5_told_66 : decode cX5_told 66 = .ok (.aload_n 3, 1) := by decide +kernel
theorem dX5_told_67 : decode cX5_told 67 = .ok (.getfield 119, 3) := by decide +kernel
theorem dX5_told_70 : decode cX5_told 70 = .ok (.if_icmp .lt 6, 3) := by decide +kernel
theorem dX5_told_73 : decode cX5_told 73 = .ok (.bipush (-2), 2) := by decide +kernel
theorem dX5_told_75 : decode cX5_told 75 = .ok (.ireturn, 1) := by decide +kernel
theorem dX5_told_76 : decode cX5_told 76 = .ok (.iload_n 2, 1) := by decide +kernel
theorem dX5_told_77 : decode cX5_told 77 = .ok (.iconst 2, 1) := by decide +kernel
theorem dX5_told_78 : decode cX5_told 78 = .ok (.irem, 1) := by decide +kernel
theorem dX5_told_79 : decode cX5_told 79 = .ok (.iconst 1, 1) := by decide +kernel
theorem dX5_told_80 : decode cX5_told 80 = .ok (.if_icmp .ne 13, 3) := by decide +kernel
theorem dX5_told_83 : decode cX5_told 83 = .ok (.aload_n 3, 1) := by decide +kernel
theorem dX5_told_84 : decode cX5_told 84 = .ok (.getfield 126, 3) := by decide +kernel
theorem dX5_told_87 : decode cX5_told 87 = .ok (.iload 4, 2) := by decide +kernel
theorem dX5_told_89 : decode cX5_told 89 = .ok (.iaload, 1) := by decide +kernel
theorem dX5_told_90 : decode cX5_told 90 = .ok (.goto 10, 3) := by decide +kernel
theorem dX5_told_93 : decode cX5_told 93 = .ok (.aload_n 3, 1) := by decide +kernel
theorem dX5_told_94 : decode cX5_told 94 = .ok (.getfield 129, 3) := by decide +kernel
theorem dX5_told_97 : decode cX5_told 97 = .ok (.iload 4, 2) := by decide +kernel
theorem dX5_told_99 : decode cX5_told 99 = .ok (.iaload, 1) := by decide +kernel
theorem dX5_told_100 : decode cX5_told 100 = .ok (.ireturn, 1) := by decide +kernel
theorem dX5_feed_0 : decode cX5_feed 0 = .ok (.iload_n 1, 1) := by decide +kernel
theorem dX5_feed_1 : decode cX5_feed 1 = .ok (.ifCond .lt 10, 3) := by decide +kernel
theorem dX5_feed_4 : decode cX5_feed 4 = .ok (.iload_n 1, 1) := by decide +kernel
theorem dX5_feed_5 : decode cX5_feed 5 = .ok (.sipush 255, 3) := by decide +kernel
theorem dX5_feed_8 : decode cX5_feed 8 = .ok (.if_icmp .le 6, 3) := by decide +kernel
theorem dX5_feed_11 : decode cX5_feed 11 = .ok (.bipush (-2), 2) := by decide +kernel
theorem dX5_feed_13 : decode cX5_feed 13 = .ok (.ireturn, 1) := by decide +kernel
theorem dX5_feed_14 : decode cX5_feed 14 = .ok (.aload_n 0, 1) := by decide +kernel
theorem dX5_feed_15 : decode cX5_feed 15 = .ok (.getfield 22, 3) := by decide +kernel
theorem dX5_feed_18 : decode cX5_feed 18 = .ok (.getfield 132, 3) := by decide +kernel
theorem dX5_feed_21 : decode cX5_feed 21 = .ok (.sipush 160, 3) := by decide +kernel
theorem dX5_feed_24 : decode cX5_feed 24 = .ok (.if_icmp .lt 6, 3) := by decide +kernel
theorem dX5_feed_27 : decode cX5_feed 27 = .ok (.bipush (-4), 2) := by decide +kernel
theorem dX5_feed_29 : decode cX5_feed 29 = .ok (.ireturn, 1) := by decide +kernel
theorem dX5_feed_30 : decode cX5_feed 30 = .ok (.aload_n 0, 1) := by decide +kernel
theorem dX5_feed_31 : decode cX5_feed 31 = .ok (.getfield 22, 3) := by decide +kernel
theorem dX5_feed_34 : decode cX5_feed 34 = .ok (.iload_n 1, 1) := by decide +kernel
theorem dX5_feed_35 : decode cX5_feed 35 = .ok (.invokevirtual 133, 3) := by decide +kernel
theorem dX5_feed_38 : decode cX5_feed 38 = .ok (.aload_n 0, 1) := by decide +kernel
theorem dX5_feed_39 : decode cX5_feed 39 = .ok (.getfield 22, 3) := by decide +kernel
theorem dX5_feed_42 : decode cX5_feed 42 = .ok (.getfield 132, 3) := by decide +kernel
theorem dX5_feed_45 : decode cX5_feed 45 = .ok (.ireturn, 1) := by decide +kernel
theorem dX5_text_0 : decode cX5_text 0 = .ok (.aload_n 0, 1) := by decide +kernel
theorem dX5_text_1 : decode cX5_text 1 = .ok (.getfield 66, 3) := by decide +kernel
theorem dX5_text_4 : decode cX5_text 4 = .ok (.bipush 6, 2) := by decide +kernel
theorem dX5_text_6 : decode cX5_text 6 = .ok (.if_icmp .lt 6, 3) := by decide +kernel
theorem dX5_text_9 : decode cX5_text 9 = .ok (.bipush (-4), 2) := by decide +kernel
theorem dX5_text_11 : decode cX5_text 11 = .ok (.ireturn, 1) := by decide +kernel
theorem dX5_text_12 : decode cX5_text 12 = .ok (.aload_n 0, 1) := by decide +kernel
theorem dX5_text_13 : decode cX5_text 13 = .ok (.getfield 22, 3) := by decide +kernel
theorem dX5_text_16 : decode cX5_text 16 = .ok (.aload_n 0, 1) := by decide +kernel
theorem dX5_text_17 : decode cX5_text 17 = .ok (.getfield 28, 3) := by decide +kernel
theorem dX5_text_20 : decode cX5_text 20 = .ok (.aload_n 0, 1) := by decide +kernel
theorem dX5_text_21 : decode cX5_text 21 = .ok (.getfield 66, 3) := by decide +kernel
theorem dX5_text_24 : decode cX5_text 24 = .ok (.aaload, 1) := by decide +kernel
theorem dX5_text_25 : decode cX5_text 25 = .ok (.invokevirtual 136, 3) := by decide +kernel
theorem dX5_text_28 : decode cX5_text 28 = .ok (.istore_n 1, 1) := by decide +kernel
theorem dX5_text_29 : decode cX5_text 29 = .ok (.aload_n 0, 1) := by decide +kernel
theorem dX5_text_30 : decode cX5_text 30 = .ok (.getfield 22, 3) := by decide +kernel
theorem dX5_text_33 : decode cX5_text 33 = .ok (.iconst 0, 1) := by decide +kernel
theorem dX5_text_34 : decode cX5_text 34 = .ok (.putfield 132, 3) := by decide +kernel
theorem dX5_text_37 : decode cX5_text 37 = .ok (.iload_n 1, 1) := by decide +kernel
theorem dX5_text_38 : decode cX5_text 38 = .ok (.iconst (-1), 1) := by decide +kernel
theorem dX5_text_39 : decode cX5_text 39 = .ok (.if_icmp .eq 8, 3) := by decide +kernel
theorem dX5_text_42 : decode cX5_text 42 = .ok (.bipush (-100), 2) := by decide +kernel
theorem dX5_text_44 : decode cX5_text 44 = .ok (.iload_n 1, 1) := by decide +kernel
theorem dX5_text_45 : decode cX5_text 45 = .ok (.isub, 1) := by decide +kernel
theorem dX5_text_46 : decode cX5_text 46 = .ok (.ireturn, 1) := by decide +kernel
theorem dX5_text_47 : decode cX5_text 47 = .ok (.aload_n 0, 1) := by decide +kernel
theorem dX5_text_48 : decode cX5_text 48 = .ok (.dup, 1) := by decide +kernel
theorem dX5_text_49 : decode cX5_text 49 = .ok (.getfield 66, 3) := by decide +kernel
theorem dX5_text_52 : decode cX5_text 52 = .ok (.iconst 1, 1) := by decide +kernel
theorem dX5_text_53 : decode cX5_text 53 = .ok (.iadd, 1) := by decide +kernel
theorem dX5_text_54 : decode cX5_text 54 = .ok (.putfield 66, 3) := by decide +kernel
theorem dX5_text_57 : decode cX5_text 57 = .ok (.aload_n 0, 1) := by decide +kernel
theorem dX5_text_58 : decode cX5_text 58 = .ok (.getfield 66, 3) := by decide +kernel
theorem dX5_text_61 : decode cX5_text 61 = .ok (.iconst 1, 1) := by decide +kernel
theorem dX5_text_62 : decode cX5_text 62 = .ok (.isub, 1) := by decide +kernel
theorem dX5_text_63 : decode cX5_text 63 = .ok (.ireturn, 1) := by decide +kernel
theorem dX5_force_0 : decode cX5_force 0 = .ok (.iload_n 1, 1) := by decide +kernel
theorem dX5_force_1 : decode cX5_force 1 = .ok (.ifCond .lt 11, 3) := by decide +kernel
theorem dX5_force_4 : decode cX5_force 4 = .ok (.iload_n 1, 1) := by decide +kernel
theorem dX5_force_5 : decode cX5_force 5 = .ok (.aload_n 0, 1) := by decide +kernel
theorem dX5_force_6 : decode cX5_force 6 = .ok (.getfield 66, 3) := by decide +kernel
theorem dX5_force_9 : decode cX5_force 9 = .ok (.if_icmp .lt 6, 3) := by decide +kernel
theorem dX5_force_12 : decode cX5_force 12 = .ok (.bipush (-2), 2) := by decide +kernel
theorem dX5_force_14 : decode cX5_force 14 = .ok (.ireturn, 1) := by decide +kernel
theorem dX5_force_15 : decode cX5_force 15 = .ok (.aload_n 0, 1) := by decide +kernel
theorem dX5_force_16 : decode cX5_force 16 = .ok (.getfield 10, 3) := by decide +kernel
theorem dX5_force_19 : decode cX5_force 19 = .ok (.getfield 140, 3) := by decide +kernel
theorem dX5_force_22 : decode cX5_force 22 = .ok (.istore_n 2, 1) := by decide +kernel
theorem dX5_force_23 : decode cX5_force 23 = .ok (.aload_n 0, 1) := by decide +kernel
theorem dX5_force_24 : decode cX5_force 24 = .ok (.getfield 10, 3) := by decide +kernel
theorem dX5_force_27 : decode cX5_force 27 = .ok (.iload_n 1, 1) := by decide +kernel
theorem dX5_force_28 : decode cX5_force 28 = .ok (.putfield 140, 3) := by decide +kernel
theorem dX5_force_31 : decode cX5_force 31 = .ok (.iload_n 2, 1) := by decide +kernel
theorem dX5_force_32 : decode cX5_force 32 = .ok (.ireturn, 1) := by decide +kernel
theorem dX5_ruled_0 : decode cX5_ruled 0 = .ok (.aload_n 0, 1) := by decide +kernel
theorem dX5_ruled_1 : decode cX5_ruled 1 = .ok (.getfield 10, 3) := by decide +kernel
theorem dX5_ruled_4 : decode cX5_ruled 4 = .ok (.getfield 92, 3) := by decide +kernel
theorem dX5_ruled_7 : decode cX5_ruled 7 = .ok (.iload_n 2, 1) := by decide +kernel
theorem dX5_ruled_8 : decode cX5_ruled 8 = .ok (.aaload, 1) := by decide +kernel
theorem dX5_ruled_9 : decode cX5_ruled 9 = .ok (.astore 4, 2) := by decide +kernel
theorem dX5_ruled_11 : decode cX5_ruled 11 = .ok (.aload 4, 2) := by decide +kernel
theorem dX5_ruled_13 : decode cX5_ruled 13 = .ok (.iload_n 3, 1) := by decide +kernel
theorem dX5_ruled_14 : decode cX5_ruled 14 = .ok (.aload_n 0, 1) := by decide +kernel
theorem dX5_ruled_15 : decode cX5_ruled 15 = .ok (.getfield 10, 3) := by decide +kernel
theorem dX5_ruled_18 : decode cX5_ruled 18 = .ok (.getfield 82, 3) := by decide +kernel
theorem dX5_ruled_21 : decode cX5_ruled 21 = .ok (.invokevirtual 143, 3) := by decide +kernel
theorem dX5_ruled_24 : decode cX5_ruled 24 = .ok (.istore 5, 2) := by decide +kernel
theorem dX5_ruled_26 : decode cX5_ruled 26 = .ok (.iload_n 3, 1) := by decide +kernel
theorem dX5_ruled_27 : decode cX5_ruled 27 = .ok (.ifCond .le 21, 3) := by decide +kernel
theorem dX5_ruled_30 : decode cX5_ruled 30 = .ok (.aload 4, 2) := by decide +kernel
theorem dX5_ruled_32 : decode cX5_ruled 32 = .ok (.iload_n 3, 1) := by decide +kernel
theorem dX5_ruled_33 : decode cX5_ruled 33 = .ok (.iconst 1, 1) := by decide +kernel
theorem dX5_ruled_34 : decode cX5_ruled 34 = .ok (.isub, 1) := by decide +kernel
theorem dX5_ruled_35 : decode cX5_ruled 35 = .ok (.aload_n 0, 1) := by decide +kernel
theorem dX5_ruled_36 : decode cX5_ruled 36 = .ok (.getfield 10, 3) := by decide +kernel
theorem dX5_ruled_39 : decode cX5_ruled 39 = .ok (.getfield 82, 3) := by decide +kernel
theorem dX5_ruled_42 : decode cX5_ruled 42 = .ok (.invokevirtual 143, 3) := by decide +kernel
theorem dX5_ruled_45 : decode cX5_ruled 45 = .ok (.goto 5, 3) := by decide +kernel
theorem dX5_ruled_48 : decode cX5_ruled 48 = .ok (.iload 5, 2) := by decide +kernel
theorem dX5_ruled_50 : decode cX5_ruled 50 = .ok (.istore 6, 2) := by decide +kernel
theorem dX5_ruled_52 : decode cX5_ruled 52 = .ok (.aload_n 0, 1) := by decide +kernel
theorem dX5_ruled_53 : decode cX5_ruled 53 = .ok (.getfield 45, 3) := by decide +kernel
theorem dX5_ruled_56 : decode cX5_ruled 56 = .ok (.iconst 0, 1) := by decide +kernel
theorem dX5_ruled_57 : decode cX5_ruled 57 = .ok (.iload_n 3, 1) := by decide +kernel
theorem dX5_ruled_58 : decode cX5_ruled 58 = .ok (.iastore, 1) := by decide +kernel
theorem dX5_ruled_59 : decode cX5_ruled 59 = .ok (.aload_n 0, 1) := by decide +kernel
theorem dX5_ruled_60 : decode cX5_ruled 60 = .ok (.getfield 45, 3) := by decide +kernel
theorem dX5_ruled_63 : decode cX5_ruled 63 = .ok (.iconst 1, 1) := by decide +kernel
theorem dX5_ruled_64 : decode cX5_ruled 64 = .ok (.iload 5, 2) := by decide +kernel
theorem dX5_ruled_66 : decode cX5_ruled 66 = .ok (.sipush 1000, 3) := by decide +kernel
theorem dX5_ruled_69 : decode cX5_ruled 69 = .ok (.idiv, 1) := by decide +kernel
theorem dX5_ruled_70 : decode cX5_ruled 70 = .ok (.iastore, 1) := by decide +kernel
theorem dX5_ruled_71 : decode cX5_ruled 71 = .ok (.aload_n 0, 1) := by decide +kernel
theorem dX5_ruled_72 : decode cX5_ruled 72 = .ok (.getfield 45, 3) := by decide +kernel
theorem dX5_ruled_75 : decode cX5_ruled 75 = .ok (.iconst 2, 1) := by decide +kernel
theorem dX5_ruled_76 : decode cX5_ruled 76 = .ok (.iload_n 2, 1) := by decide +kernel
theorem dX5_ruled_77 : decode cX5_ruled 77 = .ok (.iastore, 1) := by decide +kernel
theorem dX5_ruled_78 : decode cX5_ruled 78 = .ok (.aload_n 0, 1) := by decide +kernel
theorem dX5_ruled_79 : decode cX5_ruled 79 = .ok (.getfield 45, 3) := by decide +kernel
theorem dX5_ruled_82 : decode cX5_ruled 82 = .ok (.iconst 3, 1) := by decide +kernel
theorem dX5_ruled_83 : decode cX5_ruled 83 = .ok (.iload 5, 2) := by decide +kernel
theorem dX5_ruled_85 : decode cX5_ruled 85 = .ok (.iload 6, 2) := by decide +kernel
theorem dX5_ruled_87 : decode cX5_ruled 87 = .ok (.isub, 1) := by decide +kernel
theorem dX5_ruled_88 : decode cX5_ruled 88 = .ok (.invokestatic 146, 3) := by decide +kernel
theorem dX5_ruled_91 : decode cX5_ruled 91 = .ok (.iastore, 1) := by decide +kernel
theorem dX5_ruled_92 : decode cX5_ruled 92 = .ok (.aload_n 0, 1) := by decide +kernel
theorem dX5_ruled_93 : decode cX5_ruled 93 = .ok (.getfield 45, 3) := by decide +kernel
theorem dX5_ruled_96 : decode cX5_ruled 96 = .ok (.iconst 4, 1) := by decide +kernel
theorem dX5_ruled_97 : decode cX5_ruled 97 = .ok (.aload_n 0, 1) := by decide +kernel
theorem dX5_ruled_98 : decode cX5_ruled 98 = .ok (.getfield 10, 3) := by decide +kernel
theorem dX5_ruled_101 : decode cX5_ruled 101 = .ok (.getfield 82, 3) := by decide +kernel
theorem dX5_ruled_104 : decode cX5_ruled 104 = .ok (.iastore, 1) := by decide +kernel
theorem dX5_ruled_105 : decode cX5_ruled 105 = .ok (.aload_n 0, 1) := by decide +kernel
theorem dX5_ruled_106 : decode cX5_ruled 106 = .ok (.getfield 45, 3) := by decide +kernel
theorem dX5_ruled_109 : decode cX5_ruled 109 = .ok (.iconst 5, 1) := by decide +kernel
theorem dX5_ruled_110 : decode cX5_ruled 110 = .ok (.aload 4, 2) := by decide +kernel
theorem dX5_ruled_112 : decode cX5_ruled 112 = .ok (.getfield 119, 3) := by decide +kernel
theorem dX5_ruled_115 : decode cX5_ruled 115 = .ok (.iastore, 1) := by decide +kernel
theorem dX5_ruled_116 : decode cX5_ruled 116 = .ok (.getstatic 151, 3) := by decide +kernel
theorem dX5_ruled_119 : decode cX5_ruled 119 = .ok (.iload_n 1, 1) := by decide +kernel
theorem dX5_ruled_120 : decode cX5_ruled 120 = .ok (.iaload, 1) := by decide +kernel
theorem dX5_ruled_121 : decode cX5_ruled 121 = .ok (.aload_n 0, 1) := by decide +kernel
theorem dX5_ruled_122 : decode cX5_ruled 122 = .ok (.getfield 28, 3) := by decide +kernel
theorem dX5_ruled_125 : decode cX5_ruled 125 = .ok (.aload_n 0, 1) := by decide +kernel
theorem dX5_ruled_126 : decode cX5_ruled 126 = .ok (.getfield 10, 3) := by decide +kernel
theorem dX5_ruled_129 : decode cX5_ruled 129 = .ok (.getfield 140, 3) := by decide +kernel
theorem dX5_ruled_132 : decode cX5_ruled 132 = .ok (.aaload, 1) := by decide +kernel
theorem dX5_ruled_133 : decode cX5_ruled 133 = .ok (.iload_n 1, 1) := by decide +kernel
theorem dX5_ruled_134 : decode cX5_ruled 134 = .ok (.aload_n 0, 1) := by decide +kernel
theorem dX5_ruled_135 : decode cX5_ruled 135 = .ok (.getfield 45, 3) := by decide +kernel
theorem dX5_ruled_138 : decode cX5_ruled 138 = .ok (.aload_n 0, 1) := by decide +kernel
theorem dX5_ruled_139 : decode cX5_ruled 139 = .ok (.getfield 48, 3) := by decide +kernel
theorem dX5_ruled_142 : decode cX5_ruled 142 = .ok (.invokevirtual 154, 3) := by decide +kernel
theorem dX5_ruled_145 : decode cX5_ruled 145 = .ok (.getstatic 158, 3) := by decide +kernel
theorem dX5_ruled_148 : decode cX5_ruled 148 = .ok (.iload_n 1, 1) := by decide +kernel
theorem dX5_ruled_149 : decode cX5_ruled 149 = .ok (.iaload, 1) := by decide +kernel
theorem dX5_ruled_150 : decode cX5_ruled 150 = .ok (.invokestatic 161, 3) := by decide +kernel
theorem dX5_ruled_153 : decode cX5_ruled 153 = .ok (.ireturn, 1) := by decide +kernel
theorem dX5_at_0 : decode cX5_at 0 = .ok (.aload_n 0, 1) := by decide +kernel
theorem dX5_at_1 : decode cX5_at 1 = .ok (.getfield 10, 3) := by decide +kernel
theorem dX5_at_4 : decode cX5_at 4 = .ok (.iload_n 1, 1) := by decide +kernel
theorem dX5_at_5 : decode cX5_at 5 = .ok (.invokevirtual 85, 3) := by decide +kernel
theorem dX5_at_8 : decode cX5_at 8 = .ok (.ifCond .eq 10, 3) := by decide +kernel
theorem dX5_at_11 : decode cX5_at 11 = .ok (.iload_n 2, 1) := by decide +kernel
theorem dX5_at_12 : decode cX5_at 12 = .ok (.invokestatic 113, 3) := by decide +kernel
theorem dX5_at_15 : decode cX5_at 15 = .ok (.ifCond .ne 6, 3) := by decide +kernel
theorem dX5_at_18 : decode cX5_at 18 = .ok (.bipush (-2), 2) := by decide +kernel
theorem dX5_at_20 : decode cX5_at 20 = .ok (.ireturn, 1) := by decide +kernel
theorem dX5_at_21 : decode cX5_at 21 = .ok (.aload_n 0, 1) := by decide +kernel
theorem dX5_at_22 : decode cX5_at 22 = .ok (.getfield 10, 3) := by decide +kernel
theorem dX5_at_25 : decode cX5_at 25 = .ok (.getfield 92, 3) := by decide +kernel
theorem dX5_at_28 : decode cX5_at 28 = .ok (.iload_n 1, 1) := by decide +kernel
theorem dX5_at_29 : decode cX5_at 29 = .ok (.aaload, 1) := by decide +kernel
theorem dX5_at_30 : decode cX5_at 30 = .ok (.iload_n 2, 1) := by decide +kernel
theorem dX5_at_31 : decode cX5_at 31 = .ok (.aload_n 0, 1) := by decide +kernel
theorem dX5_at_32 : decode cX5_at 32 = .ok (.getfield 10, 3) := by decide +kernel
theorem dX5_at_35 : decode cX5_at 35 = .ok (.getfield 82, 3) := by decide +kernel
theorem dX5_at_38 : decode cX5_at 38 = .ok (.invokevirtual 143, 3) := by decide +kernel
theorem dX5_at_41 : decode cX5_at 41 = .ok (.ireturn, 1) := by decide +kernel
theorem dX5_asks_0 : decode cX5_asks 0 = .ok (.iload_n 1, 1) := by decide +kernel
theorem dX5_asks_1 : decode cX5_asks 1 = .ok (.ifCond .lt 26, 3) := by decide +kernel
theorem dX5_asks_4 : decode cX5_asks 4 = .ok (.iload_n 1, 1) := by decide +kernel
theorem dX5_asks_5 : decode cX5_asks 5 = .ok (.iconst 3, 1) := by decide +kernel
theorem dX5_asks_6 : decode cX5_asks 6 = .ok (.if_icmp .ge 21, 3) := by decide +kernel
theorem dX5_asks_9 : decode cX5_asks 9 = .ok (.aload_n 0, 1) := by decide +kernel
theorem dX5_asks_10 : decode cX5_asks 10 = .ok (.getfield 10, 3) := by decide +kernel
theorem dX5_asks_13 : decode cX5_asks 13 = .ok (.iload_n 2, 1) := by decide +kernel
theorem dX5_asks_14 : decode cX5_asks 14 = .ok (.invokevirtual 85, 3) := by decide +kernel
theorem dX5_asks_17 : decode cX5_asks 17 = .ok (.ifCond .eq 10, 3) := by decide +kernel
theorem dX5_asks_20 : decode cX5_asks 20 = .ok (.iload_n 3, 1) := by decide +kernel
theorem dX5_asks_21 : decode cX5_asks 21 = .ok (.invokestatic 113, 3) := by decide +kernel
theorem dX5_asks_24 : decode cX5_asks 24 = .ok (.ifCond .ne 7, 3) := by decide +kernel
theorem dX5_asks_27 : decode cX5_asks 27 = .ok (.sipush (-1000), 3) := by decide +kernel
theorem dX5_asks_30 : decode cX5_asks 30 = .ok (.ireturn, 1) := by decide +kernel
theorem dX5_asks_31 : decode cX5_asks 31 = .ok (.aload_n 0, 1) := by decide +kernel
