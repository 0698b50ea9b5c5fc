theorem dX6_read_35 : decode cX6_read 35 = .ok (.invokevirtual 177, 3) := by decide +kernel
theorem dX6_read_38 : decode cX6_read 38 = .ok (.aload_n 0, 1) := by decide +kernel
theorem dX6_read_39 : decode cX6_read 39 = .ok (.aload_n 0, 1) := by decide +kernel
theorem dX6_read_40 : decode cX6_read 40 = .ok (.bipush 110, 2) := by decide +kernel
theorem dX6_read_42 : decode cX6_read 42 = .ok (.bipush 101, 2) := by decide +kernel
theorem dX6_read_44 : decode cX6_read 44 = .ok (.bipush 97, 2) := by decide +kernel
theorem dX6_read_46 : decode cX6_read 46 = .ok (.bipush 114, 2) := by decide +kernel
theorem dX6_read_48 : decode cX6_read 48 = .ok (.iconst 0, 1) := by decide +kernel
theorem dX6_read_49 : decode cX6_read 49 = .ok (.iconst 0, 1) := by decide +kernel
theorem dX6_read_50 : decode cX6_read 50 = .ok (.iconst 0, 1) := by decide +kernel
theorem dX6_read_51 : decode cX6_read 51 = .ok (.iconst 0, 1) := by decide +kernel
theorem dX6_read_52 : decode cX6_read 52 = .ok (.invokevirtual 180, 3) := by decide +kernel
theorem dX6_read_55 : decode cX6_read 55 = .ok (.invokevirtual 325, 3) := by decide +kernel
theorem dX6_read_58 : decode cX6_read 58 = .ok (.istore_n 3, 1) := by decide +kernel
theorem dX6_read_59 : decode cX6_read 59 = .ok (.aload_n 0, 1) := by decide +kernel
theorem dX6_read_60 : decode cX6_read 60 = .ok (.getfield 160, 3) := by decide +kernel
theorem dX6_read_63 : decode cX6_read 63 = .ok (.ifCond .eq 7, 3) := by decide +kernel
theorem dX6_read_66 : decode cX6_read 66 = .ok (.iconst 0, 1) := by decide +kernel
theorem dX6_read_67 : decode cX6_read 67 = .ok (.goto 22, 3) := by decide +kernel
theorem dX6_read_70 : decode cX6_read 70 = .ok (.aload_n 0, 1) := by decide +kernel
theorem dX6_read_71 : decode cX6_read 71 = .ok (.aload_n 0, 1) := by decide +kernel
theorem dX6_read_72 : decode cX6_read 72 = .ok (.bipush 111, 2) := by decide +kernel
theorem dX6_read_74 : decode cX6_read 74 = .ok (.bipush 102, 2) := by decide +kernel
theorem dX6_read_76 : decode cX6_read 76 = .ok (.bipush 102, 2) := by decide +kernel
theorem dX6_read_78 : decode cX6_read 78 = .ok (.iconst 0, 1) := by decide +kernel
theorem dX6_read_79 : decode cX6_read 79 = .ok (.iconst 0, 1) := by decide +kernel
theorem dX6_read_80 : decode cX6_read 80 = .ok (.iconst 0, 1) := by decide +kernel
theorem dX6_read_81 : decode cX6_read 81 = .ok (.iconst 0, 1) := by decide +kernel
theorem dX6_read_82 : decode cX6_read 82 = .ok (.iconst 0, 1) := by decide +kernel
theorem dX6_read_83 : decode cX6_read 83 = .ok (.invokevirtual 180, 3) := by decide +kernel
theorem dX6_read_86 : decode cX6_read 86 = .ok (.invokevirtual 325, 3) := by decide +kernel
theorem dX6_read_89 : decode cX6_read 89 = .ok (.istore 4, 2) := by decide +kernel
theorem dX6_read_91 : decode cX6_read 91 = .ok (.aload_n 0, 1) := by decide +kernel
theorem dX6_read_92 : decode cX6_read 92 = .ok (.getfield 160, 3) := by decide +kernel
theorem dX6_read_95 : decode cX6_read 95 = .ok (.ifCond .eq 7, 3) := by decide +kernel
theorem dX6_read_98 : decode cX6_read 98 = .ok (.iconst 0, 1) := by decide +kernel
theorem dX6_read_99 : decode cX6_read 99 = .ok (.goto 24, 3) := by decide +kernel
theorem dX6_read_102 : decode cX6_read 102 = .ok (.aload_n 0, 1) := by decide +kernel
theorem dX6_read_103 : decode cX6_read 103 = .ok (.aload_n 0, 1) := by decide +kernel
theorem dX6_read_104 : decode cX6_read 104 = .ok (.bipush 119, 2) := by decide +kernel
theorem dX6_read_106 : decode cX6_read 106 = .ok (.bipush 111, 2) := by decide +kernel
theorem dX6_read_108 : decode cX6_read 108 = .ok (.bipush 114, 2) := by decide +kernel
theorem dX6_read_110 : decode cX6_read 110 = .ok (.bipush 116, 2) := by decide +kernel
theorem dX6_read_112 : decode cX6_read 112 = .ok (.bipush 104, 2) := by decide +kernel
theorem dX6_read_114 : decode cX6_read 114 = .ok (.iconst 0, 1) := by decide +kernel
theorem dX6_read_115 : decode cX6_read 115 = .ok (.iconst 0, 1) := by decide +kernel
theorem dX6_read_116 : decode cX6_read 116 = .ok (.iconst 0, 1) := by decide +kernel
theorem dX6_read_117 : decode cX6_read 117 = .ok (.invokevirtual 180, 3) := by decide +kernel
theorem dX6_read_120 : decode cX6_read 120 = .ok (.invokevirtual 325, 3) := by decide +kernel
theorem dX6_read_123 : decode cX6_read 123 = .ok (.istore 5, 2) := by decide +kernel
theorem dX6_read_125 : decode cX6_read 125 = .ok (.aload_n 0, 1) := by decide +kernel
theorem dX6_read_126 : decode cX6_read 126 = .ok (.getfield 160, 3) := by decide +kernel
theorem dX6_read_129 : decode cX6_read 129 = .ok (.ifCond .ne 14, 3) := by decide +kernel
theorem dX6_read_132 : decode cX6_read 132 = .ok (.aload_n 0, 1) := by decide +kernel
theorem dX6_read_133 : decode cX6_read 133 = .ok (.getfield 145, 3) := by decide +kernel
theorem dX6_read_136 : decode cX6_read 136 = .ok (.ifCond .eq 7, 3) := by decide +kernel
theorem dX6_read_139 : decode cX6_read 139 = .ok (.aload_n 0, 1) := by decide +kernel
theorem dX6_read_140 : decode cX6_read 140 = .ok (.invokevirtual 174, 3) := by decide +kernel
theorem dX6_read_143 : decode cX6_read 143 = .ok (.iload_n 2, 1) := by decide +kernel
theorem dX6_read_144 : decode cX6_read 144 = .ok (.ifCond .ne 7, 3) := by decide +kernel
theorem dX6_read_147 : decode cX6_read 147 = .ok (.iload_n 3, 1) := by decide +kernel
theorem dX6_read_148 : decode cX6_read 148 = .ok (.goto 15, 3) := by decide +kernel
theorem dX6_read_151 : decode cX6_read 151 = .ok (.iload_n 2, 1) := by decide +kernel
theorem dX6_read_152 : decode cX6_read 152 = .ok (.iconst 1, 1) := by decide +kernel
theorem dX6_read_153 : decode cX6_read 153 = .ok (.if_icmp .ne 8, 3) := by decide +kernel
theorem dX6_read_156 : decode cX6_read 156 = .ok (.iload 4, 2) := by decide +kernel
theorem dX6_read_158 : decode cX6_read 158 = .ok (.goto 5, 3) := by decide +kernel
theorem dX6_read_161 : decode cX6_read 161 = .ok (.iload 5, 2) := by decide +kernel
theorem dX6_read_163 : decode cX6_read 163 = .ok (.ireturn, 1) := by decide +kernel
theorem dX6_text_0 : decode cX6_text 0 = .ok (.aload_n 0, 1) := by decide +kernel
theorem dX6_text_1 : decode cX6_text 1 = .ok (.getfield 86, 3) := by decide +kernel
theorem dX6_text_4 : decode cX6_text 4 = .ok (.bipush 6, 2) := by decide +kernel
theorem dX6_text_6 : decode cX6_text 6 = .ok (.if_icmp .ne 6, 3) := by decide +kernel
theorem dX6_text_9 : decode cX6_text 9 = .ok (.bipush (-4), 2) := by decide +kernel
theorem dX6_text_11 : decode cX6_text 11 = .ok (.ireturn, 1) := by decide +kernel
theorem dX6_text_12 : decode cX6_text 12 = .ok (.iconst 0, 1) := by decide +kernel
theorem dX6_text_13 : decode cX6_text 13 = .ok (.istore_n 1, 1) := by decide +kernel
theorem dX6_text_14 : decode cX6_text 14 = .ok (.iload_n 1, 1) := by decide +kernel
theorem dX6_text_15 : decode cX6_text 15 = .ok (.aload_n 0, 1) := by decide +kernel
theorem dX6_text_16 : decode cX6_text 16 = .ok (.getfield 126, 3) := by decide +kernel
theorem dX6_text_19 : decode cX6_text 19 = .ok (.if_icmp .ge 30, 3) := by decide +kernel
theorem dX6_text_22 : decode cX6_text 22 = .ok (.aload_n 0, 1) := by decide +kernel
theorem dX6_text_23 : decode cX6_text 23 = .ok (.getfield 13, 3) := by decide +kernel
theorem dX6_text_26 : decode cX6_text 26 = .ok (.sipush 160, 3) := by decide +kernel
theorem dX6_text_29 : decode cX6_text 29 = .ok (.aload_n 0, 1) := by decide +kernel
theorem dX6_text_30 : decode cX6_text 30 = .ok (.getfield 86, 3) := by decide +kernel
theorem dX6_text_33 : decode cX6_text 33 = .ok (.imul, 1) := by decide +kernel
theorem dX6_text_34 : decode cX6_text 34 = .ok (.iload_n 1, 1) := by decide +kernel
theorem dX6_text_35 : decode cX6_text 35 = .ok (.iadd, 1) := by decide +kernel
theorem dX6_text_36 : decode cX6_text 36 = .ok (.aload_n 0, 1) := by decide +kernel
theorem dX6_text_37 : decode cX6_text 37 = .ok (.getfield 20, 3) := by decide +kernel
theorem dX6_text_40 : decode cX6_text 40 = .ok (.iload_n 1, 1) := by decide +kernel
theorem dX6_text_41 : decode cX6_text 41 = .ok (.iaload, 1) := by decide +kernel
theorem dX6_text_42 : decode cX6_text 42 = .ok (.iastore, 1) := by decide +kernel
theorem dX6_text_43 : decode cX6_text 43 = .ok (.iinc 1 1, 3) := by decide +kernel
theorem dX6_text_46 : decode cX6_text 46 = .ok (.goto (-32), 3) := by decide +kernel
theorem dX6_text_49 : decode cX6_text 49 = .ok (.aload_n 0, 1) := by decide +kernel
theorem dX6_text_50 : decode cX6_text 50 = .ok (.getfield 17, 3) := by decide +kernel
theorem dX6_text_53 : decode cX6_text 53 = .ok (.aload_n 0, 1) := by decide +kernel
theorem dX6_text_54 : decode cX6_text 54 = .ok (.getfield 86, 3) := by decide +kernel
theorem dX6_text_57 : decode cX6_text 57 = .ok (.aload_n 0, 1) := by decide +kernel
theorem dX6_text_58 : decode cX6_text 58 = .ok (.getfield 126, 3) := by decide +kernel
theorem dX6_text_61 : decode cX6_text 61 = .ok (.iastore, 1) := by decide +kernel
theorem dX6_text_62 : decode cX6_text 62 = .ok (.aload_n 0, 1) := by decide +kernel
theorem dX6_text_63 : decode cX6_text 63 = .ok (.iconst 0, 1) := by decide +kernel
theorem dX6_text_64 : decode cX6_text 64 = .ok (.putfield 126, 3) := by decide +kernel
theorem dX6_text_67 : decode cX6_text 67 = .ok (.aload_n 0, 1) := by decide +kernel
theorem dX6_text_68 : decode cX6_text 68 = .ok (.aload_n 0, 1) := by decide +kernel
theorem dX6_text_69 : decode cX6_text 69 = .ok (.getfield 86, 3) := by decide +kernel
theorem dX6_text_72 : decode cX6_text 72 = .ok (.iconst 0, 1) := by decide +kernel
theorem dX6_text_73 : decode cX6_text 73 = .ok (.invokevirtual 329, 3) := by decide +kernel
theorem dX6_text_76 : decode cX6_text 76 = .ok (.istore_n 1, 1) := by decide +kernel
theorem dX6_text_77 : decode cX6_text 77 = .ok (.aload_n 0, 1) := by decide +kernel
theorem dX6_text_78 : decode cX6_text 78 = .ok (.getfield 160, 3) := by decide +kernel
theorem dX6_text_81 : decode cX6_text 81 = .ok (.ifCond .eq 11, 3) := by decide +kernel
theorem dX6_text_84 : decode cX6_text 84 = .ok (.bipush (-100), 2) := by decide +kernel
theorem dX6_text_86 : decode cX6_text 86 = .ok (.aload_n 0, 1) := by decide +kernel
theorem dX6_text_87 : decode cX6_text 87 = .ok (.getfield 164, 3) := by decide +kernel
theorem dX6_text_90 : decode cX6_text 90 = .ok (.isub, 1) := by decide +kernel
theorem dX6_text_91 : decode cX6_text 91 = .ok (.ireturn, 1) := by decide +kernel
theorem dX6_text_92 : decode cX6_text 92 = .ok (.aload_n 0, 1) := by decide +kernel
theorem dX6_text_93 : decode cX6_text 93 = .ok (.dup, 1) := by decide +kernel
theorem dX6_text_94 : decode cX6_text 94 = .ok (.getfield 86, 3) := by decide +kernel
theorem dX6_text_97 : decode cX6_text 97 = .ok (.iconst 1, 1) := by decide +kernel
theorem dX6_text_98 : decode cX6_text 98 = .ok (.iadd, 1) := by decide +kernel
theorem dX6_text_99 : decode cX6_text 99 = .ok (.putfield 86, 3) := by decide +kernel
theorem dX6_text_102 : decode cX6_text 102 = .ok (.aload_n 0, 1) := by decide +kernel
theorem dX6_text_103 : decode cX6_text 103 = .ok (.getfield 86, 3) := by decide +kernel
theorem dX6_text_106 : decode cX6_text 106 = .ok (.iconst 1, 1) := by decide +kernel
theorem dX6_text_107 : decode cX6_text 107 = .ok (.isub, 1) := by decide +kernel
theorem dX6_text_108 : decode cX6_text 108 = .ok (.ireturn, 1) := by decide +kernel
theorem dX6_force_0 : decode cX6_force 0 = .ok (.iload_n 1, 1) := by decide +kernel
theorem dX6_force_1 : decode cX6_force 1 = .ok (.i2l, 1) := by decide +kernel
theorem dX6_force_2 : decode cX6_force 2 = .ok (.lconst 0, 1) := by decide +kernel
theorem dX6_force_3 : decode cX6_force 3 = .ok (.aload_n 0, 1) := by decide +kernel
theorem dX6_force_4 : decode cX6_force 4 = .ok (.getfield 86, 3) := by decide +kernel
theorem dX6_force_7 : decode cX6_force 7 = .ok (.iconst 1, 1) := by decide +kernel
theorem dX6_force_8 : decode cX6_force 8 = .ok (.isub, 1) := by decide +kernel
theorem dX6_force_9 : decode cX6_force 9 = .ok (.i2l, 1) := by decide +kernel
theorem dX6_force_10 : decode cX6_force 10 = .ok (.invokestatic 92, 3) := by decide +kernel
theorem dX6_force_13 : decode cX6_force 13 = .ok (.ifCond .ne 6, 3) := by decide +kernel
theorem dX6_force_16 : decode cX6_force 16 = .ok (.bipush (-2), 2) := by decide +kernel
theorem dX6_force_18 : decode cX6_force 18 = .ok (.ireturn, 1) := by decide +kernel
theorem dX6_force_19 : decode cX6_force 19 = .ok (.aload_n 0, 1) := by decide +kernel
theorem dX6_force_20 : decode cX6_force 20 = .ok (.getfield 332, 3) := by decide +kernel
theorem dX6_force_23 : decode cX6_force 23 = .ok (.istore_n 2, 1) := by decide +kernel
theorem dX6_force_24 : decode cX6_force 24 = .ok (.aload_n 0, 1) := by decide +kernel
theorem dX6_force_25 : decode cX6_force 25 = .ok (.iload_n 1, 1) := by decide +kernel
theorem dX6_force_26 : decode cX6_force 26 = .ok (.putfield 332, 3) := by decide +kernel
theorem dX6_force_29 : decode cX6_force 29 = .ok (.iload_n 2, 1) := by decide +kernel
theorem dX6_force_30 : decode cX6_force 30 = .ok (.ireturn, 1) := by decide +kernel
theorem dX6_says_0 : decode cX6_says 0 = .ok (.aload_n 0, 1) := by decide +kernel
theorem dX6_says_1 : decode cX6_says 1 = .ok (.iload_n 2, 1) := by decide +kernel
theorem dX6_says_2 : decode cX6_says 2 = .ok (.iload_n 3, 1) := by decide +kernel
theorem dX6_says_3 : decode cX6_says 3 = .ok (.invokevirtual 335, 3) := by decide +kernel
theorem dX6_says_6 : decode cX6_says 6 = .ok (.istore 4, 2) := by decide +kernel
theorem dX6_says_8 : decode cX6_says 8 = .ok (.aload_n 0, 1) := by decide +kernel
theorem dX6_says_9 : decode cX6_says 9 = .ok (.iload_n 3, 1) := by decide +kernel
theorem dX6_says_10 : decode cX6_says 10 = .ok (.putfield 184, 3) := by decide +kernel
theorem dX6_says_13 : decode cX6_says 13 = .ok (.aload_n 0, 1) := by decide +kernel
theorem dX6_says_14 : decode cX6_says 14 = .ok (.iload 4, 2) := by decide +kernel
theorem dX6_says_16 : decode cX6_says 16 = .ok (.sipush 1000, 3) := by decide +kernel
theorem dX6_says_19 : decode cX6_says 19 = .ok (.idiv, 1) := by decide +kernel
theorem dX6_says_20 : decode cX6_says 20 = .ok (.putfield 187, 3) := by decide +kernel
theorem dX6_says_23 : decode cX6_says 23 = .ok (.aload_n 0, 1) := by decide +kernel
theorem dX6_says_24 : decode cX6_says 24 = .ok (.iload_n 2, 1) := by decide +kernel
theorem dX6_says_25 : decode cX6_says 25 = .ok (.putfield 190, 3) := by decide +kernel
theorem dX6_says_28 : decode cX6_says 28 = .ok (.aload_n 0, 1) := by decide +kernel
theorem dX6_says_29 : decode cX6_says 29 = .ok (.iload_n 3, 1) := by decide +kernel
theorem dX6_says_30 : decode cX6_says 30 = .ok (.ifCond .ne 7, 3) := by decide +kernel
theorem dX6_says_33 : decode cX6_says 33 = .ok (.iconst 0, 1) := by decide +kernel
theorem dX6_says_34 : decode cX6_says 34 = .ok (.goto 19, 3) := by decide +kernel
theorem dX6_says_37 : decode cX6_says 37 = .ok (.iload 4, 2) := by decide +kernel
theorem dX6_says_39 : decode cX6_says 39 = .ok (.aload_n 0, 1) := by decide +kernel
theorem dX6_says_40 : decode cX6_says 40 = .ok (.iload_n 2, 1) := by decide +kernel
theorem dX6_says_41 : decode cX6_says 41 = .ok (.iload_n 3, 1) := by decide +kernel
theorem dX6_says_42 : decode cX6_says 42 = .ok (.iconst 1, 1) := by decide +kernel
theorem dX6_says_43 : decode cX6_says 43 = .ok (.isub, 1) := by decide +kernel
theorem dX6_says_44 : decode cX6_says 44 = .ok (.invokevirtual 335, 3) := by decide +kernel
theorem dX6_says_47 : decode cX6_says 47 = .ok (.isub, 1) := by decide +kernel
theorem dX6_says_48 : decode cX6_says 48 = .ok (.i2l, 1) := by decide +kernel
theorem dX6_says_49 : decode cX6_says 49 = .ok (.invokestatic 338, 3) := by decide +kernel
theorem dX6_says_52 : decode cX6_says 52 = .ok (.l2i, 1) := by decide +kernel
theorem dX6_says_53 : decode cX6_says 53 = .ok (.putfield 193, 3) := by decide +kernel
theorem dX6_says_56 : decode cX6_says 56 = .ok (.aload_n 0, 1) := by decide +kernel
theorem dX6_says_57 : decode cX6_says 57 = .ok (.aload_n 0, 1) := by decide +kernel
theorem dX6_says_58 : decode cX6_says 58 = .ok (.getfield 23, 3) := by decide +kernel
theorem dX6_says_61 : decode cX6_says 61 = .ok (.putfield 196, 3) := by decide +kernel
theorem dX6_says_64 : decode cX6_says 64 = .ok (.aload_n 0, 1) := by decide +kernel
theorem dX6_says_65 : decode cX6_says 65 = .ok (.aload_n 0, 1) := by decide +kernel
theorem dX6_says_66 : decode cX6_says 66 = .ok (.getfield 38, 3) := by decide +kernel
theorem dX6_says_69 : decode cX6_says 69 = .ok (.iload_n 2, 1) := by decide +kernel
theorem dX6_says_70 : decode cX6_says 70 = .ok (.iaload, 1) := by decide +kernel
theorem dX6_says_71 : decode cX6_says 71 = .ok (.putfield 199, 3) := by decide +kernel
theorem dX6_says_74 : decode cX6_says 74 = .ok (.aload_n 0, 1) := by decide +kernel
theorem dX6_says_75 : decode cX6_says 75 = .ok (.aload_n 0, 1) := by decide +kernel
theorem dX6_says_76 : decode cX6_says 76 = .ok (.getfield 332, 3) := by decide +kernel
theorem dX6_says_79 : decode cX6_says 79 = .ok (.iload_n 1, 1) := by decide +kernel
theorem dX6_says_80 : decode cX6_says 80 = .ok (.invokevirtual 329, 3) := by decide +kernel
theorem dX6_says_83 : decode cX6_says 83 = .ok (.istore 5, 2) := by decide +kernel
theorem dX6_says_85 : decode cX6_says 85 = .ok (.iload_n 1, 1) := by decide +kernel
theorem dX6_says_86 : decode cX6_says 86 = .ok (.ifCond .ne 15, 3) := by decide +kernel
theorem dX6_says_89 : decode cX6_says 89 = .ok (.iload 5, 2) := by decide +kernel
theorem dX6_says_91 : decode cX6_says 91 = .ok (.iconst 0, 1) := by decide +kernel
theorem dX6_says_92 : decode cX6_says 92 = .ok (.sipush 9999, 3) := by decide +kernel
theorem dX6_says_95 : decode cX6_says 95 = .ok (.invokestatic 120, 3) := by decide +kernel
theorem dX6_says_98 : decode cX6_says 98 = .ok (.goto 28, 3) := by decide +kernel
theorem dX6_says_101 : decode cX6_says 101 = .ok (.iload_n 1, 1) := by decide +kernel
theorem dX6_says_102 : decode cX6_says 102 = .ok (.iconst 1, 1) := by decide +kernel
theorem dX6_says_103 : decode cX6_says 103 = .ok (.if_icmp .ne 15, 3) := by decide +kernel
theorem dX6_says_106 : decode cX6_says 106 = .ok (.iload 5, 2) := by decide +kernel
theorem dX6_says_108 : decode cX6_says 108 = .ok (.bipush (-60), 2) := by decide +kernel
theorem dX6_says_110 : decode cX6_says 110 = .ok (.bipush 60, 2) := by decide +kernel
theorem dX6_says_112 : decode cX6_says 112 = .ok (.invokestatic 120, 3) := by decide +kernel
theorem dX6_says_115 : decode cX6_says 115 = .ok (.goto 11, 3) := by decide +kernel
theorem dX6_says_118 : decode cX6_says 118 = .ok (.iload 5, 2) := by decide +kernel
theorem dX6_says_120 : decode cX6_says 120 = .ok (.iconst 0, 1) := by decide +kernel
theorem dX6_says_121 : decode cX6_says 121 = .ok (.bipush 99, 2) := by decide +kernel
theorem dX6_says_123 : decode cX6_says 123 = .ok (.invokestatic 120, 3) := by decide +kernel
theorem dX6_says_126 : decode cX6_says 126 = .ok (.ireturn, 1) := by decide +kernel
theorem dX6_at_0 : decode cX6_at 0 = .ok (.aload_n 0, 1) := by decide +kernel
theorem dX6_at_1 : decode cX6_at 1 = .ok (.iload_n 1, 1) := by decide +kernel
theorem dX6_at_2 : decode cX6_at 2 = .ok (.invokevirtual 96, 3) := by decide +kernel
theorem dX6_at_5 : decode cX6_at 5 = .ok (.ifCond .eq 19, 3) := by decide +kernel
theorem dX6_at_8 : decode cX6_at 8 = .ok (.iload_n 2, 1) := by decide +kernel
theorem dX6_at_9 : decode cX6_at 9 = .ok (.invokestatic 110, 3) := by decide +kernel
theorem dX6_at_12 : decode cX6_at 12 = .ok (.ifCond .eq 12, 3) := by decide +kernel
theorem dX6_at_15 : decode cX6_at 15 = .ok (.aload_n 0, 1) := by decide +kernel
theorem dX6_at_16 : decode cX6_at 16 = .ok (.iload_n 1, 1) := by decide +kernel
theorem dX6_at_17 : decode cX6_at 17 = .ok (.iload_n 2, 1) := by decide +kernel
theorem dX6_at_18 : decode cX6_at 18 = .ok (.invokevirtual 335, 3) := by decide +kernel
theorem dX6_at_21 : decode cX6_at 21 = .ok (.goto 5, 3) := by decide +kernel
theorem dX6_at_24 : decode cX6_at 24 = .ok (.bipush (-2), 2) := by decide +kernel
theorem dX6_at_26 : decode cX6_at 26 = .ok (.ireturn, 1) := by decide +kernel
theorem dX6_asks_0 : decode cX6_asks 0 = .ok (.iload_n 1, 1) := by decide +kernel
theorem dX6_asks_1 : decode cX6_asks 1 = .ok (.i2l, 1) := by decide +kernel
theorem dX6_asks_2 : decode cX6_asks 2 = .ok (.lconst 0, 1) := by decide +kernel
theorem dX6_asks_3 : decode cX6_asks 3 = .ok (.ldc2_w 342, 3) := by decide +kernel
theorem dX6_asks_6 : decode cX6_asks 6 = .ok (.invokestatic 92, 3) := by decide +kernel
theorem dX6_asks_9 : decode cX6_asks 9 = .ok (.ifCond .eq 28, 3) := by decide +kernel
theorem dX6_asks_12 : decode cX6_asks 12 = .ok (.aload_n 0, 1) := by decide +kernel
theorem dX6_asks_13 : decode cX6_asks 13 = .ok (.iload_n 2, 1) := by decide +kernel
theorem dX6_asks_14 : decode cX6_asks 14 = .ok (.invokevirtual 96, 3) := by decide +kernel
theorem dX6_asks_17 : decode cX6_asks 17 = .ok (.ifCond .eq 20, 3) := by decide +kernel
theorem dX6_asks_20 : decode cX6_asks 20 = .ok (.iload_n 3, 1) := by decide +kernel
theorem dX6_asks_21 : decode cX6_asks 21 = .ok (.invokestatic 110, 3) := by decide +kernel
theorem dX6_asks_24 : decode cX6_asks 24 = .ok (.ifCond .eq 13, 3) := by decide +kernel
theorem dX6_asks_27 : decode cX6_asks 27 = .ok (.aload_n 0, 1) := by decide +kernel
theorem dX6_asks_28 : decode cX6_asks 28 = .ok (.iload_n 1, 1) := by decide +kernel
theorem dX6_asks_29 : decode cX6_asks 29 = .ok (.iload_n 2, 1) := by decide +kernel
theorem dX6_asks_30 : decode cX6_asks 30 = .ok (.iload_n 3, 1) := by decide +kernel
theorem dX6_asks_31 : decode cX6_asks 31 = .ok (.invokevirtual 344, 3) := by decide +kernel
theorem dX6_asks_34 : decode cX6_asks 34 = .ok (.goto 6, 3) := by decide +kernel
theorem dX6_asks_37 : decode cX6_asks 37 = .ok (.sipush (-1000), 3) := by decide +kernel
theorem dX6_asks_40 : decode cX6_asks 40 = .ok (.ireturn, 1) := by decide +kernel
theorem dX6_walks_0 : decode cX6_walks 0 = .ok (.aload_n 0, 1) := by decide +kernel
theorem dX6_walks_1 : decode cX6_walks 1 = .ok (.getfield 41, 3) := by decide +kernel
theorem dX6_walks_4 : decode cX6_walks 4 = .ok (.iconst 0, 1) := by decide +kernel
theorem dX6_walks_5 : decode cX6_walks 5 = .ok (.lconst 0, 1) := by decide +kernel
theorem dX6_walks_6 : decode cX6_walks 6 = .ok (.lastore, 1) := by decide +kernel
theorem dX6_walks_7 : decode cX6_walks 7 = .ok (.aload_n 0, 1) := by decide +kernel
theorem dX6_walks_8 : decode cX6_walks 8 = .ok (.iload_n 1, 1) := by decide +kernel
theorem dX6_walks_9 : decode cX6_walks 9 = .ok (.iconst 0, 1) := by decide +kernel
theorem dX6_walks_10 : decode cX6_walks 10 = .ok (.invokevirtual 335, 3) := by decide +kernel
theorem dX6_walks_13 : decode cX6_walks 13 = .ok (.istore_n 2, 1) := by decide +kernel
theorem dX6_walks_14 : decode cX6_walks 14 = .ok (.iconst 1, 1) := by decide +kernel
theorem dX6_walks_15 : decode cX6_walks 15 = .ok (.istore_n 3, 1) := by decide +kernel
theorem dX6_walks_16 : decode cX6_walks 16 = .ok (.iload_n 3, 1) := by decide +kernel
theorem dX6_walks_17 : decode cX6_walks 17 = .ok (.sipush 601, 3) := by decide +kernel
theorem dX6_walks_20 : decode cX6_walks 20 = .ok (.if_icmp .ge 43, 3) := by decide +kernel
theorem dX6_walks_23 : decode cX6_walks 23 = .ok (.aload_n 0, 1) := by decide +kernel
theorem dX6_walks_24 : decode cX6_walks 24 = .ok (.iload_n 1, 1) := by decide +kernel
theorem dX6_walks_25 : decode cX6_walks 25 = .ok (.iload_n 3, 1) := by decide +kernel
theorem dX6_walks_26 : decode cX6_walks 26 = .ok (.invokevirtual 335, 3) := by decide +kernel
theorem dX6_walks_29 : decode cX6_walks 29 = .ok (.istore 4, 2) := by decide +kernel
theorem dX6_walks_31 : decode cX6_walks 31 = .ok (.aload_n 0, 1) := by decide +kernel
theorem dX6_walks_32 : decode cX6_walks 32 = .ok (.getfield 41, 3) := by decide +kernel
theorem dX6_walks_35 : decode cX6_walks 35 = .ok (.iload_n 3, 1) := by decide +kernel
theorem dX6_walks_36 : decode cX6_walks 36 = .ok (.aload_n 0, 1) := by decide +kernel
theorem dX6_walks_37 : decode cX6_walks 37 = .ok (.getfield 41, 3) := by decide +kernel
theorem dX6_walks_40 : decode cX6_walks 40 = .ok (.iload_n 3, 1) := by decide +kernel
theorem dX6_walks_41 : decode cX6_walks 41 = .ok (.iconst 1, 1) := by decide +kernel
theorem dX6_walks_42 : decode cX6_walks 42 = .ok (.isub, 1) := by decide +kernel
theorem dX6_walks_43 : decode cX6_walks 43 = .ok (.laload, 1) := by decide +kernel
theorem dX6_walks_44 : decode cX6_walks 44 = .ok (.iload 4, 2) := by decide +kernel
theorem dX6_walks_46 : decode cX6_walks 46 = .ok (.iload_n 2, 1) := by decide +kernel
theorem dX6_walks_47 : decode cX6_walks 47 = .ok (.isub, 1) := by decide +kernel
theorem dX6_walks_48 : decode cX6_walks 48 = .ok (.i2l, 1) := by decide +kernel
theorem dX6_walks_49 : decode cX6_walks 49 = .ok (.invokestatic 338, 3) := by decide +kernel
theorem dX6_walks_52 : decode cX6_walks 52 = .ok (.ladd, 1) := by decide +kernel
theorem dX6_walks_53 : decode cX6_walks 53 = .ok (.lastore, 1) := by decide +kernel
theorem dX6_walks_54 : decode cX6_walks 54 = .ok (.iload 4, 2) := by decide +kernel
theorem dX6_walks_56 : decode cX6_walks 56 = .ok (.istore_n 2, 1) := by decide +kernel
theorem dX6_walks_57 : decode cX6_walks 57 = .ok (.iinc 3 1, 3) := by decide +kernel
theorem dX6_walks_60 : decode cX6_walks 60 = .ok (.goto (-44), 3) := by decide +kernel
theorem dX6_walks_63 : decode cX6_walks 63 = .ok (.return_, 1) := by decide +kernel
theorem dX6_length_0 : decode cX6_length 0 = .ok (.aload_n 0, 1) := by decide +kernel
theorem dX6_length_1 : decode cX6_length 1 = .ok (.iload_n 1, 1) := by decide +kernel
theorem dX6_length_2 : decode cX6_length 2 = .ok (.invokevirtual 96, 3) := by decide +kernel
theorem dX6_length_5 : decode cX6_length 5 = .ok (.ifCond .eq 22, 3) := by decide +kernel
theorem dX6_length_8 : decode cX6_length 8 = .ok (.iload_n 2, 1) := by decide +kernel
theorem dX6_length_9 : decode cX6_length 9 = .ok (.invokestatic 110, 3) := by decide +kernel
theorem dX6_length_12 : decode cX6_length 12 = .ok (.ifCond .eq 15, 3) := by decide +kernel
theorem dX6_length_15 : decode cX6_length 15 = .ok (.iload_n 3, 1) := by decide +kernel
theorem dX6_length_16 : decode cX6_length 16 = .ok (.invokestatic 110, 3) := by decide +kernel
theorem dX6_length_19 : decode cX6_length 19 = .ok (.ifCond .eq 8, 3) := by decide +kernel
theorem dX6_length_22 : decode cX6_length 22 = .ok (.iload_n 3, 1) := by decide +kernel
theorem dX6_length_23 : decode cX6_length 23 = .ok (.iload_n 2, 1) := by decide +kernel
theorem dX6_length_24 : decode cX6_length 24 = .ok (.if_icmp .ge 6, 3) := by decide +kernel
theorem dX6_length_27 : decode cX6_length 27 = .ok (.bipush (-2), 2) := by decide +kernel
theorem dX6_length_29 : decode cX6_length 29 = .ok (.ireturn, 1) := by decide +kernel
theorem dX6_length_30 : decode cX6_length 30 = .ok (.aload_n 0, 1) := by decide +kernel
theorem dX6_length_31 : decode cX6_length 31 = .ok (.iload_n 1, 1) := by decide +kernel
theorem dX6_length_32 : decode cX6_length 32 = .ok (.invokevirtual 347, 3) := by decide +kernel
theorem dX6_length_35 : decode cX6_length 35 = .ok (.aload_n 0, 1) := by decide +kernel
theorem dX6_length_36 : decode cX6_length 36 = .ok (.getfield 41, 3) := by decide +kernel
theorem dX6_length_39 : decode cX6_length 39 = .ok (.iload_n 3, 1) := by decide +kernel
theorem dX6_length_40 : decode cX6_length 40 = .ok (.laload, 1) := by decide +kernel
theorem dX6_length_41 : decode cX6_length 41 = .ok (.aload_n 0, 1) := by decide +kernel
theorem dX6_length_42 : decode cX6_length 42 = .ok (.getfield 41, 3) := by decide +kernel
theorem dX6_length_45 : decode cX6_length 45 = .ok (.iload_n 2, 1) := by decide +kernel
theorem dX6_length_46 : decode cX6_length 46 = .ok (.laload, 1) := by decide +kernel
theorem dX6_length_47 : decode cX6_length 47 = .ok (.lsub, 1) := by decide +kernel
theorem dX6_length_48 : decode cX6_length 48 = .ok (.l2i, 1) := by decide +kernel
theorem dX6_length_49 : decode cX6_length 49 = .ok (.ireturn, 1) := by decide +kernel
theorem dX6_more_0 : decode cX6_more 0 = .ok (.ldc2_w 100, 3) := by decide +kernel
theorem dX6_more_3 : decode cX6_more 3 = .ok (.aload_n 0, 1) := by decide +kernel
theorem dX6_more_4 : decode cX6_more 4 = .ok (.getfield 41, 3) := by decide +kernel
theorem dX6_more_7 : decode cX6_more 7 = .ok (.iload_n 1, 1) := by decide +kernel
theorem dX6_more_8 : decode cX6_more 8 = .ok (.iload_n 2, 1) := by decide +kernel
theorem dX6_more_9 : decode cX6_more 9 = .ok (.iadd, 1) := by decide +kernel
theorem dX6_more_10 : decode cX6_more 10 = .ok (.laload, 1) := by decide +kernel
theorem dX6_more_11 : decode cX6_more 11 = .ok (.aload_n 0, 1) := by decide +kernel
theorem dX6_more_12 : decode cX6_more 12 = .ok (.getfield 41, 3) := by decide +kernel
theorem dX6_more_15 : decode cX6_more 15 = .ok (.iload_n 1, 1) := by decide +kernel
theorem dX6_more_16 : decode cX6_more 16 = .ok (.laload, 1) := by decide +kernel
theorem dX6_more_17 : decode cX6_more 17 = .ok (.lsub, 1) := by decide +kernel
theorem dX6_more_18 : decode cX6_more 18 = .ok (.lmul, 1) := by decide +kernel
theorem dX6_more_19 : decode cX6_more 19 = .ok (.iload_n 2, 1) := by decide +kernel
theorem dX6_more_20 : decode cX6_more 20 = .ok (.i2l, 1) := by decide +kernel
theorem dX6_more_21 : decode cX6_more 21 = .ok (.aload_n 0, 1) := by decide +kernel
theorem dX6_more_22 : decode cX6_more 22 = .ok (.getfield 41, 3) := by decide +kernel
theorem dX6_more_25 : decode cX6_more 25 = .ok (.sipush 600, 3) := by decide +kernel
theorem dX6_more_28 : decode cX6_more 28 = .ok (.laload, 1) := by decide +kernel
theorem dX6_more_29 : decode cX6_more 29 = .ok (.lmul, 1) := by decide +kernel
theorem dX6_more_30 : decode cX6_more 30 = .ok (.lsub, 1) := by decide +kernel
theorem dX6_more_31 : decode cX6_more 31 = .ok (.lreturn, 1) := by decide +kernel
theorem dX6_areUnlike_0 : decode cX6_areUnlike 0 = .ok (.lload_n 0, 1) := by decide +kernel
theorem dX6_areUnlike_1 : decode cX6_areUnlike 1 = .ok (.lconst 0, 1) := by decide +kernel
theorem dX6_areUnlike_2 : decode cX6_areUnlike 2 = .ok (.lcmp, 1) := by decide +kernel
theorem dX6_areUnlike_3 : decode cX6_areUnlike 3 = .ok (.ifCond .le 9, 3) := by decide +kernel
theorem dX6_areUnlike_6 : decode cX6_areUnlike 6 = .ok (.lload_n 2, 1) := by decide +kernel
theorem dX6_areUnlike_7 : decode cX6_areUnlike 7 = .ok (.lconst 0, 1) := by decide +kernel
theorem dX6_areUnlike_8 : decode cX6_areUnlike 8 = .ok (.lcmp, 1) := by decide +kernel
theorem dX6_areUnlike_9 : decode cX6_areUnlike 9 = .ok (.ifCond .lt 15, 3) := by decide +kernel
theorem dX6_areUnlike_12 : decode cX6_areUnlike 12 = .ok (.lload_n 0, 1) := by decide +kernel
theorem dX6_areUnlike_13 : decode cX6_areUnlike 13 = .ok (.lconst 0, 1) := by decide +kernel
theorem dX6_areUnlike_14 : decode cX6_areUnlike 14 = .ok (.lcmp, 1) := by decide +kernel
theorem dX6_areUnlike_15 : decode cX6_areUnlike 15 = .ok (.ifCond .ge 13, 3) := by decide +kernel
theorem dX6_areUnlike_18 : decode cX6_areUnlike 18 = .ok (.lload_n 2, 1) := by decide +kernel
theorem dX6_areUnlike_19 : decode cX6_areUnlike 19 = .ok (.lconst 0, 1) := by decide +kernel
theorem dX6_areUnlike_20 : decode cX6_areUnlike 20 = .ok (.lcmp, 1) := by decide +kernel
theorem dX6_areUnlike_21 : decode cX6_areUnlike 21 = .ok (.ifCond .le 7, 3) := by decide +kernel
theorem dX6_areUnlike_24 : decode cX6_areUnlike 24 = .ok (.iconst 1, 1) := by decide +kernel
theorem dX6_areUnlike_25 : decode cX6_areUnlike 25 = .ok (.goto 4, 3) := by decide +kernel
theorem dX6_areUnlike_28 : decode cX6_areUnlike 28 = .ok (.iconst 0, 1) := by decide +kernel
theorem dX6_areUnlike_29 : decode cX6_areUnlike 29 = .ok (.ireturn, 1) := by decide +kernel
theorem dX6_mean_0 : decode cX6_mean 0 = .ok (.aload_n 0, 1) := by decide +kernel
theorem dX6_mean_1 : decode cX6_mean 1 = .ok (.iload_n 1, 1) := by decide +kernel
theorem dX6_mean_2 : decode cX6_mean 2 = .ok (.invokevirtual 96, 3) := by decide +kernel
theorem dX6_mean_5 : decode cX6_mean 5 = .ok (.ifCond .eq 15, 3) := by decide +kernel
theorem dX6_mean_8 : decode cX6_mean 8 = .ok (.iload_n 2, 1) := by decide +kernel
theorem dX6_mean_9 : decode cX6_mean 9 = .ok (.i2l, 1) := by decide +kernel
theorem dX6_mean_10 : decode cX6_mean 10 = .ok (.lconst 1, 1) := by decide +kernel
theorem dX6_mean_11 : decode cX6_mean 11 = .ok (.ldc2_w 351, 3) := by decide +kernel
theorem dX6_mean_14 : decode cX6_mean 14 = .ok (.invokestatic 92, 3) := by decide +kernel
theorem dX6_mean_17 : decode cX6_mean 17 = .ok (.ifCond .ne 6, 3) := by decide +kernel
theorem dX6_mean_20 : decode cX6_mean 20 = .ok (.bipush (-2), 2) := by decide +kernel
theorem dX6_mean_22 : decode cX6_mean 22 = .ok (.ireturn, 1) := by decide +kernel
theorem dX6_mean_23 : decode cX6_mean 23 = .ok (.aload_n 0, 1) := by decide +kernel
theorem dX6_mean_24 : decode cX6_mean 24 = .ok (.iload_n 1, 1) := by decide +kernel
theorem dX6_mean_25 : decode cX6_mean 25 = .ok (.invokevirtual 347, 3) := by decide +kernel
theorem dX6_mean_28 : decode cX6_mean 28 = .ok (.iconst 0, 1) := by decide +kernel
theorem dX6_mean_29 : decode cX6_mean 29 = .ok (.istore_n 3, 1) := by decide +kernel
theorem dX6_mean_30 : decode cX6_mean 30 = .ok (.iload_n 3, 1) := by decide +kernel
theorem dX6_mean_31 : decode cX6_mean 31 = .ok (.sipush 600, 3) := by decide +kernel
theorem dX6_mean_34 : decode cX6_mean 34 = .ok (.iload_n 2, 1) := by decide +kernel
theorem dX6_mean_35 : decode cX6_mean 35 = .ok (.isub, 1) := by decide +kernel
theorem dX6_mean_36 : decode cX6_mean 36 = .ok (.if_icmp .gt 51, 3) := by decide +kernel
theorem dX6_mean_39 : decode cX6_mean 39 = .ok (.aload_n 0, 1) := by decide +kernel
theorem dX6_mean_40 : decode cX6_mean 40 = .ok (.iload_n 3, 1) := by decide +kernel
theorem dX6_mean_41 : decode cX6_mean 41 = .ok (.iload_n 2, 1) := by decide +kernel
theorem dX6_mean_42 : decode cX6_mean 42 = .ok (.invokevirtual 353, 3) := by decide +kernel
theorem dX6_mean_45 : decode cX6_mean 45 = .ok (.lconst 0, 1) := by decide +kernel
theorem dX6_mean_46 : decode cX6_mean 46 = .ok (.lcmp, 1) := by decide +kernel
theorem dX6_mean_47 : decode cX6_mean 47 = .ok (.ifCond .eq 32, 3) := by decide +kernel
theorem dX6_mean_50 : decode cX6_mean 50 = .ok (.iload_n 3, 1) := by decide +kernel
theorem dX6_mean_51 : decode cX6_mean 51 = .ok (.sipush 600, 3) := by decide +kernel
theorem dX6_mean_54 : decode cX6_mean 54 = .ok (.iload_n 2, 1) := by decide +kernel
theorem dX6_mean_55 : decode cX6_mean 55 = .ok (.isub, 1) := by decide +kernel
theorem dX6_mean_56 : decode cX6_mean 56 = .ok (.if_icmp .ge 25, 3) := by decide +kernel
theorem dX6_mean_59 : decode cX6_mean 59 = .ok (.aload_n 0, 1) := by decide +kernel
theorem dX6_mean_60 : decode cX6_mean 60 = .ok (.iload_n 3, 1) := by decide +kernel
theorem dX6_mean_61 : decode cX6_mean 61 = .ok (.iload_n 2, 1) := by decide +kernel
theorem dX6_mean_62 : decode cX6_mean 62 = .ok (.invokevirtual 353, 3) := by decide +kernel
theorem dX6_mean_65 : decode cX6_mean 65 = .ok (.aload_n 0, 1) := by decide +kernel
theorem dX6_mean_66 : decode cX6_mean 66 = .ok (.iload_n 3, 1) := by decide +kernel
theorem dX6_mean_67 : decode cX6_mean 67 = .ok (.iconst 1, 1) := by decide +kernel
theorem dX6_mean_68 : decode cX6_mean 68 = .ok (.iadd, 1) := by decide +kernel
theorem dX6_mean_69 : decode cX6_mean 69 = .ok (.iload_n 2, 1) := by decide +kernel
theorem dX6_mean_70 : decode cX6_mean 70 = .ok (.invokevirtual 353, 3) := by decide +kernel
theorem dX6_mean_73 : decode cX6_mean 73 = .ok (.invokestatic 357, 3) := by decide +kernel
theorem dX6_mean_76 : decode cX6_mean 76 = .ok (.ifCond .eq 5, 3) := by decide +kernel
theorem dX6_mean_79 : decode cX6_mean 79 = .ok (.iload_n 3, 1) := by decide +kernel
theorem dX6_mean_80 : decode cX6_mean 80 = .ok (.ireturn, 1) := by decide +kernel
theorem dX6_mean_81 : decode cX6_mean 81 = .ok (.iinc 3 1, 3) := by decide +kernel
theorem dX6_mean_84 : decode cX6_mean 84 = .ok (.goto (-54), 3) := by decide +kernel
theorem dX6_mean_87 : decode cX6_mean 87 = .ok (.iconst (-1), 1) := by decide +kernel
theorem dX6_mean_88 : decode cX6_mean 88 = .ok (.ireturn, 1) := by decide +kernel
theorem dX6_half_0 : decode cX6_half 0 = .ok (.aload_n 0, 1) := by decide +kernel
theorem dX6_half_1 : decode cX6_half 1 = .ok (.iload_n 1, 1) := by decide +kernel
theorem dX6_half_2 : decode cX6_half 2 = .ok (.invokevirtual 96, 3) := by decide +kernel
theorem dX6_half_5 : decode cX6_half 5 = .ok (.ifCond .eq 15, 3) := by decide +kernel
theorem dX6_half_8 : decode cX6_half 8 = .ok (.iload_n 2, 1) := by decide +kernel
theorem dX6_half_9 : decode cX6_half 9 = .ok (.i2l, 1) := by decide +kernel
theorem dX6_half_10 : decode cX6_half 10 = .ok (.lconst 0, 1) := by decide +kernel
theorem dX6_half_11 : decode cX6_half 11 = .ok (.ldc2_w 342, 3) := by decide +kernel
theorem dX6_half_14 : decode cX6_half 14 = .ok (.invokestatic 92, 3) := by decide +kernel
theorem dX6_half_17 : decode cX6_half 17 = .ok (.ifCond .ne 6, 3) := by decide +kernel
theorem dX6_half_20 : decode cX6_half 20 = .ok (.bipush (-2), 2) := by decide +kernel
theorem dX6_half_22 : decode cX6_half 22 = .ok (.ireturn, 1) := by decide +kernel
theorem dX6_half_23 : decode cX6_half 23 = .ok (.iload_n 2, 1) := by decide +kernel
theorem dX6_half_24 : decode cX6_half 24 = .ok (.ifCond .ne 40, 3) := by decide +kernel
theorem dX6_half_27 : decode cX6_half 27 = .ok (.aload_n 0, 1) := by decide +kernel
theorem dX6_half_28 : decode cX6_half 28 = .ok (.iload_n 1, 1) := by decide +kernel
theorem dX6_half_29 : decode cX6_half 29 = .ok (.invokevirtual 347, 3) := by decide +kernel
theorem dX6_half_32 : decode cX6_half 32 = .ok (.iconst 0, 1) := by decide +kernel
theorem dX6_half_33 : decode cX6_half 33 = .ok (.istore_n 3, 1) := by decide +kernel
theorem dX6_half_34 : decode cX6_half 34 = .ok (.ldc2_w 342, 3) := by decide +kernel
theorem dX6_half_37 : decode cX6_half 37 = .ok (.aload_n 0, 1) := by decide +kernel
theorem dX6_half_38 : decode cX6_half 38 = .ok (.getfield 41, 3) := by decide +kernel
theorem dX6_half_41 : decode cX6_half 41 = .ok (.iload_n 3, 1) := by decide +kernel
theorem dX6_half_42 : decode cX6_half 42 = .ok (.laload, 1) := by decide +kernel
theorem dX6_half_43 : decode cX6_half 43 = .ok (.lmul, 1) := by decide +kernel
theorem dX6_half_44 : decode cX6_half 44 = .ok (.aload_n 0, 1) := by decide +kernel
theorem dX6_half_45 : decode cX6_half 45 = .ok (.getfield 41, 3) := by decide +kernel
theorem dX6_half_48 : decode cX6_half 48 = .ok (.sipush 600, 3) := by decide +kernel
theorem dX6_half_51 : decode cX6_half 51 = .ok (.laload, 1) := by decide +kernel
theorem dX6_half_52 : decode cX6_half 52 = .ok (.lcmp, 1) := by decide +kernel
theorem dX6_half_53 : decode cX6_half 53 = .ok (.ifCond .ge 9, 3) := by decide +kernel
theorem dX6_half_56 : decode cX6_half 56 = .ok (.iinc 3 1, 3) := by decide +kernel
theorem dX6_half_59 : decode cX6_half 59 = .ok (.goto (-25), 3) := by decide +kernel
theorem dX6_half_62 : decode cX6_half 62 = .ok (.iload_n 3, 1) := by decide +kernel
theorem dX6_half_63 : decode cX6_half 63 = .ok (.ireturn, 1) := by decide +kernel
theorem dX6_half_64 : decode cX6_half 64 = .ok (.iconst 0, 1) := by decide +kernel
theorem dX6_half_65 : decode cX6_half 65 = .ok (.istore_n 3, 1) := by decide +kernel
theorem dX6_half_66 : decode cX6_half 66 = .ok (.iconst (-1), 1) := by decide +kernel
theorem dX6_half_67 : decode cX6_half 67 = .ok (.istore 4, 2) := by decide +kernel
theorem dX6_half_69 : decode cX6_half 69 = .ok (.iconst 0, 1) := by decide +kernel
theorem dX6_half_70 : decode cX6_half 70 = .ok (.istore 5, 2) := by decide +kernel
theorem dX6_half_72 : decode cX6_half 72 = .ok (.iload 5, 2) := by decide +kernel
theorem dX6_half_74 : decode cX6_half 74 = .ok (.sipush 601, 3) := by decide +kernel
theorem dX6_half_77 : decode cX6_half 77 = .ok (.if_icmp .ge 33, 3) := by decide +kernel
theorem dX6_half_80 : decode cX6_half 80 = .ok (.aload_n 0, 1) := by decide +kernel
theorem dX6_half_81 : decode cX6_half 81 = .ok (.iconst 2, 1) := by decide +kernel
theorem dX6_half_82 : decode cX6_half 82 = .ok (.iload_n 1, 1) := by decide +kernel
theorem dX6_half_83 : decode cX6_half 83 = .ok (.iload 5, 2) := by decide +kernel
theorem dX6_half_85 : decode cX6_half 85 = .ok (.invokevirtual 344, 3) := by decide +kernel
theorem dX6_half_88 : decode cX6_half 88 = .ok (.istore 6, 2) := by decide +kernel
theorem dX6_half_90 : decode cX6_half 90 = .ok (.iload 6, 2) := by decide +kernel
theorem dX6_half_92 : decode cX6_half 92 = .ok (.iload 4, 2) := by decide +kernel
theorem dX6_half_94 : decode cX6_half 94 = .ok (.if_icmp .le 10, 3) := by decide +kernel
theorem dX6_half_97 : decode cX6_half 97 = .ok (.iload 5, 2) := by decide +kernel
theorem dX6_half_99 : decode cX6_half 99 = .ok (.istore_n 3, 1) := by decide +kernel
theorem dX6_half_100 : decode cX6_half 100 = .ok (.iload 6, 2) := by decide +kernel
theorem dX6_half_102 : decode cX6_half 102 = .ok (.istore 4, 2) := by decide +kernel
theorem dX6_half_104 : decode cX6_half 104 = .ok (.iinc 5 1, 3) := by decide +kernel
theorem dX6_half_107 : decode cX6_half 107 = .ok (.goto (-35), 3) := by decide +kernel
theorem dX6_half_110 : decode cX6_half 110 = .ok (.iload_n 2, 1) := by decide +kernel
theorem dX6_half_111 : decode cX6_half 111 = .ok (.iconst 1, 1) := by decide +kernel
theorem dX6_half_112 : decode cX6_half 112 = .ok (.if_icmp .ne 7, 3) := by decide +kernel
theorem dX6_half_115 : decode cX6_half 115 = .ok (.iload_n 3, 1) := by decide +kernel
theorem dX6_half_116 : decode cX6_half 116 = .ok (.goto 5, 3) := by decide +kernel
theorem dX6_half_119 : decode cX6_half 119 = .ok (.iload 4, 2) := by decide +kernel
theorem dX6_half_121 : decode cX6_half 121 = .ok (.ireturn, 1) := by decide +kernel
theorem dX6_lays_0 : decode cX6_lays 0 = .ok (.iconst 0, 1) := by decide +kernel
theorem dX6_lays_1 : decode cX6_lays 1 = .ok (.istore_n 3, 1) := by decide +kernel
theorem dX6_lays_2 : decode cX6_lays 2 = .ok (.iload_n 3, 1) := by decide +kernel
theorem dX6_lays_3 : decode cX6_lays 3 = .ok (.sipush 601, 3) := by decide +kernel
theorem dX6_lays_6 : decode cX6_lays 6 = .ok (.if_icmp .ge 33, 3) := by decide +kernel
theorem dX6_lays_9 : decode cX6_lays 9 = .ok (.aload_n 0, 1) := by decide +kernel
theorem dX6_lays_10 : decode cX6_lays 10 = .ok (.getfield 45, 3) := by decide +kernel
theorem dX6_lays_13 : decode cX6_lays 13 = .ok (.iload_n 3, 1) := by decide +kernel
theorem dX6_lays_14 : decode cX6_lays 14 = .ok (.aload_n 0, 1) := by decide +kernel
theorem dX6_lays_15 : decode cX6_lays 15 = .ok (.iload_n 1, 1) := by decide +kernel
theorem dX6_lays_16 : decode cX6_lays 16 = .ok (.iload_n 3, 1) := by decide +kernel
theorem dX6_lays_17 : decode cX6_lays 17 = .ok (.invokevirtual 335, 3) := by decide +kernel
theorem dX6_lays_20 : decode cX6_lays 20 = .ok (.iastore, 1) := by decide +kernel
theorem dX6_lays_21 : decode cX6_lays 21 = .ok (.aload_n 0, 1) := by decide +kernel
theorem dX6_lays_22 : decode cX6_lays 22 = .ok (.getfield 48, 3) := by decide +kernel
theorem dX6_lays_25 : decode cX6_lays 25 = .ok (.iload_n 3, 1) := by decide +kernel
theorem dX6_lays_26 : decode cX6_lays 26 = .ok (.aload_n 0, 1) := by decide +kernel
theorem dX6_lays_27 : decode cX6_lays 27 = .ok (.iload_n 2, 1) := by decide +kernel
theorem dX6_lays_28 : decode cX6_lays 28 = .ok (.iload_n 3, 1) := by decide +kernel
theorem dX6_lays_29 : decode cX6_lays 29 = .ok (.invokevirtual 335, 3) := by decide +kernel
theorem dX6_lays_32 : decode cX6_lays 32 = .ok (.iastore, 1) := by decide +kernel
theorem dX6_lays_33 : decode cX6_lays 33 = .ok (.iinc 3 1, 3) := by decide +kernel
theorem dX6_lays_36 : decode cX6_lays 36 = .ok (.goto (-34), 3) := by decide +kernel
theorem dX6_lays_39 : decode cX6_lays 39 = .ok (.return_, 1) := by decide +kernel
theorem dX6_apartAt_0 : decode cX6_apartAt 0 = .ok (.aload_n 0, 1) := by decide +kernel
theorem dX6_apartAt_1 : decode cX6_apartAt 1 = .ok (.getfield 45, 3) := by decide +kernel
theorem dX6_apartAt_4 : decode cX6_apartAt 4 = .ok (.iload_n 1, 1) := by decide +kernel
theorem dX6_apartAt_5 : decode cX6_apartAt 5 = .ok (.iload_n 2, 1) := by decide +kernel
theorem dX6_apartAt_6 : decode cX6_apartAt 6 = .ok (.if_icmp .ge 7, 3) := by decide +kernel
theorem dX6_apartAt_9 : decode cX6_apartAt 9 = .ok (.iconst 0, 1) := by decide +kernel
theorem dX6_apartAt_10 : decode cX6_apartAt 10 = .ok (.goto 6, 3) := by decide +kernel
theorem dX6_apartAt_13 : decode cX6_apartAt 13 = .ok (.iload_n 1, 1) := by decide +kernel
theorem dX6_apartAt_14 : decode cX6_apartAt 14 = .ok (.iload_n 2, 1) := by decide +kernel
theorem dX6_apartAt_15 : decode cX6_apartAt 15 = .ok (.isub, 1) := by decide +kernel
theorem dX6_apartAt_16 : decode cX6_apartAt 16 = .ok (.iaload, 1) := by decide +kernel
theorem dX6_apartAt_17 : decode cX6_apartAt 17 = .ok (.aload_n 0, 1) := by decide +kernel
theorem dX6_apartAt_18 : decode cX6_apartAt 18 = .ok (.getfield 48, 3) := by decide +kernel
theorem dX6_apartAt_21 : decode cX6_apartAt 21 = .ok (.iload_n 1, 1) := by decide +kernel
theorem dX6_apartAt_22 : decode cX6_apartAt 22 = .ok (.iaload, 1) := by decide +kernel
theorem dX6_apartAt_23 : decode cX6_apartAt 23 = .ok (.isub, 1) := by decide +kernel
theorem dX6_apartAt_24 : decode cX6_apartAt 24 = .ok (.ireturn, 1) := by decide +kernel
theorem dX6_doMeet_0 : decode cX6_doMeet 0 = .ok (.aload_n 0, 1) := by decide +kernel
theorem dX6_doMeet_1 : decode cX6_doMeet 1 = .ok (.iload_n 1, 1) := by decide +kernel
theorem dX6_doMeet_2 : decode cX6_doMeet 2 = .ok (.iload_n 2, 1) := by decide +kernel
theorem dX6_doMeet_3 : decode cX6_doMeet 3 = .ok (.invokevirtual 361, 3) := by decide +kernel
theorem dX6_doMeet_6 : decode cX6_doMeet 6 = .ok (.istore_n 3, 1) := by decide +kernel
theorem dX6_doMeet_7 : decode cX6_doMeet 7 = .ok (.iload_n 3, 1) := by decide +kernel
theorem dX6_doMeet_8 : decode cX6_doMeet 8 = .ok (.ifCond .eq 27, 3) := by decide +kernel
theorem dX6_doMeet_11 : decode cX6_doMeet 11 = .ok (.iload_n 1, 1) := by decide +kernel
theorem dX6_doMeet_12 : decode cX6_doMeet 12 = .ok (.sipush 600, 3) := by decide +kernel
theorem dX6_doMeet_15 : decode cX6_doMeet 15 = .ok (.if_icmp .ge 24, 3) := by decide +kernel
theorem dX6_doMeet_18 : decode cX6_doMeet 18 = .ok (.iload_n 3, 1) := by decide +kernel
theorem dX6_doMeet_19 : decode cX6_doMeet 19 = .ok (.i2l, 1) := by decide +kernel
theorem dX6_doMeet_20 : decode cX6_doMeet 20 = .ok (.aload_n 0, 1) := by decide +kernel
theorem dX6_doMeet_21 : decode cX6_doMeet 21 = .ok (.iload_n 1, 1) := by decide +kernel
theorem dX6_doMeet_22 : decode cX6_doMeet 22 = .ok (.iconst 1, 1) := by decide +kernel
theorem dX6_doMeet_23 : decode cX6_doMeet 23 = .ok (.iadd, 1) := by decide +kernel
theorem dX6_doMeet_24 : decode cX6_doMeet 24 = .ok (.iload_n 2, 1) := by decide +kernel
theorem dX6_doMeet_25 : decode cX6_doMeet 25 = .ok (.invokevirtual 361, 3) := by decide +kernel
theorem dX6_doMeet_28 : decode cX6_doMeet 28 = .ok (.i2l, 1) := by decide +kernel
theorem dX6_doMeet_29 : decode cX6_doMeet 29 = .ok (.invokestatic 357, 3) := by decide +kernel
theorem dX6_doMeet_32 : decode cX6_doMeet 32 = .ok (.ifCond .eq 7, 3) := by decide +kernel
theorem dX6_doMeet_35 : decode cX6_doMeet 35 = .ok (.iconst 1, 1) := by decide +kernel
theorem dX6_doMeet_36 : decode cX6_doMeet 36 = .ok (.goto 4, 3) := by decide +kernel
theorem dX6_doMeet_39 : decode cX6_doMeet 39 = .ok (.iconst 0, 1) := by decide +kernel
theorem dX6_doMeet_40 : decode cX6_doMeet 40 = .ok (.ireturn, 1) := by decide +kernel
theorem dX6_firstMeet_0 : decode cX6_firstMeet 0 = .ok (.iconst 0, 1) := by decide +kernel
theorem dX6_firstMeet_1 : decode cX6_firstMeet 1 = .ok (.istore_n 2, 1) := by decide +kernel
theorem dX6_firstMeet_2 : decode cX6_firstMeet 2 = .ok (.iload_n 2, 1) := by decide +kernel
theorem dX6_firstMeet_3 : decode cX6_firstMeet 3 = .ok (.sipush 601, 3) := by decide +kernel
theorem dX6_firstMeet_6 : decode cX6_firstMeet 6 = .ok (.if_icmp .ge 20, 3) := by decide +kernel
theorem dX6_firstMeet_9 : decode cX6_firstMeet 9 = .ok (.aload_n 0, 1) := by decide +kernel
theorem dX6_firstMeet_10 : decode cX6_firstMeet 10 = .ok (.iload_n 2, 1) := by decide +kernel
theorem dX6_firstMeet_11 : decode cX6_firstMeet 11 = .ok (.iload_n 1, 1) := by decide +kernel
theorem dX6_firstMeet_12 : decode cX6_firstMeet 12 = .ok (.invokevirtual 364, 3) := by decide +kernel
theorem dX6_firstMeet_15 : decode cX6_firstMeet 15 = .ok (.ifCond .eq 5, 3) := by decide +kernel
theorem dX6_firstMeet_18 : decode cX6_firstMeet 18 = .ok (.iload_n 2, 1) := by decide +kernel
theorem dX6_firstMeet_19 : decode cX6_firstMeet 19 = .ok (.ireturn, 1) := by decide +kernel
theorem dX6_firstMeet_20 : decode cX6_firstMeet 20 = .ok (.iinc 2 1, 3) := by decide +kernel
theorem dX6_firstMeet_23 : decode cX6_firstMeet 23 = .ok (.goto (-21), 3) := by decide +kernel
theorem dX6_firstMeet_26 : decode cX6_firstMeet 26 = .ok (.iconst (-1), 1) := by decide +kernel
theorem dX6_firstMeet_27 : decode cX6_firstMeet 27 = .ok (.ireturn, 1) := by decide +kernel
theorem dX6_meet_0 : decode cX6_meet 0 = .ok (.aload_n 0, 1) := by decide +kernel
theorem dX6_meet_1 : decode cX6_meet 1 = .ok (.iload_n 1, 1) := by decide +kernel
theorem dX6_meet_2 : decode cX6_meet 2 = .ok (.iload_n 2, 1) := by decide +kernel
theorem dX6_meet_3 : decode cX6_meet 3 = .ok (.invokevirtual 367, 3) := by decide +kernel
theorem dX6_meet_6 : decode cX6_meet 6 = .ok (.ifCond .eq 15, 3) := by decide +kernel
theorem dX6_meet_9 : decode cX6_meet 9 = .ok (.iload_n 3, 1) := by decide +kernel
theorem dX6_meet_10 : decode cX6_meet 10 = .ok (.i2l, 1) := by decide +kernel
theorem dX6_meet_11 : decode cX6_meet 11 = .ok (.lconst 0, 1) := by decide +kernel
theorem dX6_meet_12 : decode cX6_meet 12 = .ok (.ldc2_w 370, 3) := by decide +kernel
theorem dX6_meet_15 : decode cX6_meet 15 = .ok (.invokestatic 92, 3) := by decide +kernel
theorem dX6_meet_18 : decode cX6_meet 18 = .ok (.ifCond .ne 6, 3) := by decide +kernel
theorem dX6_meet_21 : decode cX6_meet 21 = .ok (.bipush (-2), 2) := by decide +kernel
theorem dX6_meet_23 : decode cX6_meet 23 = .ok (.ireturn, 1) := by decide +kernel
theorem dX6_meet_24 : decode cX6_meet 24 = .ok (.aload_n 0, 1) := by decide +kernel
theorem dX6_meet_25 : decode cX6_meet 25 = .ok (.iload_n 1, 1) := by decide +kernel
theorem dX6_meet_26 : decode cX6_meet 26 = .ok (.iload_n 2, 1) := by decide +kernel
theorem dX6_meet_27 : decode cX6_meet 27 = .ok (.invokevirtual 372, 3) := by decide +kernel
theorem dX6_meet_30 : decode cX6_meet 30 = .ok (.iconst 0, 1) := by decide +kernel
theorem dX6_meet_31 : decode cX6_meet 31 = .ok (.istore 4, 2) := by decide +kernel
theorem dX6_meet_33 : decode cX6_meet 33 = .ok (.iconst (-1), 1) := by decide +kernel
theorem dX6_meet_34 : decode cX6_meet 34 = .ok (.istore 5, 2) := by decide +kernel
theorem dX6_meet_36 : decode cX6_meet 36 = .ok (.iconst 0, 1) := by decide +kernel
theorem dX6_meet_37 : decode cX6_meet 37 = .ok (.istore 6, 2) := by decide +kernel
theorem dX6_meet_39 : decode cX6_meet 39 = .ok (.iload 6, 2) := by decide +kernel
theorem dX6_meet_41 : decode cX6_meet 41 = .ok (.sipush 601, 3) := by decide +kernel
theorem dX6_meet_44 : decode cX6_meet 44 = .ok (.if_icmp .ge 26, 3) := by decide +kernel
theorem dX6_meet_47 : decode cX6_meet 47 = .ok (.aload_n 0, 1) := by decide +kernel
theorem dX6_meet_48 : decode cX6_meet 48 = .ok (.iload 6, 2) := by decide +kernel
theorem dX6_meet_50 : decode cX6_meet 50 = .ok (.iconst 0, 1) := by decide +kernel
theorem dX6_meet_51 : decode cX6_meet 51 = .ok (.invokevirtual 364, 3) := by decide +kernel
theorem dX6_meet_54 : decode cX6_meet 54 = .ok (.ifCond .eq 10, 3) := by decide +kernel
theorem dX6_meet_57 : decode cX6_meet 57 = .ok (.iinc 4 1, 3) := by decide +kernel
theorem dX6_meet_60 : decode cX6_meet 60 = .ok (.iload 6, 2) := by decide +kernel
theorem dX6_meet_62 : decode cX6_meet 62 = .ok (.istore 5, 2) := by decide +kernel
theorem dX6_meet_64 : decode cX6_meet 64 = .ok (.iinc 6 1, 3) := by decide +kernel
theorem dX6_meet_67 : decode cX6_meet 67 = .ok (.goto (-28), 3) := by decide +kernel
theorem dX6_meet_70 : decode cX6_meet 70 = .ok (.iload_n 3, 1) := by decide +kernel
theorem dX6_meet_71 : decode cX6_meet 71 = .ok (.ifCond .ne 8, 3) := by decide +kernel
theorem dX6_meet_74 : decode cX6_meet 74 = .ok (.iload 4, 2) := by decide +kernel
theorem dX6_meet_76 : decode cX6_meet 76 = .ok (.goto 30, 3) := by decide +kernel
theorem dX6_meet_79 : decode cX6_meet 79 = .ok (.iload_n 3, 1) := by decide +kernel
theorem dX6_meet_80 : decode cX6_meet 80 = .ok (.iconst 1, 1) := by decide +kernel
theorem dX6_meet_81 : decode cX6_meet 81 = .ok (.if_icmp .ne 11, 3) := by decide +kernel
theorem dX6_meet_84 : decode cX6_meet 84 = .ok (.aload_n 0, 1) := by decide +kernel
theorem dX6_meet_85 : decode cX6_meet 85 = .ok (.iconst 0, 1) := by decide +kernel
theorem dX6_meet_86 : decode cX6_meet 86 = .ok (.invokevirtual 376, 3) := by decide +kernel
theorem dX6_meet_89 : decode cX6_meet 89 = .ok (.goto 17, 3) := by decide +kernel
theorem dX6_meet_92 : decode cX6_meet 92 = .ok (.iload_n 3, 1) := by decide +kernel
theorem dX6_meet_93 : decode cX6_meet 93 = .ok (.iconst 2, 1) := by decide +kernel
theorem dX6_meet_94 : decode cX6_meet 94 = .ok (.if_icmp .ne 8, 3) := by decide +kernel
theorem dX6_meet_97 : decode cX6_meet 97 = .ok (.iload 5, 2) := by decide +kernel
theorem dX6_meet_99 : decode cX6_meet 99 = .ok (.goto 7, 3) := by decide +kernel
theorem dX6_meet_102 : decode cX6_meet 102 = .ok (.iload 4, 2) := by decide +kernel
theorem dX6_meet_104 : decode cX6_meet 104 = .ok (.iconst 2, 1) := by decide +kernel
theorem dX6_meet_105 : decode cX6_meet 105 = .ok (.irem, 1) := by decide +kernel
theorem dX6_meet_106 : decode cX6_meet 106 = .ok (.ireturn, 1) := by decide +kernel
theorem dX6_lowest_0 : decode cX6_lowest 0 = .ok (.lload_n 0, 1) := by decide +kernel
theorem dX6_lowest_1 : decode cX6_lowest 1 = .ok (.lstore 5, 2) := by decide +kernel
theorem dX6_lowest_3 : decode cX6_lowest 3 = .ok (.lload_n 2, 1) := by decide +kernel
theorem dX6_lowest_4 : decode cX6_lowest 4 = .ok (.lstore 7, 2) := by decide +kernel
theorem dX6_lowest_6 : decode cX6_lowest 6 = .ok (.lload 7, 2) := by decide +kernel
theorem dX6_lowest_8 : decode cX6_lowest 8 = .ok (.lconst 0, 1) := by decide +kernel
theorem dX6_lowest_9 : decode cX6_lowest 9 = .ok (.lcmp, 1) := by decide +kernel
theorem dX6_lowest_10 : decode cX6_lowest 10 = .ok (.ifCond .eq 21, 3) := by decide +kernel
theorem dX6_lowest_13 : decode cX6_lowest 13 = .ok (.lload 5, 2) := by decide +kernel
theorem dX6_lowest_15 : decode cX6_lowest 15 = .ok (.lload 7, 2) := by decide +kernel
theorem dX6_lowest_17 : decode cX6_lowest 17 = .ok (.lrem, 1) := by decide +kernel
theorem dX6_lowest_18 : decode cX6_lowest 18 = .ok (.lstore 9, 2) := by decide +kernel
theorem dX6_lowest_20 : decode cX6_lowest 20 = .ok (.lload 7, 2) := by decide +kernel
theorem dX6_lowest_22 : decode cX6_lowest 22 = .ok (.lstore 5, 2) := by decide +kernel
theorem dX6_lowest_24 : decode cX6_lowest 24 = .ok (.lload 9, 2) := by decide +kernel
theorem dX6_lowest_26 : decode cX6_lowest 26 = .ok (.lstore 7, 2) := by decide +kernel
theorem dX6_lowest_28 : decode cX6_lowest 28 = .ok (.goto (-22), 3) := by decide +kernel
theorem dX6_lowest_31 : decode cX6_lowest 31 = .ok (.iload 4, 2) := by decide +kernel
theorem dX6_lowest_33 : decode cX6_lowest 33 = .ok (.ifCond .ne 10, 3) := by decide +kernel
theorem dX6_lowest_36 : decode cX6_lowest 36 = .ok (.lload_n 0, 1) := by decide +kernel
theorem dX6_lowest_37 : decode cX6_lowest 37 = .ok (.lload 5, 2) := by decide +kernel
theorem dX6_lowest_39 : decode cX6_lowest 39 = .ok (.ldiv, 1) := by decide +kernel
theorem dX6_lowest_40 : decode cX6_lowest 40 = .ok (.goto 7, 3) := by decide +kernel
theorem dX6_lowest_43 : decode cX6_lowest 43 = .ok (.lload_n 2, 1) := by decide +kernel
theorem dX6_lowest_44 : decode cX6_lowest 44 = .ok (.lload 5, 2) := by decide +kernel
theorem dX6_lowest_46 : decode cX6_lowest 46 = .ok (.ldiv, 1) := by decide +kernel
theorem dX6_lowest_47 : decode cX6_lowest 47 = .ok (.lreturn, 1) := by decide +kernel
theorem dX6_when_0 : decode cX6_when 0 = .ok (.aload_n 0, 1) := by decide +kernel
theorem dX6_when_1 : decode cX6_when 1 = .ok (.iload_n 1, 1) := by decide +kernel
theorem dX6_when_2 : decode cX6_when 2 = .ok (.iload_n 2, 1) := by decide +kernel
theorem dX6_when_3 : decode cX6_when 3 = .ok (.invokevirtual 367, 3) := by decide +kernel
theorem dX6_when_6 : decode cX6_when 6 = .ok (.ifCond .eq 13, 3) := by decide +kernel
theorem dX6_when_9 : decode cX6_when 9 = .ok (.iload_n 3, 1) := by decide +kernel
theorem dX6_when_10 : decode cX6_when 10 = .ok (.i2l, 1) := by decide +kernel
theorem dX6_when_11 : decode cX6_when 11 = .ok (.lconst 0, 1) := by decide +kernel
theorem dX6_when_12 : decode cX6_when 12 = .ok (.lconst 1, 1) := by decide +kernel
theorem dX6_when_13 : decode cX6_when 13 = .ok (.invokestatic 92, 3) := by decide +kernel
theorem dX6_when_16 : decode cX6_when 16 = .ok (.ifCond .ne 7, 3) := by decide +kernel
theorem dX6_when_19 : decode cX6_when 19 = .ok (.ldc2_w 379, 3) := by decide +kernel
theorem dX6_when_22 : decode cX6_when 22 = .ok (.lreturn, 1) := by decide +kernel
theorem dX6_when_23 : decode cX6_when 23 = .ok (.aload_n 0, 1) := by decide +kernel
theorem dX6_when_24 : decode cX6_when 24 = .ok (.iload_n 1, 1) := by decide +kernel
theorem dX6_when_25 : decode cX6_when 25 = .ok (.iload_n 2, 1) := by decide +kernel
theorem dX6_when_26 : decode cX6_when 26 = .ok (.invokevirtual 372, 3) := by decide +kernel
theorem dX6_when_29 : decode cX6_when 29 = .ok (.aload_n 0, 1) := by decide +kernel
theorem dX6_when_30 : decode cX6_when 30 = .ok (.iconst 0, 1) := by decide +kernel
theorem dX6_when_31 : decode cX6_when 31 = .ok (.invokevirtual 376, 3) := by decide +kernel
theorem dX6_when_34 : decode cX6_when 34 = .ok (.istore 4, 2) := by decide +kernel
theorem dX6_when_36 : decode cX6_when 36 = .ok (.iload 4, 2) := by decide +kernel
theorem dX6_when_38 : decode cX6_when 38 = .ok (.iconst (-1), 1) := by decide +kernel
theorem dX6_when_39 : decode cX6_when 39 = .ok (.if_icmp .ne 7, 3) := by decide +kernel
theorem dX6_when_42 : decode cX6_when 42 = .ok (.ldc2_w 379, 3) := by decide +kernel
theorem dX6_when_45 : decode cX6_when 45 = .ok (.lreturn, 1) := by decide +kernel
theorem dX6_when_46 : decode cX6_when 46 = .ok (.aload_n 0, 1) := by decide +kernel
theorem dX6_when_47 : decode cX6_when 47 = .ok (.iload 4, 2) := by decide +kernel
theorem dX6_when_49 : decode cX6_when 49 = .ok (.iconst 0, 1) := by decide +kernel
theorem dX6_when_50 : decode cX6_when 50 = .ok (.invokevirtual 361, 3) := by decide +kernel
theorem dX6_when_53 : decode cX6_when 53 = .ok (.i2l, 1) := by decide +kernel
theorem dX6_when_54 : decode cX6_when 54 = .ok (.invokestatic 338, 3) := by decide +kernel
theorem dX6_when_57 : decode cX6_when 57 = .ok (.lstore 5, 2) := by decide +kernel
theorem dX6_when_59 : decode cX6_when 59 = .ok (.lload 5, 2) := by decide +kernel
theorem dX6_when_61 : decode cX6_when 61 = .ok (.lconst 0, 1) := by decide +kernel
theorem dX6_when_62 : decode cX6_when 62 = .ok (.lcmp, 1) := by decide +kernel
theorem dX6_when_63 : decode cX6_when 63 = .ok (.ifCond .ne 15, 3) := by decide +kernel
theorem dX6_when_66 : decode cX6_when 66 = .ok (.iload_n 3, 1) := by decide +kernel
theorem dX6_when_67 : decode cX6_when 67 = .ok (.ifCond .ne 9, 3) := by decide +kernel
theorem dX6_when_70 : decode cX6_when 70 = .ok (.iload 4, 2) := by decide +kernel
theorem dX6_when_72 : decode cX6_when 72 = .ok (.i2l, 1) := by decide +kernel
theorem dX6_when_73 : decode cX6_when 73 = .ok (.goto 4, 3) := by decide +kernel
theorem dX6_when_76 : decode cX6_when 76 = .ok (.lconst 1, 1) := by decide +kernel
theorem dX6_when_77 : decode cX6_when 77 = .ok (.lreturn, 1) := by decide +kernel
theorem dX6_when_78 : decode cX6_when 78 = .ok (.lload 5, 2) := by decide +kernel
theorem dX6_when_80 : decode cX6_when 80 = .ok (.aload_n 0, 1) := by decide +kernel
theorem dX6_when_81 : decode cX6_when 81 = .ok (.iload 4, 2) := by decide +kernel
theorem dX6_when_83 : decode cX6_when 83 = .ok (.iconst 1, 1) := by decide +kernel
theorem dX6_when_84 : decode cX6_when 84 = .ok (.iadd, 1) := by decide +kernel
theorem dX6_when_85 : decode cX6_when 85 = .ok (.iconst 0, 1) := by decide +kernel
theorem dX6_when_86 : decode cX6_when 86 = .ok (.invokevirtual 361, 3) := by decide +kernel
theorem dX6_when_89 : decode cX6_when 89 = .ok (.i2l, 1) := by decide +kernel
theorem dX6_when_90 : decode cX6_when 90 = .ok (.invokestatic 338, 3) := by decide +kernel
theorem dX6_when_93 : decode cX6_when 93 = .ok (.ladd, 1) := by decide +kernel
theorem dX6_when_94 : decode cX6_when 94 = .ok (.lstore 7, 2) := by decide +kernel
theorem dX6_when_96 : decode cX6_when 96 = .ok (.iload 4, 2) := by decide +kernel
theorem dX6_when_98 : decode cX6_when 98 = .ok (.i2l, 1) := by decide +kernel
theorem dX6_when_99 : decode cX6_when 99 = .ok (.lload 7, 2) := by decide +kernel
theorem dX6_when_101 : decode cX6_when 101 = .ok (.lmul, 1) := by decide +kernel
theorem dX6_when_102 : decode cX6_when 102 = .ok (.lload 5, 2) := by decide +kernel
theorem dX6_when_104 : decode cX6_when 104 = .ok (.ladd, 1) := by decide +kernel
theorem dX6_when_105 : decode cX6_when 105 = .ok (.lload 7, 2) := by decide +kernel
theorem dX6_when_107 : decode cX6_when 107 = .ok (.iload_n 3, 1) := by decide +kernel
theorem dX6_when_108 : decode cX6_when 108 = .ok (.invokestatic 381, 3) := by decide +kernel
theorem dX6_when_111 : decode cX6_when 111 = .ok (.lreturn, 1) := by decide +kernel
theorem dX6_sure_0 : decode cX6_sure 0 = .ok (.aload_n 0, 1) := by decide +kernel
theorem dX6_sure_1 : decode cX6_sure 1 = .ok (.iload_n 1, 1) := by decide +kernel
theorem dX6_sure_2 : decode cX6_sure 2 = .ok (.iload_n 2, 1) := by decide +kernel
theorem dX6_sure_3 : decode cX6_sure 3 = .ok (.invokevirtual 367, 3) := by decide +kernel
theorem dX6_sure_6 : decode cX6_sure 6 = .ok (.ifCond .ne 6, 3) := by decide +kernel
theorem dX6_sure_9 : decode cX6_sure 9 = .ok (.bipush (-2), 2) := by decide +kernel
theorem dX6_sure_11 : decode cX6_sure 11 = .ok (.ireturn, 1) := by decide +kernel
theorem dX6_sure_12 : decode cX6_sure 12 = .ok (.aload_n 0, 1) := by decide +kernel
theorem dX6_sure_13 : decode cX6_sure 13 = .ok (.iload_n 1, 1) := by decide +kernel
theorem dX6_sure_14 : decode cX6_sure 14 = .ok (.iload_n 2, 1) := by decide +kernel
theorem dX6_sure_15 : decode cX6_sure 15 = .ok (.invokevirtual 372, 3) := by decide +kernel
theorem dX6_sure_18 : decode cX6_sure 18 = .ok (.iconst (-1), 1) := by decide +kernel
theorem dX6_sure_19 : decode cX6_sure 19 = .ok (.istore_n 3, 1) := by decide +kernel
theorem dX6_sure_20 : decode cX6_sure 20 = .ok (.iload_n 3, 1) := by decide +kernel
theorem dX6_sure_21 : decode cX6_sure 21 = .ok (.bipush 120, 2) := by decide +kernel
theorem dX6_sure_23 : decode cX6_sure 23 = .ok (.if_icmp .ge 20, 3) := by decide +kernel
theorem dX6_sure_26 : decode cX6_sure 26 = .ok (.aload_n 0, 1) := by decide +kernel
theorem dX6_sure_27 : decode cX6_sure 27 = .ok (.iload_n 3, 1) := by decide +kernel
theorem dX6_sure_28 : decode cX6_sure 28 = .ok (.iconst 1, 1) := by decide +kernel
theorem dX6_sure_29 : decode cX6_sure 29 = .ok (.iadd, 1) := by decide +kernel
theorem dX6_sure_30 : decode cX6_sure 30 = .ok (.invokevirtual 376, 3) := by decide +kernel
theorem dX6_sure_33 : decode cX6_sure 33 = .ok (.iconst (-1), 1) := by decide +kernel
theorem dX6_sure_34 : decode cX6_sure 34 = .ok (.if_icmp .eq 9, 3) := by decide +kernel
theorem dX6_sure_37 : decode cX6_sure 37 = .ok (.iinc 3 1, 3) := by decide +kernel
theorem dX6_sure_40 : decode cX6_sure 40 = .ok (.goto (-20), 3) := by decide +kernel
theorem dX6_sure_43 : decode cX6_sure 43 = .ok (.iload_n 3, 1) := by decide +kernel
theorem dX6_sure_44 : decode cX6_sure 44 = .ok (.ireturn, 1) := by decide +kernel
theorem dX6_apart_0 : decode cX6_apart 0 = .ok (.aload_n 0, 1) := by decide +kernel
theorem dX6_apart_1 : decode cX6_apart 1 = .ok (.iload_n 1, 1) := by decide +kernel
theorem dX6_apart_2 : decode cX6_apart 2 = .ok (.iload_n 2, 1) := by decide +kernel
theorem dX6_apart_3 : decode cX6_apart 3 = .ok (.invokevirtual 367, 3) := by decide +kernel
theorem dX6_apart_6 : decode cX6_apart 6 = .ok (.ifCond .eq 15, 3) := by decide +kernel
theorem dX6_apart_9 : decode cX6_apart 9 = .ok (.iload_n 3, 1) := by decide +kernel
theorem dX6_apart_10 : decode cX6_apart 10 = .ok (.i2l, 1) := by decide +kernel
theorem dX6_apart_11 : decode cX6_apart 11 = .ok (.lconst 0, 1) := by decide +kernel
theorem dX6_apart_12 : decode cX6_apart 12 = .ok (.ldc2_w 342, 3) := by decide +kernel
theorem dX6_apart_15 : decode cX6_apart 15 = .ok (.invokestatic 92, 3) := by decide +kernel
theorem dX6_apart_18 : decode cX6_apart 18 = .ok (.ifCond .ne 6, 3) := by decide +kernel
theorem dX6_apart_21 : decode cX6_apart 21 = .ok (.bipush (-2), 2) := by decide +kernel
theorem dX6_apart_23 : decode cX6_apart 23 = .ok (.ireturn, 1) := by decide +kernel
theorem dX6_apart_24 : decode cX6_apart 24 = .ok (.aload_n 0, 1) := by decide +kernel
theorem dX6_apart_25 : decode cX6_apart 25 = .ok (.iload_n 1, 1) := by decide +kernel
theorem dX6_apart_26 : decode cX6_apart 26 = .ok (.iload_n 2, 1) := by decide +kernel
theorem dX6_apart_27 : decode cX6_apart 27 = .ok (.invokevirtual 372, 3) := by decide +kernel
theorem dX6_apart_30 : decode cX6_apart 30 = .ok (.iconst (-1), 1) := by decide +kernel
theorem dX6_apart_31 : decode cX6_apart 31 = .ok (.istore 4, 2) := by decide +kernel
theorem dX6_apart_33 : decode cX6_apart 33 = .ok (.iconst 0, 1) := by decide +kernel
theorem dX6_apart_34 : decode cX6_apart 34 = .ok (.istore 5, 2) := by decide +kernel
theorem dX6_apart_36 : decode cX6_apart 36 = .ok (.iconst 0, 1) := by decide +kernel
theorem dX6_apart_37 : decode cX6_apart 37 = .ok (.istore 6, 2) := by decide +kernel
theorem dX6_apart_39 : decode cX6_apart 39 = .ok (.iconst 0, 1) := by decide +kernel
theorem dX6_apart_40 : decode cX6_apart 40 = .ok (.istore 7, 2) := by decide +kernel
theorem dX6_apart_42 : decode cX6_apart 42 = .ok (.iload 7, 2) := by decide +kernel
theorem dX6_apart_44 : decode cX6_apart 44 = .ok (.sipush 601, 3) := by decide +kernel
theorem dX6_apart_47 : decode cX6_apart 47 = .ok (.if_icmp .ge 59, 3) := by decide +kernel
theorem dX6_apart_50 : decode cX6_apart 50 = .ok (.aload_n 0, 1) := by decide +kernel
theorem dX6_apart_51 : decode cX6_apart 51 = .ok (.iload 7, 2) := by decide +kernel
theorem dX6_apart_53 : decode cX6_apart 53 = .ok (.iconst 0, 1) := by decide +kernel
theorem dX6_apart_54 : decode cX6_apart 54 = .ok (.invokevirtual 361, 3) := by decide +kernel
theorem dX6_apart_57 : decode cX6_apart 57 = .ok (.i2l, 1) := by decide +kernel
theorem dX6_apart_58 : decode cX6_apart 58 = .ok (.invokestatic 338, 3) := by decide +kernel
theorem dX6_apart_61 : decode cX6_apart 61 = .ok (.l2i, 1) := by decide +kernel
theorem dX6_apart_62 : decode cX6_apart 62 = .ok (.istore 8, 2) := by decide +kernel
theorem dX6_apart_64 : decode cX6_apart 64 = .ok (.iload 8, 2) := by decide +kernel
theorem dX6_apart_66 : decode cX6_apart 66 = .ok (.iload 4, 2) := by decide +kernel
theorem dX6_apart_68 : decode cX6_apart 68 = .ok (.if_icmp .le 11, 3) := by decide +kernel
theorem dX6_apart_71 : decode cX6_apart 71 = .ok (.iload 8, 2) := by decide +kernel
theorem dX6_apart_73 : decode cX6_apart 73 = .ok (.istore 4, 2) := by decide +kernel
theorem dX6_apart_75 : decode cX6_apart 75 = .ok (.iload 7, 2) := by decide +kernel
theorem dX6_apart_77 : decode cX6_apart 77 = .ok (.istore 5, 2) := by decide +kernel
theorem dX6_apart_79 : decode cX6_apart 79 = .ok (.iload_n 3, 1) := by decide +kernel
theorem dX6_apart_80 : decode cX6_apart 80 = .ok (.iconst 2, 1) := by decide +kernel
theorem dX6_apart_81 : decode cX6_apart 81 = .ok (.if_icmp .ne 19, 3) := by decide +kernel
theorem dX6_apart_84 : decode cX6_apart 84 = .ok (.iload 8, 2) := by decide +kernel
theorem dX6_apart_86 : decode cX6_apart 86 = .ok (.aload_n 0, 1) := by decide +kernel
theorem dX6_apart_87 : decode cX6_apart 87 = .ok (.iconst 0, 1) := by decide +kernel
theorem dX6_apart_88 : decode cX6_apart 88 = .ok (.iload_n 1, 1) := by decide +kernel
theorem dX6_apart_89 : decode cX6_apart 89 = .ok (.iload 7, 2) := by decide +kernel
theorem dX6_apart_91 : decode cX6_apart 91 = .ok (.invokevirtual 344, 3) := by decide +kernel
theorem dX6_apart_94 : decode cX6_apart 94 = .ok (.if_icmp .gt 6, 3) := by decide +kernel
theorem dX6_apart_97 : decode cX6_apart 97 = .ok (.iinc 6 1, 3) := by decide +kernel
theorem dX6_apart_100 : decode cX6_apart 100 = .ok (.iinc 7 1, 3) := by decide +kernel
theorem dX6_apart_103 : decode cX6_apart 103 = .ok (.goto (-61), 3) := by decide +kernel
theorem dX6_apart_106 : decode cX6_apart 106 = .ok (.iload_n 3, 1) := by decide +kernel
theorem dX6_apart_107 : decode cX6_apart 107 = .ok (.ifCond .ne 8, 3) := by decide +kernel
theorem dX6_apart_110 : decode cX6_apart 110 = .ok (.iload 4, 2) := by decide +kernel
theorem dX6_apart_112 : decode cX6_apart 112 = .ok (.goto 15, 3) := by decide +kernel
theorem dX6_apart_115 : decode cX6_apart 115 = .ok (.iload_n 3, 1) := by decide +kernel
theorem dX6_apart_116 : decode cX6_apart 116 = .ok (.iconst 1, 1) := by decide +kernel
theorem dX6_apart_117 : decode cX6_apart 117 = .ok (.if_icmp .ne 8, 3) := by decide +kernel
theorem dX6_apart_120 : decode cX6_apart 120 = .ok (.iload 5, 2) := by decide +kernel
theorem dX6_apart_122 : decode cX6_apart 122 = .ok (.goto 5, 3) := by decide +kernel
theorem dX6_apart_125 : decode cX6_apart 125 = .ok (.iload 6, 2) := by decide +kernel
theorem dX6_apart_127 : decode cX6_apart 127 = .ok (.ireturn, 1) := by decide +kernel
theorem dX6_notesBad_0 : decode cX6_notesBad 0 = .ok (.iload_n 1, 1) := by decide +kernel
theorem dX6_notesBad_1 : decode cX6_notesBad 1 = .ok (.invokestatic 385, 3) := by decide +kernel
theorem dX6_notesBad_4 : decode cX6_notesBad 4 = .ok (.ifCond .ne 6, 3) := by decide +kernel
theorem dX6_notesBad_7 : decode cX6_notesBad 7 = .ok (.bipush (-2), 2) := by decide +kernel
theorem dX6_notesBad_9 : decode cX6_notesBad 9 = .ok (.ireturn, 1) := by decide +kernel
theorem dX6_notesBad_10 : decode cX6_notesBad 10 = .ok (.aload_n 0, 1) := by decide +kernel
theorem dX6_notesBad_11 : decode cX6_notesBad 11 = .ok (.getfield 69, 3) := by decide +kernel
theorem dX6_notesBad_14 : decode cX6_notesBad 14 = .ok (.iload_n 1, 1) := by decide +kernel
theorem dX6_notesBad_15 : decode cX6_notesBad 15 = .ok (.baload, 1) := by decide +kernel
theorem dX6_notesBad_16 : decode cX6_notesBad 16 = .ok (.ifCond .ne 6, 3) := by decide +kernel
theorem dX6_notesBad_19 : decode cX6_notesBad 19 = .ok (.bipush (-11), 2) := by decide +kernel
theorem dX6_notesBad_21 : decode cX6_notesBad 21 = .ok (.ireturn, 1) := by decide +kernel
theorem dX6_notesBad_22 : decode cX6_notesBad 22 = .ok (.aload_n 0, 1) := by decide +kernel
theorem dX6_notesBad_23 : decode cX6_notesBad 23 = .ok (.getfield 76, 3) := by decide +kernel
theorem dX6_notesBad_26 : decode cX6_notesBad 26 = .ok (.iload_n 1, 1) := by decide +kernel
theorem dX6_notesBad_27 : decode cX6_notesBad 27 = .ok (.iaload, 1) := by decide +kernel
theorem dX6_notesBad_28 : decode cX6_notesBad 28 = .ok (.iconst 3, 1) := by decide +kernel
theorem dX6_notesBad_29 : decode cX6_notesBad 29 = .ok (.irem, 1) := by decide +kernel
theorem dX6_notesBad_30 : decode cX6_notesBad 30 = .ok (.ifCond .eq 6, 3) := by decide +kernel
theorem dX6_notesBad_33 : decode cX6_notesBad 33 = .ok (.bipush (-2), 2) := by decide +kernel
theorem dX6_notesBad_35 : decode cX6_notesBad 35 = .ok (.ireturn, 1) := by decide +kernel
theorem dX6_notesBad_36 : decode cX6_notesBad 36 = .ok (.iconst 0, 1) := by decide +kernel
theorem dX6_notesBad_37 : decode cX6_notesBad 37 = .ok (.istore_n 2, 1) := by decide +kernel
theorem dX6_notesBad_38 : decode cX6_notesBad 38 = .ok (.iload_n 2, 1) := by decide +kernel
theorem dX6_notesBad_39 : decode cX6_notesBad 39 = .ok (.aload_n 0, 1) := by decide +kernel
theorem dX6_notesBad_40 : decode cX6_notesBad 40 = .ok (.getfield 76, 3) := by decide +kernel
theorem dX6_notesBad_43 : decode cX6_notesBad 43 = .ok (.iload_n 1, 1) := by decide +kernel
theorem dX6_notesBad_44 : decode cX6_notesBad 44 = .ok (.iaload, 1) := by decide +kernel
theorem dX6_notesBad_45 : decode cX6_notesBad 45 = .ok (.if_icmp .ge 29, 3) := by decide +kernel
theorem dX6_notesBad_48 : decode cX6_notesBad 48 = .ok (.aload_n 0, 1) := by decide +kernel
theorem dX6_notesBad_49 : decode cX6_notesBad 49 = .ok (.getfield 79, 3) := by decide +kernel
theorem dX6_notesBad_52 : decode cX6_notesBad 52 = .ok (.bipush 40, 2) := by decide +kernel
theorem dX6_notesBad_54 : decode cX6_notesBad 54 = .ok (.iload_n 1, 1) := by decide +kernel
theorem dX6_notesBad_55 : decode cX6_notesBad 55 = .ok (.imul, 1) := by decide +kernel
theorem dX6_notesBad_56 : decode cX6_notesBad 56 = .ok (.iload_n 2, 1) := by decide +kernel
theorem dX6_notesBad_57 : decode cX6_notesBad 57 = .ok (.iadd, 1) := by decide +kernel
theorem dX6_notesBad_58 : decode cX6_notesBad 58 = .ok (.iaload, 1) := by decide +kernel
theorem dX6_notesBad_59 : decode cX6_notesBad 59 = .ok (.invokestatic 110, 3) := by decide +kernel
theorem dX6_notesBad_62 : decode cX6_notesBad 62 = .ok (.ifCond .ne 6, 3) := by decide +kernel
theorem dX6_notesBad_65 : decode cX6_notesBad 65 = .ok (.bipush (-2), 2) := by decide +kernel
theorem dX6_notesBad_67 : decode cX6_notesBad 67 = .ok (.ireturn, 1) := by decide +kernel
theorem dX6_notesBad_68 : decode cX6_notesBad 68 = .ok (.iinc 2 3, 3) := by decide +kernel
theorem dX6_notesBad_71 : decode cX6_notesBad 71 = .ok (.goto (-33), 3) := by decide +kernel
theorem dX6_notesBad_74 : decode cX6_notesBad 74 = .ok (.iconst 0, 1) := by decide +kernel
theorem dX6_notesBad_75 : decode cX6_notesBad 75 = .ok (.ireturn, 1) := by decide +kernel
theorem dX6_isSo_0 : decode cX6_isSo 0 = .ok (.iconst 0, 1) := by decide +kernel
theorem dX6_isSo_1 : decode cX6_isSo 1 = .ok (.istore 4, 2) := by decide +kernel
theorem dX6_isSo_3 : decode cX6_isSo 3 = .ok (.iload 4, 2) := by decide +kernel
theorem dX6_isSo_5 : decode cX6_isSo 5 = .ok (.aload_n 0, 1) := by decide +kernel
theorem dX6_isSo_6 : decode cX6_isSo 6 = .ok (.getfield 76, 3) := by decide +kernel
theorem dX6_isSo_9 : decode cX6_isSo 9 = .ok (.iload_n 1, 1) := by decide +kernel
theorem dX6_isSo_10 : decode cX6_isSo 10 = .ok (.iaload, 1) := by decide +kernel
theorem dX6_isSo_11 : decode cX6_isSo 11 = .ok (.if_icmp .ge 105, 3) := by decide +kernel
theorem dX6_isSo_14 : decode cX6_isSo 14 = .ok (.aload_n 0, 1) := by decide +kernel
theorem dX6_isSo_15 : decode cX6_isSo 15 = .ok (.getfield 79, 3) := by decide +kernel
theorem dX6_isSo_18 : decode cX6_isSo 18 = .ok (.bipush 40, 2) := by decide +kernel
theorem dX6_isSo_20 : decode cX6_isSo 20 = .ok (.iload_n 1, 1) := by decide +kernel
theorem dX6_isSo_21 : decode cX6_isSo 21 = .ok (.imul, 1) := by decide +kernel
theorem dX6_isSo_22 : decode cX6_isSo 22 = .ok (.iload 4, 2) := by decide +kernel
theorem dX6_isSo_24 : decode cX6_isSo 24 = .ok (.iadd, 1) := by decide +kernel
theorem dX6_isSo_25 : decode cX6_isSo 25 = .ok (.iaload, 1) := by decide +kernel
theorem dX6_isSo_26 : decode cX6_isSo 26 = .ok (.istore 5, 2) := by decide +kernel
theorem dX6_isSo_28 : decode cX6_isSo 28 = .ok (.iload 5, 2) := by decide +kernel
theorem dX6_isSo_30 : decode cX6_isSo 30 = .ok (.iload_n 3, 1) := by decide +kernel
theorem dX6_isSo_31 : decode cX6_isSo 31 = .ok (.bipush 99, 2) := by decide +kernel
theorem dX6_isSo_33 : decode cX6_isSo 33 = .ok (.if_icmp .ne 14, 3) := by decide +kernel
theorem dX6_isSo_36 : decode cX6_isSo 36 = .ok (.aload_n 0, 1) := by decide +kernel
theorem dX6_isSo_37 : decode cX6_isSo 37 = .ok (.iconst 1, 1) := by decide +kernel
theorem dX6_isSo_38 : decode cX6_isSo 38 = .ok (.iload_n 2, 1) := by decide +kernel
theorem dX6_isSo_39 : decode cX6_isSo 39 = .ok (.iload 5, 2) := by decide +kernel
theorem dX6_isSo_41 : decode cX6_isSo 41 = .ok (.invokevirtual 344, 3) := by decide +kernel
theorem dX6_isSo_44 : decode cX6_isSo 44 = .ok (.goto 4, 3) := by decide +kernel
theorem dX6_isSo_47 : decode cX6_isSo 47 = .ok (.iload_n 3, 1) := by decide +kernel
theorem dX6_isSo_48 : decode cX6_isSo 48 = .ok (.iadd, 1) := by decide +kernel
theorem dX6_isSo_49 : decode cX6_isSo 49 = .ok (.iconst 0, 1) := by decide +kernel
theorem dX6_isSo_50 : decode cX6_isSo 50 = .ok (.sipush 600, 3) := by decide +kernel
theorem dX6_isSo_53 : decode cX6_isSo 53 = .ok (.invokestatic 120, 3) := by decide +kernel
theorem dX6_isSo_56 : decode cX6_isSo 56 = .ok (.istore 6, 2) := by decide +kernel
theorem dX6_isSo_58 : decode cX6_isSo 58 = .ok (.aload_n 0, 1) := by decide +kernel
theorem dX6_isSo_59 : decode cX6_isSo 59 = .ok (.iload_n 2, 1) := by decide +kernel
theorem dX6_isSo_60 : decode cX6_isSo 60 = .ok (.iload 6, 2) := by decide +kernel
theorem dX6_isSo_62 : decode cX6_isSo 62 = .ok (.invokevirtual 335, 3) := by decide +kernel
theorem dX6_isSo_65 : decode cX6_isSo 65 = .ok (.i2l, 1) := by decide +kernel
theorem dX6_isSo_66 : decode cX6_isSo 66 = .ok (.ldc2_w 388, 3) := by decide +kernel
theorem dX6_isSo_69 : decode cX6_isSo 69 = .ok (.aload_n 0, 1) := by decide +kernel
theorem dX6_isSo_70 : decode cX6_isSo 70 = .ok (.getfield 79, 3) := by decide +kernel
theorem dX6_isSo_73 : decode cX6_isSo 73 = .ok (.bipush 40, 2) := by decide +kernel
theorem dX6_isSo_75 : decode cX6_isSo 75 = .ok (.iload_n 1, 1) := by decide +kernel
theorem dX6_isSo_76 : decode cX6_isSo 76 = .ok (.imul, 1) := by decide +kernel
theorem dX6_isSo_77 : decode cX6_isSo 77 = .ok (.iload 4, 2) := by decide +kernel
theorem dX6_isSo_79 : decode cX6_isSo 79 = .ok (.iadd, 1) := by decide +kernel
