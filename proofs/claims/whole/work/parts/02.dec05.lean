theorem dX6_isLetter_36 : decode cX6_isLetter 36 = .ok (.ifCond .ne 7, 3) := by decide +kernel
theorem dX6_isLetter_39 : decode cX6_isLetter 39 = .ok (.iconst 1, 1) := by decide +kernel
theorem dX6_isLetter_40 : decode cX6_isLetter 40 = .ok (.goto 4, 3) := by decide +kernel
theorem dX6_isLetter_43 : decode cX6_isLetter 43 = .ok (.iconst 0, 1) := by decide +kernel
theorem dX6_isLetter_44 : decode cX6_isLetter 44 = .ok (.ireturn, 1) := by decide +kernel
theorem dX6_isWord_0 : decode cX6_isWord 0 = .ok (.aload_n 0, 1) := by decide +kernel
theorem dX6_isWord_1 : decode cX6_isWord 1 = .ok (.getfield 160, 3) := by decide +kernel
theorem dX6_isWord_4 : decode cX6_isWord 4 = .ok (.ifCond .ne 108, 3) := by decide +kernel
theorem dX6_isWord_7 : decode cX6_isWord 7 = .ok (.aload_n 0, 1) := by decide +kernel
theorem dX6_isWord_8 : decode cX6_isWord 8 = .ok (.getfield 145, 3) := by decide +kernel
theorem dX6_isWord_11 : decode cX6_isWord 11 = .ok (.iconst 1, 1) := by decide +kernel
theorem dX6_isWord_12 : decode cX6_isWord 12 = .ok (.if_icmp .ne 100, 3) := by decide +kernel
theorem dX6_isWord_15 : decode cX6_isWord 15 = .ok (.aload_n 0, 1) := by decide +kernel
theorem dX6_isWord_16 : decode cX6_isWord 16 = .ok (.getfield 135, 3) := by decide +kernel
theorem dX6_isWord_19 : decode cX6_isWord 19 = .ok (.aload_n 0, 1) := by decide +kernel
theorem dX6_isWord_20 : decode cX6_isWord 20 = .ok (.getfield 142, 3) := by decide +kernel
theorem dX6_isWord_23 : decode cX6_isWord 23 = .ok (.bipush 8, 2) := by decide +kernel
theorem dX6_isWord_25 : decode cX6_isWord 25 = .ok (.iadd, 1) := by decide +kernel
theorem dX6_isWord_26 : decode cX6_isWord 26 = .ok (.if_icmp .gt 86, 3) := by decide +kernel
theorem dX6_isWord_29 : decode cX6_isWord 29 = .ok (.aload_n 0, 1) := by decide +kernel
theorem dX6_isWord_30 : decode cX6_isWord 30 = .ok (.iconst 0, 1) := by decide +kernel
theorem dX6_isWord_31 : decode cX6_isWord 31 = .ok (.iload_n 1, 1) := by decide +kernel
theorem dX6_isWord_32 : decode cX6_isWord 32 = .ok (.invokevirtual 167, 3) := by decide +kernel
theorem dX6_isWord_35 : decode cX6_isWord 35 = .ok (.ifCond .eq 77, 3) := by decide +kernel
theorem dX6_isWord_38 : decode cX6_isWord 38 = .ok (.aload_n 0, 1) := by decide +kernel
theorem dX6_isWord_39 : decode cX6_isWord 39 = .ok (.iconst 1, 1) := by decide +kernel
theorem dX6_isWord_40 : decode cX6_isWord 40 = .ok (.iload_n 2, 1) := by decide +kernel
theorem dX6_isWord_41 : decode cX6_isWord 41 = .ok (.invokevirtual 167, 3) := by decide +kernel
theorem dX6_isWord_44 : decode cX6_isWord 44 = .ok (.ifCond .eq 68, 3) := by decide +kernel
theorem dX6_isWord_47 : decode cX6_isWord 47 = .ok (.aload_n 0, 1) := by decide +kernel
theorem dX6_isWord_48 : decode cX6_isWord 48 = .ok (.iconst 2, 1) := by decide +kernel
theorem dX6_isWord_49 : decode cX6_isWord 49 = .ok (.iload_n 3, 1) := by decide +kernel
theorem dX6_isWord_50 : decode cX6_isWord 50 = .ok (.invokevirtual 167, 3) := by decide +kernel
theorem dX6_isWord_53 : decode cX6_isWord 53 = .ok (.ifCond .eq 59, 3) := by decide +kernel
theorem dX6_isWord_56 : decode cX6_isWord 56 = .ok (.aload_n 0, 1) := by decide +kernel
theorem dX6_isWord_57 : decode cX6_isWord 57 = .ok (.iconst 3, 1) := by decide +kernel
theorem dX6_isWord_58 : decode cX6_isWord 58 = .ok (.iload 4, 2) := by decide +kernel
theorem dX6_isWord_60 : decode cX6_isWord 60 = .ok (.invokevirtual 167, 3) := by decide +kernel
theorem dX6_isWord_63 : decode cX6_isWord 63 = .ok (.ifCond .eq 49, 3) := by decide +kernel
theorem dX6_isWord_66 : decode cX6_isWord 66 = .ok (.aload_n 0, 1) := by decide +kernel
theorem dX6_isWord_67 : decode cX6_isWord 67 = .ok (.iconst 4, 1) := by decide +kernel
theorem dX6_isWord_68 : decode cX6_isWord 68 = .ok (.iload 5, 2) := by decide +kernel
theorem dX6_isWord_70 : decode cX6_isWord 70 = .ok (.invokevirtual 167, 3) := by decide +kernel
theorem dX6_isWord_73 : decode cX6_isWord 73 = .ok (.ifCond .eq 39, 3) := by decide +kernel
theorem dX6_isWord_76 : decode cX6_isWord 76 = .ok (.aload_n 0, 1) := by decide +kernel
theorem dX6_isWord_77 : decode cX6_isWord 77 = .ok (.iconst 5, 1) := by decide +kernel
theorem dX6_isWord_78 : decode cX6_isWord 78 = .ok (.iload 6, 2) := by decide +kernel
theorem dX6_isWord_80 : decode cX6_isWord 80 = .ok (.invokevirtual 167, 3) := by decide +kernel
theorem dX6_isWord_83 : decode cX6_isWord 83 = .ok (.ifCond .eq 29, 3) := by decide +kernel
theorem dX6_isWord_86 : decode cX6_isWord 86 = .ok (.aload_n 0, 1) := by decide +kernel
theorem dX6_isWord_87 : decode cX6_isWord 87 = .ok (.bipush 6, 2) := by decide +kernel
theorem dX6_isWord_89 : decode cX6_isWord 89 = .ok (.iload 7, 2) := by decide +kernel
theorem dX6_isWord_91 : decode cX6_isWord 91 = .ok (.invokevirtual 167, 3) := by decide +kernel
theorem dX6_isWord_94 : decode cX6_isWord 94 = .ok (.ifCond .eq 18, 3) := by decide +kernel
theorem dX6_isWord_97 : decode cX6_isWord 97 = .ok (.aload_n 0, 1) := by decide +kernel
theorem dX6_isWord_98 : decode cX6_isWord 98 = .ok (.bipush 7, 2) := by decide +kernel
theorem dX6_isWord_100 : decode cX6_isWord 100 = .ok (.iload 8, 2) := by decide +kernel
theorem dX6_isWord_102 : decode cX6_isWord 102 = .ok (.invokevirtual 167, 3) := by decide +kernel
theorem dX6_isWord_105 : decode cX6_isWord 105 = .ok (.ifCond .eq 7, 3) := by decide +kernel
theorem dX6_isWord_108 : decode cX6_isWord 108 = .ok (.iconst 1, 1) := by decide +kernel
theorem dX6_isWord_109 : decode cX6_isWord 109 = .ok (.goto 4, 3) := by decide +kernel
theorem dX6_isWord_112 : decode cX6_isWord 112 = .ok (.iconst 0, 1) := by decide +kernel
theorem dX6_isWord_113 : decode cX6_isWord 113 = .ok (.ireturn, 1) := by decide +kernel
theorem dX6_isSign_0 : decode cX6_isSign 0 = .ok (.aload_n 0, 1) := by decide +kernel
theorem dX6_isSign_1 : decode cX6_isSign 1 = .ok (.getfield 160, 3) := by decide +kernel
theorem dX6_isSign_4 : decode cX6_isSign 4 = .ok (.ifCond .ne 25, 3) := by decide +kernel
theorem dX6_isSign_7 : decode cX6_isSign 7 = .ok (.aload_n 0, 1) := by decide +kernel
theorem dX6_isSign_8 : decode cX6_isSign 8 = .ok (.getfield 145, 3) := by decide +kernel
theorem dX6_isSign_11 : decode cX6_isSign 11 = .ok (.iconst 3, 1) := by decide +kernel
theorem dX6_isSign_12 : decode cX6_isSign 12 = .ok (.if_icmp .ne 17, 3) := by decide +kernel
theorem dX6_isSign_15 : decode cX6_isSign 15 = .ok (.aload_n 0, 1) := by decide +kernel
theorem dX6_isSign_16 : decode cX6_isSign 16 = .ok (.getfield 156, 3) := by decide +kernel
theorem dX6_isSign_19 : decode cX6_isSign 19 = .ok (.iload_n 1, 1) := by decide +kernel
theorem dX6_isSign_20 : decode cX6_isSign 20 = .ok (.i2l, 1) := by decide +kernel
theorem dX6_isSign_21 : decode cX6_isSign 21 = .ok (.lcmp, 1) := by decide +kernel
theorem dX6_isSign_22 : decode cX6_isSign 22 = .ok (.ifCond .ne 7, 3) := by decide +kernel
theorem dX6_isSign_25 : decode cX6_isSign 25 = .ok (.iconst 1, 1) := by decide +kernel
theorem dX6_isSign_26 : decode cX6_isSign 26 = .ok (.goto 4, 3) := by decide +kernel
theorem dX6_isSign_29 : decode cX6_isSign 29 = .ok (.iconst 0, 1) := by decide +kernel
theorem dX6_isSign_30 : decode cX6_isSign 30 = .ok (.ireturn, 1) := by decide +kernel
theorem dX6_opens_0 : decode cX6_opens 0 = .ok (.aload_n 0, 1) := by decide +kernel
theorem dX6_opens_1 : decode cX6_opens 1 = .ok (.getfield 171, 3) := by decide +kernel
theorem dX6_opens_4 : decode cX6_opens 4 = .ok (.iconst 5, 1) := by decide +kernel
theorem dX6_opens_5 : decode cX6_opens 5 = .ok (.if_icmp .ne 9, 3) := by decide +kernel
theorem dX6_opens_8 : decode cX6_opens 8 = .ok (.aload_n 0, 1) := by decide +kernel
theorem dX6_opens_9 : decode cX6_opens 9 = .ok (.invokevirtual 174, 3) := by decide +kernel
theorem dX6_opens_12 : decode cX6_opens 12 = .ok (.iconst 0, 1) := by decide +kernel
theorem dX6_opens_13 : decode cX6_opens 13 = .ok (.ireturn, 1) := by decide +kernel
theorem dX6_opens_14 : decode cX6_opens 14 = .ok (.aload_n 0, 1) := by decide +kernel
theorem dX6_opens_15 : decode cX6_opens 15 = .ok (.dup, 1) := by decide +kernel
theorem dX6_opens_16 : decode cX6_opens 16 = .ok (.getfield 171, 3) := by decide +kernel
theorem dX6_opens_19 : decode cX6_opens 19 = .ok (.iconst 1, 1) := by decide +kernel
theorem dX6_opens_20 : decode cX6_opens 20 = .ok (.iadd, 1) := by decide +kernel
theorem dX6_opens_21 : decode cX6_opens 21 = .ok (.putfield 171, 3) := by decide +kernel
theorem dX6_opens_24 : decode cX6_opens 24 = .ok (.aload_n 0, 1) := by decide +kernel
theorem dX6_opens_25 : decode cX6_opens 25 = .ok (.invokevirtual 177, 3) := by decide +kernel
theorem dX6_opens_28 : decode cX6_opens 28 = .ok (.iconst 1, 1) := by decide +kernel
theorem dX6_opens_29 : decode cX6_opens 29 = .ok (.ireturn, 1) := by decide +kernel
theorem dX6_name_0 : decode cX6_name 0 = .ok (.aload_n 0, 1) := by decide +kernel
theorem dX6_name_1 : decode cX6_name 1 = .ok (.bipush 109, 2) := by decide +kernel
theorem dX6_name_3 : decode cX6_name 3 = .ok (.bipush 105, 2) := by decide +kernel
theorem dX6_name_5 : decode cX6_name 5 = .ok (.bipush 110, 2) := by decide +kernel
theorem dX6_name_7 : decode cX6_name 7 = .ok (.bipush 117, 2) := by decide +kernel
theorem dX6_name_9 : decode cX6_name 9 = .ok (.bipush 116, 2) := by decide +kernel
theorem dX6_name_11 : decode cX6_name 11 = .ok (.bipush 101, 2) := by decide +kernel
theorem dX6_name_13 : decode cX6_name 13 = .ok (.iconst 0, 1) := by decide +kernel
theorem dX6_name_14 : decode cX6_name 14 = .ok (.iconst 0, 1) := by decide +kernel
theorem dX6_name_15 : decode cX6_name 15 = .ok (.invokevirtual 180, 3) := by decide +kernel
theorem dX6_name_18 : decode cX6_name 18 = .ok (.ifCond .eq 8, 3) := by decide +kernel
theorem dX6_name_21 : decode cX6_name 21 = .ok (.aload_n 0, 1) := by decide +kernel
theorem dX6_name_22 : decode cX6_name 22 = .ok (.getfield 184, 3) := by decide +kernel
theorem dX6_name_25 : decode cX6_name 25 = .ok (.ireturn, 1) := by decide +kernel
theorem dX6_name_26 : decode cX6_name 26 = .ok (.aload_n 0, 1) := by decide +kernel
theorem dX6_name_27 : decode cX6_name 27 = .ok (.bipush 112, 2) := by decide +kernel
theorem dX6_name_29 : decode cX6_name 29 = .ok (.bipush 108, 2) := by decide +kernel
theorem dX6_name_31 : decode cX6_name 31 = .ok (.bipush 97, 2) := by decide +kernel
theorem dX6_name_33 : decode cX6_name 33 = .ok (.bipush 99, 2) := by decide +kernel
theorem dX6_name_35 : decode cX6_name 35 = .ok (.bipush 101, 2) := by decide +kernel
theorem dX6_name_37 : decode cX6_name 37 = .ok (.iconst 0, 1) := by decide +kernel
theorem dX6_name_38 : decode cX6_name 38 = .ok (.iconst 0, 1) := by decide +kernel
theorem dX6_name_39 : decode cX6_name 39 = .ok (.iconst 0, 1) := by decide +kernel
theorem dX6_name_40 : decode cX6_name 40 = .ok (.invokevirtual 180, 3) := by decide +kernel
theorem dX6_name_43 : decode cX6_name 43 = .ok (.ifCond .eq 8, 3) := by decide +kernel
theorem dX6_name_46 : decode cX6_name 46 = .ok (.aload_n 0, 1) := by decide +kernel
theorem dX6_name_47 : decode cX6_name 47 = .ok (.getfield 187, 3) := by decide +kernel
theorem dX6_name_50 : decode cX6_name 50 = .ok (.ireturn, 1) := by decide +kernel
theorem dX6_name_51 : decode cX6_name 51 = .ok (.aload_n 0, 1) := by decide +kernel
theorem dX6_name_52 : decode cX6_name 52 = .ok (.bipush 119, 2) := by decide +kernel
theorem dX6_name_54 : decode cX6_name 54 = .ok (.bipush 97, 2) := by decide +kernel
theorem dX6_name_56 : decode cX6_name 56 = .ok (.bipush 121, 2) := by decide +kernel
theorem dX6_name_58 : decode cX6_name 58 = .ok (.iconst 0, 1) := by decide +kernel
theorem dX6_name_59 : decode cX6_name 59 = .ok (.iconst 0, 1) := by decide +kernel
theorem dX6_name_60 : decode cX6_name 60 = .ok (.iconst 0, 1) := by decide +kernel
theorem dX6_name_61 : decode cX6_name 61 = .ok (.iconst 0, 1) := by decide +kernel
theorem dX6_name_62 : decode cX6_name 62 = .ok (.iconst 0, 1) := by decide +kernel
theorem dX6_name_63 : decode cX6_name 63 = .ok (.invokevirtual 180, 3) := by decide +kernel
theorem dX6_name_66 : decode cX6_name 66 = .ok (.ifCond .eq 8, 3) := by decide +kernel
theorem dX6_name_69 : decode cX6_name 69 = .ok (.aload_n 0, 1) := by decide +kernel
theorem dX6_name_70 : decode cX6_name 70 = .ok (.getfield 190, 3) := by decide +kernel
theorem dX6_name_73 : decode cX6_name 73 = .ok (.ireturn, 1) := by decide +kernel
theorem dX6_name_74 : decode cX6_name 74 = .ok (.aload_n 0, 1) := by decide +kernel
theorem dX6_name_75 : decode cX6_name 75 = .ok (.bipush 112, 2) := by decide +kernel
theorem dX6_name_77 : decode cX6_name 77 = .ok (.bipush 97, 2) := by decide +kernel
theorem dX6_name_79 : decode cX6_name 79 = .ok (.bipush 99, 2) := by decide +kernel
theorem dX6_name_81 : decode cX6_name 81 = .ok (.bipush 101, 2) := by decide +kernel
theorem dX6_name_83 : decode cX6_name 83 = .ok (.iconst 0, 1) := by decide +kernel
theorem dX6_name_84 : decode cX6_name 84 = .ok (.iconst 0, 1) := by decide +kernel
theorem dX6_name_85 : decode cX6_name 85 = .ok (.iconst 0, 1) := by decide +kernel
theorem dX6_name_86 : decode cX6_name 86 = .ok (.iconst 0, 1) := by decide +kernel
theorem dX6_name_87 : decode cX6_name 87 = .ok (.invokevirtual 180, 3) := by decide +kernel
theorem dX6_name_90 : decode cX6_name 90 = .ok (.ifCond .eq 8, 3) := by decide +kernel
theorem dX6_name_93 : decode cX6_name 93 = .ok (.aload_n 0, 1) := by decide +kernel
theorem dX6_name_94 : decode cX6_name 94 = .ok (.getfield 193, 3) := by decide +kernel
theorem dX6_name_97 : decode cX6_name 97 = .ok (.ireturn, 1) := by decide +kernel
theorem dX6_name_98 : decode cX6_name 98 = .ok (.aload_n 0, 1) := by decide +kernel
theorem dX6_name_99 : decode cX6_name 99 = .ok (.bipush 102, 2) := by decide +kernel
theorem dX6_name_101 : decode cX6_name 101 = .ok (.bipush 97, 2) := by decide +kernel
theorem dX6_name_103 : decode cX6_name 103 = .ok (.bipush 114, 2) := by decide +kernel
theorem dX6_name_105 : decode cX6_name 105 = .ok (.iconst 0, 1) := by decide +kernel
theorem dX6_name_106 : decode cX6_name 106 = .ok (.iconst 0, 1) := by decide +kernel
theorem dX6_name_107 : decode cX6_name 107 = .ok (.iconst 0, 1) := by decide +kernel
theorem dX6_name_108 : decode cX6_name 108 = .ok (.iconst 0, 1) := by decide +kernel
theorem dX6_name_109 : decode cX6_name 109 = .ok (.iconst 0, 1) := by decide +kernel
theorem dX6_name_110 : decode cX6_name 110 = .ok (.invokevirtual 180, 3) := by decide +kernel
theorem dX6_name_113 : decode cX6_name 113 = .ok (.ifCond .eq 8, 3) := by decide +kernel
theorem dX6_name_116 : decode cX6_name 116 = .ok (.aload_n 0, 1) := by decide +kernel
theorem dX6_name_117 : decode cX6_name 117 = .ok (.getfield 196, 3) := by decide +kernel
theorem dX6_name_120 : decode cX6_name 120 = .ok (.ireturn, 1) := by decide +kernel
theorem dX6_name_121 : decode cX6_name 121 = .ok (.aload_n 0, 1) := by decide +kernel
theorem dX6_name_122 : decode cX6_name 122 = .ok (.bipush 112, 2) := by decide +kernel
theorem dX6_name_124 : decode cX6_name 124 = .ok (.bipush 111, 2) := by decide +kernel
theorem dX6_name_126 : decode cX6_name 126 = .ok (.bipush 105, 2) := by decide +kernel
theorem dX6_name_128 : decode cX6_name 128 = .ok (.bipush 110, 2) := by decide +kernel
theorem dX6_name_130 : decode cX6_name 130 = .ok (.bipush 116, 2) := by decide +kernel
theorem dX6_name_132 : decode cX6_name 132 = .ok (.bipush 115, 2) := by decide +kernel
theorem dX6_name_134 : decode cX6_name 134 = .ok (.iconst 0, 1) := by decide +kernel
theorem dX6_name_135 : decode cX6_name 135 = .ok (.iconst 0, 1) := by decide +kernel
theorem dX6_name_136 : decode cX6_name 136 = .ok (.invokevirtual 180, 3) := by decide +kernel
theorem dX6_name_139 : decode cX6_name 139 = .ok (.ifCond .eq 8, 3) := by decide +kernel
theorem dX6_name_142 : decode cX6_name 142 = .ok (.aload_n 0, 1) := by decide +kernel
theorem dX6_name_143 : decode cX6_name 143 = .ok (.getfield 199, 3) := by decide +kernel
theorem dX6_name_146 : decode cX6_name 146 = .ok (.ireturn, 1) := by decide +kernel
theorem dX6_name_147 : decode cX6_name 147 = .ok (.aload_n 0, 1) := by decide +kernel
theorem dX6_name_148 : decode cX6_name 148 = .ok (.invokevirtual 174, 3) := by decide +kernel
theorem dX6_name_151 : decode cX6_name 151 = .ok (.iconst 0, 1) := by decide +kernel
theorem dX6_name_152 : decode cX6_name 152 = .ok (.ireturn, 1) := by decide +kernel
theorem dX6_atom5_0 : decode cX6_atom5 0 = .ok (.iconst 0, 1) := by decide +kernel
theorem dX6_atom5_1 : decode cX6_atom5 1 = .ok (.istore_n 1, 1) := by decide +kernel
theorem dX6_atom5_2 : decode cX6_atom5 2 = .ok (.aload_n 0, 1) := by decide +kernel
theorem dX6_atom5_3 : decode cX6_atom5 3 = .ok (.bipush 45, 2) := by decide +kernel
theorem dX6_atom5_5 : decode cX6_atom5 5 = .ok (.invokevirtual 202, 3) := by decide +kernel
theorem dX6_atom5_8 : decode cX6_atom5 8 = .ok (.ifCond .eq 11, 3) := by decide +kernel
theorem dX6_atom5_11 : decode cX6_atom5 11 = .ok (.aload_n 0, 1) := by decide +kernel
theorem dX6_atom5_12 : decode cX6_atom5 12 = .ok (.invokevirtual 205, 3) := by decide +kernel
theorem dX6_atom5_15 : decode cX6_atom5 15 = .ok (.pop, 1) := by decide +kernel
theorem dX6_atom5_16 : decode cX6_atom5 16 = .ok (.goto 86, 3) := by decide +kernel
theorem dX6_atom5_19 : decode cX6_atom5 19 = .ok (.aload_n 0, 1) := by decide +kernel
theorem dX6_atom5_20 : decode cX6_atom5 20 = .ok (.bipush 40, 2) := by decide +kernel
theorem dX6_atom5_22 : decode cX6_atom5 22 = .ok (.invokevirtual 202, 3) := by decide +kernel
theorem dX6_atom5_25 : decode cX6_atom5 25 = .ok (.ifCond .eq 11, 3) := by decide +kernel
theorem dX6_atom5_28 : decode cX6_atom5 28 = .ok (.aload_n 0, 1) := by decide +kernel
theorem dX6_atom5_29 : decode cX6_atom5 29 = .ok (.invokevirtual 205, 3) := by decide +kernel
theorem dX6_atom5_32 : decode cX6_atom5 32 = .ok (.pop, 1) := by decide +kernel
theorem dX6_atom5_33 : decode cX6_atom5 33 = .ok (.goto 69, 3) := by decide +kernel
theorem dX6_atom5_36 : decode cX6_atom5 36 = .ok (.aload_n 0, 1) := by decide +kernel
theorem dX6_atom5_37 : decode cX6_atom5 37 = .ok (.getfield 160, 3) := by decide +kernel
theorem dX6_atom5_40 : decode cX6_atom5 40 = .ok (.ifCond .ne 24, 3) := by decide +kernel
theorem dX6_atom5_43 : decode cX6_atom5 43 = .ok (.aload_n 0, 1) := by decide +kernel
theorem dX6_atom5_44 : decode cX6_atom5 44 = .ok (.getfield 145, 3) := by decide +kernel
theorem dX6_atom5_47 : decode cX6_atom5 47 = .ok (.iconst 2, 1) := by decide +kernel
theorem dX6_atom5_48 : decode cX6_atom5 48 = .ok (.if_icmp .ne 16, 3) := by decide +kernel
theorem dX6_atom5_51 : decode cX6_atom5 51 = .ok (.aload_n 0, 1) := by decide +kernel
theorem dX6_atom5_52 : decode cX6_atom5 52 = .ok (.getfield 156, 3) := by decide +kernel
theorem dX6_atom5_55 : decode cX6_atom5 55 = .ok (.l2i, 1) := by decide +kernel
theorem dX6_atom5_56 : decode cX6_atom5 56 = .ok (.istore_n 1, 1) := by decide +kernel
theorem dX6_atom5_57 : decode cX6_atom5 57 = .ok (.aload_n 0, 1) := by decide +kernel
theorem dX6_atom5_58 : decode cX6_atom5 58 = .ok (.invokevirtual 177, 3) := by decide +kernel
theorem dX6_atom5_61 : decode cX6_atom5 61 = .ok (.goto 41, 3) := by decide +kernel
theorem dX6_atom5_64 : decode cX6_atom5 64 = .ok (.aload_n 0, 1) := by decide +kernel
theorem dX6_atom5_65 : decode cX6_atom5 65 = .ok (.getfield 160, 3) := by decide +kernel
theorem dX6_atom5_68 : decode cX6_atom5 68 = .ok (.ifCond .ne 30, 3) := by decide +kernel
theorem dX6_atom5_71 : decode cX6_atom5 71 = .ok (.aload_n 0, 1) := by decide +kernel
theorem dX6_atom5_72 : decode cX6_atom5 72 = .ok (.getfield 145, 3) := by decide +kernel
theorem dX6_atom5_75 : decode cX6_atom5 75 = .ok (.iconst 1, 1) := by decide +kernel
theorem dX6_atom5_76 : decode cX6_atom5 76 = .ok (.if_icmp .ne 22, 3) := by decide +kernel
theorem dX6_atom5_79 : decode cX6_atom5 79 = .ok (.aload_n 0, 1) := by decide +kernel
theorem dX6_atom5_80 : decode cX6_atom5 80 = .ok (.invokevirtual 209, 3) := by decide +kernel
theorem dX6_atom5_83 : decode cX6_atom5 83 = .ok (.istore_n 1, 1) := by decide +kernel
theorem dX6_atom5_84 : decode cX6_atom5 84 = .ok (.aload_n 0, 1) := by decide +kernel
theorem dX6_atom5_85 : decode cX6_atom5 85 = .ok (.getfield 160, 3) := by decide +kernel
theorem dX6_atom5_88 : decode cX6_atom5 88 = .ok (.ifCond .ne 14, 3) := by decide +kernel
theorem dX6_atom5_91 : decode cX6_atom5 91 = .ok (.aload_n 0, 1) := by decide +kernel
theorem dX6_atom5_92 : decode cX6_atom5 92 = .ok (.invokevirtual 177, 3) := by decide +kernel
theorem dX6_atom5_95 : decode cX6_atom5 95 = .ok (.goto 7, 3) := by decide +kernel
theorem dX6_atom5_98 : decode cX6_atom5 98 = .ok (.aload_n 0, 1) := by decide +kernel
theorem dX6_atom5_99 : decode cX6_atom5 99 = .ok (.invokevirtual 174, 3) := by decide +kernel
theorem dX6_atom5_102 : decode cX6_atom5 102 = .ok (.iload_n 1, 1) := by decide +kernel
theorem dX6_atom5_103 : decode cX6_atom5 103 = .ok (.ireturn, 1) := by decide +kernel
theorem dX6_term5_0 : decode cX6_term5 0 = .ok (.aload_n 0, 1) := by decide +kernel
theorem dX6_term5_1 : decode cX6_term5 1 = .ok (.invokevirtual 213, 3) := by decide +kernel
theorem dX6_term5_4 : decode cX6_term5 4 = .ok (.istore_n 1, 1) := by decide +kernel
theorem dX6_term5_5 : decode cX6_term5 5 = .ok (.aload_n 0, 1) := by decide +kernel
theorem dX6_term5_6 : decode cX6_term5 6 = .ok (.bipush 42, 2) := by decide +kernel
theorem dX6_term5_8 : decode cX6_term5 8 = .ok (.invokevirtual 202, 3) := by decide +kernel
theorem dX6_term5_11 : decode cX6_term5 11 = .ok (.ifCond .eq 17, 3) := by decide +kernel
theorem dX6_term5_14 : decode cX6_term5 14 = .ok (.aload_n 0, 1) := by decide +kernel
theorem dX6_term5_15 : decode cX6_term5 15 = .ok (.invokevirtual 177, 3) := by decide +kernel
theorem dX6_term5_18 : decode cX6_term5 18 = .ok (.iload_n 1, 1) := by decide +kernel
theorem dX6_term5_19 : decode cX6_term5 19 = .ok (.aload_n 0, 1) := by decide +kernel
theorem dX6_term5_20 : decode cX6_term5 20 = .ok (.invokevirtual 213, 3) := by decide +kernel
theorem dX6_term5_23 : decode cX6_term5 23 = .ok (.imul, 1) := by decide +kernel
theorem dX6_term5_24 : decode cX6_term5 24 = .ok (.istore_n 1, 1) := by decide +kernel
theorem dX6_term5_25 : decode cX6_term5 25 = .ok (.goto (-20), 3) := by decide +kernel
theorem dX6_term5_28 : decode cX6_term5 28 = .ok (.iload_n 1, 1) := by decide +kernel
theorem dX6_term5_29 : decode cX6_term5 29 = .ok (.ireturn, 1) := by decide +kernel
theorem dX6_added5_0 : decode cX6_added5 0 = .ok (.aload_n 0, 1) := by decide +kernel
theorem dX6_added5_1 : decode cX6_added5 1 = .ok (.invokevirtual 216, 3) := by decide +kernel
theorem dX6_added5_4 : decode cX6_added5 4 = .ok (.istore_n 1, 1) := by decide +kernel
theorem dX6_added5_5 : decode cX6_added5 5 = .ok (.aload_n 0, 1) := by decide +kernel
theorem dX6_added5_6 : decode cX6_added5 6 = .ok (.bipush 43, 2) := by decide +kernel
theorem dX6_added5_8 : decode cX6_added5 8 = .ok (.invokevirtual 202, 3) := by decide +kernel
theorem dX6_added5_11 : decode cX6_added5 11 = .ok (.ifCond .ne 12, 3) := by decide +kernel
theorem dX6_added5_14 : decode cX6_added5 14 = .ok (.aload_n 0, 1) := by decide +kernel
theorem dX6_added5_15 : decode cX6_added5 15 = .ok (.bipush 45, 2) := by decide +kernel
theorem dX6_added5_17 : decode cX6_added5 17 = .ok (.invokevirtual 202, 3) := by decide +kernel
theorem dX6_added5_20 : decode cX6_added5 20 = .ok (.ifCond .eq 46, 3) := by decide +kernel
theorem dX6_added5_23 : decode cX6_added5 23 = .ok (.aload_n 0, 1) := by decide +kernel
theorem dX6_added5_24 : decode cX6_added5 24 = .ok (.getfield 156, 3) := by decide +kernel
theorem dX6_added5_27 : decode cX6_added5 27 = .ok (.ldc2_w 219, 3) := by decide +kernel
theorem dX6_added5_30 : decode cX6_added5 30 = .ok (.lcmp, 1) := by decide +kernel
theorem dX6_added5_31 : decode cX6_added5 31 = .ok (.ifCond .ne 7, 3) := by decide +kernel
theorem dX6_added5_34 : decode cX6_added5 34 = .ok (.iconst 1, 1) := by decide +kernel
theorem dX6_added5_35 : decode cX6_added5 35 = .ok (.goto 4, 3) := by decide +kernel
theorem dX6_added5_38 : decode cX6_added5 38 = .ok (.iconst 0, 1) := by decide +kernel
theorem dX6_added5_39 : decode cX6_added5 39 = .ok (.istore_n 2, 1) := by decide +kernel
theorem dX6_added5_40 : decode cX6_added5 40 = .ok (.aload_n 0, 1) := by decide +kernel
theorem dX6_added5_41 : decode cX6_added5 41 = .ok (.invokevirtual 177, 3) := by decide +kernel
theorem dX6_added5_44 : decode cX6_added5 44 = .ok (.aload_n 0, 1) := by decide +kernel
theorem dX6_added5_45 : decode cX6_added5 45 = .ok (.invokevirtual 216, 3) := by decide +kernel
theorem dX6_added5_48 : decode cX6_added5 48 = .ok (.istore_n 3, 1) := by decide +kernel
theorem dX6_added5_49 : decode cX6_added5 49 = .ok (.iload_n 2, 1) := by decide +kernel
theorem dX6_added5_50 : decode cX6_added5 50 = .ok (.ifCond .eq 9, 3) := by decide +kernel
theorem dX6_added5_53 : decode cX6_added5 53 = .ok (.iload_n 1, 1) := by decide +kernel
theorem dX6_added5_54 : decode cX6_added5 54 = .ok (.iload_n 3, 1) := by decide +kernel
theorem dX6_added5_55 : decode cX6_added5 55 = .ok (.iadd, 1) := by decide +kernel
theorem dX6_added5_56 : decode cX6_added5 56 = .ok (.goto 6, 3) := by decide +kernel
theorem dX6_added5_59 : decode cX6_added5 59 = .ok (.iload_n 1, 1) := by decide +kernel
theorem dX6_added5_60 : decode cX6_added5 60 = .ok (.iload_n 3, 1) := by decide +kernel
theorem dX6_added5_61 : decode cX6_added5 61 = .ok (.isub, 1) := by decide +kernel
theorem dX6_added5_62 : decode cX6_added5 62 = .ok (.istore_n 1, 1) := by decide +kernel
theorem dX6_added5_63 : decode cX6_added5 63 = .ok (.goto (-58), 3) := by decide +kernel
theorem dX6_added5_66 : decode cX6_added5 66 = .ok (.iload_n 1, 1) := by decide +kernel
theorem dX6_added5_67 : decode cX6_added5 67 = .ok (.ireturn, 1) := by decide +kernel
theorem dX6_not5_0 : decode cX6_not5 0 = .ok (.aload_n 0, 1) := by decide +kernel
theorem dX6_not5_1 : decode cX6_not5 1 = .ok (.bipush 110, 2) := by decide +kernel
theorem dX6_not5_3 : decode cX6_not5 3 = .ok (.bipush 111, 2) := by decide +kernel
theorem dX6_not5_5 : decode cX6_not5 5 = .ok (.bipush 116, 2) := by decide +kernel
theorem dX6_not5_7 : decode cX6_not5 7 = .ok (.iconst 0, 1) := by decide +kernel
theorem dX6_not5_8 : decode cX6_not5 8 = .ok (.iconst 0, 1) := by decide +kernel
theorem dX6_not5_9 : decode cX6_not5 9 = .ok (.iconst 0, 1) := by decide +kernel
theorem dX6_not5_10 : decode cX6_not5 10 = .ok (.iconst 0, 1) := by decide +kernel
theorem dX6_not5_11 : decode cX6_not5 11 = .ok (.iconst 0, 1) := by decide +kernel
theorem dX6_not5_12 : decode cX6_not5 12 = .ok (.invokevirtual 180, 3) := by decide +kernel
theorem dX6_not5_15 : decode cX6_not5 15 = .ok (.ifCond .eq 10, 3) := by decide +kernel
theorem dX6_not5_18 : decode cX6_not5 18 = .ok (.aload_n 0, 1) := by decide +kernel
theorem dX6_not5_19 : decode cX6_not5 19 = .ok (.invokevirtual 205, 3) := by decide +kernel
theorem dX6_not5_22 : decode cX6_not5 22 = .ok (.pop, 1) := by decide +kernel
theorem dX6_not5_23 : decode cX6_not5 23 = .ok (.iconst 0, 1) := by decide +kernel
theorem dX6_not5_24 : decode cX6_not5 24 = .ok (.ireturn, 1) := by decide +kernel
theorem dX6_not5_25 : decode cX6_not5 25 = .ok (.aload_n 0, 1) := by decide +kernel
theorem dX6_not5_26 : decode cX6_not5 26 = .ok (.invokevirtual 221, 3) := by decide +kernel
theorem dX6_not5_29 : decode cX6_not5 29 = .ok (.istore_n 1, 1) := by decide +kernel
theorem dX6_not5_30 : decode cX6_not5 30 = .ok (.aload_n 0, 1) := by decide +kernel
theorem dX6_not5_31 : decode cX6_not5 31 = .ok (.bipush 60, 2) := by decide +kernel
theorem dX6_not5_33 : decode cX6_not5 33 = .ok (.invokevirtual 202, 3) := by decide +kernel
theorem dX6_not5_36 : decode cX6_not5 36 = .ok (.ifCond .ne 14, 3) := by decide +kernel
theorem dX6_not5_39 : decode cX6_not5 39 = .ok (.aload_n 0, 1) := by decide +kernel
theorem dX6_not5_40 : decode cX6_not5 40 = .ok (.bipush 61, 2) := by decide +kernel
theorem dX6_not5_42 : decode cX6_not5 42 = .ok (.invokevirtual 202, 3) := by decide +kernel
theorem dX6_not5_45 : decode cX6_not5 45 = .ok (.ifCond .ne 5, 3) := by decide +kernel
theorem dX6_not5_48 : decode cX6_not5 48 = .ok (.iload_n 1, 1) := by decide +kernel
theorem dX6_not5_49 : decode cX6_not5 49 = .ok (.ireturn, 1) := by decide +kernel
theorem dX6_not5_50 : decode cX6_not5 50 = .ok (.aload_n 0, 1) := by decide +kernel
theorem dX6_not5_51 : decode cX6_not5 51 = .ok (.getfield 156, 3) := by decide +kernel
theorem dX6_not5_54 : decode cX6_not5 54 = .ok (.ldc2_w 224, 3) := by decide +kernel
theorem dX6_not5_57 : decode cX6_not5 57 = .ok (.lcmp, 1) := by decide +kernel
theorem dX6_not5_58 : decode cX6_not5 58 = .ok (.ifCond .ne 7, 3) := by decide +kernel
theorem dX6_not5_61 : decode cX6_not5 61 = .ok (.iconst 1, 1) := by decide +kernel
theorem dX6_not5_62 : decode cX6_not5 62 = .ok (.goto 4, 3) := by decide +kernel
theorem dX6_not5_65 : decode cX6_not5 65 = .ok (.iconst 0, 1) := by decide +kernel
theorem dX6_not5_66 : decode cX6_not5 66 = .ok (.istore_n 2, 1) := by decide +kernel
theorem dX6_not5_67 : decode cX6_not5 67 = .ok (.aload_n 0, 1) := by decide +kernel
theorem dX6_not5_68 : decode cX6_not5 68 = .ok (.invokevirtual 177, 3) := by decide +kernel
theorem dX6_not5_71 : decode cX6_not5 71 = .ok (.aload_n 0, 1) := by decide +kernel
theorem dX6_not5_72 : decode cX6_not5 72 = .ok (.invokevirtual 221, 3) := by decide +kernel
theorem dX6_not5_75 : decode cX6_not5 75 = .ok (.istore_n 3, 1) := by decide +kernel
theorem dX6_not5_76 : decode cX6_not5 76 = .ok (.iload_n 2, 1) := by decide +kernel
theorem dX6_not5_77 : decode cX6_not5 77 = .ok (.ifCond .eq 11, 3) := by decide +kernel
theorem dX6_not5_80 : decode cX6_not5 80 = .ok (.iload_n 1, 1) := by decide +kernel
theorem dX6_not5_81 : decode cX6_not5 81 = .ok (.iload_n 3, 1) := by decide +kernel
theorem dX6_not5_82 : decode cX6_not5 82 = .ok (.if_icmp .ge 15, 3) := by decide +kernel
theorem dX6_not5_85 : decode cX6_not5 85 = .ok (.goto 8, 3) := by decide +kernel
theorem dX6_not5_88 : decode cX6_not5 88 = .ok (.iload_n 1, 1) := by decide +kernel
theorem dX6_not5_89 : decode cX6_not5 89 = .ok (.iload_n 3, 1) := by decide +kernel
theorem dX6_not5_90 : decode cX6_not5 90 = .ok (.if_icmp .ne 7, 3) := by decide +kernel
theorem dX6_not5_93 : decode cX6_not5 93 = .ok (.iconst 1, 1) := by decide +kernel
theorem dX6_not5_94 : decode cX6_not5 94 = .ok (.goto 4, 3) := by decide +kernel
theorem dX6_not5_97 : decode cX6_not5 97 = .ok (.iconst 0, 1) := by decide +kernel
theorem dX6_not5_98 : decode cX6_not5 98 = .ok (.ireturn, 1) := by decide +kernel
theorem dX6_both5_0 : decode cX6_both5 0 = .ok (.aload_n 0, 1) := by decide +kernel
theorem dX6_both5_1 : decode cX6_both5 1 = .ok (.invokevirtual 226, 3) := by decide +kernel
theorem dX6_both5_4 : decode cX6_both5 4 = .ok (.istore_n 1, 1) := by decide +kernel
theorem dX6_both5_5 : decode cX6_both5 5 = .ok (.aload_n 0, 1) := by decide +kernel
theorem dX6_both5_6 : decode cX6_both5 6 = .ok (.bipush 97, 2) := by decide +kernel
theorem dX6_both5_8 : decode cX6_both5 8 = .ok (.bipush 110, 2) := by decide +kernel
theorem dX6_both5_10 : decode cX6_both5 10 = .ok (.bipush 100, 2) := by decide +kernel
theorem dX6_both5_12 : decode cX6_both5 12 = .ok (.iconst 0, 1) := by decide +kernel
theorem dX6_both5_13 : decode cX6_both5 13 = .ok (.iconst 0, 1) := by decide +kernel
theorem dX6_both5_14 : decode cX6_both5 14 = .ok (.iconst 0, 1) := by decide +kernel
theorem dX6_both5_15 : decode cX6_both5 15 = .ok (.iconst 0, 1) := by decide +kernel
theorem dX6_both5_16 : decode cX6_both5 16 = .ok (.iconst 0, 1) := by decide +kernel
theorem dX6_both5_17 : decode cX6_both5 17 = .ok (.invokevirtual 180, 3) := by decide +kernel
theorem dX6_both5_20 : decode cX6_both5 20 = .ok (.ifCond .eq 29, 3) := by decide +kernel
theorem dX6_both5_23 : decode cX6_both5 23 = .ok (.aload_n 0, 1) := by decide +kernel
theorem dX6_both5_24 : decode cX6_both5 24 = .ok (.invokevirtual 177, 3) := by decide +kernel
theorem dX6_both5_27 : decode cX6_both5 27 = .ok (.aload_n 0, 1) := by decide +kernel
theorem dX6_both5_28 : decode cX6_both5 28 = .ok (.invokevirtual 226, 3) := by decide +kernel
theorem dX6_both5_31 : decode cX6_both5 31 = .ok (.istore_n 2, 1) := by decide +kernel
theorem dX6_both5_32 : decode cX6_both5 32 = .ok (.iload_n 1, 1) := by decide +kernel
theorem dX6_both5_33 : decode cX6_both5 33 = .ok (.ifCond .eq 11, 3) := by decide +kernel
theorem dX6_both5_36 : decode cX6_both5 36 = .ok (.iload_n 2, 1) := by decide +kernel
theorem dX6_both5_37 : decode cX6_both5 37 = .ok (.ifCond .eq 7, 3) := by decide +kernel
theorem dX6_both5_40 : decode cX6_both5 40 = .ok (.iconst 1, 1) := by decide +kernel
theorem dX6_both5_41 : decode cX6_both5 41 = .ok (.goto 4, 3) := by decide +kernel
theorem dX6_both5_44 : decode cX6_both5 44 = .ok (.iconst 0, 1) := by decide +kernel
theorem dX6_both5_45 : decode cX6_both5 45 = .ok (.istore_n 1, 1) := by decide +kernel
theorem dX6_both5_46 : decode cX6_both5 46 = .ok (.goto (-41), 3) := by decide +kernel
theorem dX6_both5_49 : decode cX6_both5 49 = .ok (.iload_n 1, 1) := by decide +kernel
theorem dX6_both5_50 : decode cX6_both5 50 = .ok (.ireturn, 1) := by decide +kernel
theorem dX6_either5_0 : decode cX6_either5 0 = .ok (.aload_n 0, 1) := by decide +kernel
theorem dX6_either5_1 : decode cX6_either5 1 = .ok (.invokevirtual 229, 3) := by decide +kernel
theorem dX6_either5_4 : decode cX6_either5 4 = .ok (.istore_n 1, 1) := by decide +kernel
theorem dX6_either5_5 : decode cX6_either5 5 = .ok (.aload_n 0, 1) := by decide +kernel
theorem dX6_either5_6 : decode cX6_either5 6 = .ok (.bipush 111, 2) := by decide +kernel
theorem dX6_either5_8 : decode cX6_either5 8 = .ok (.bipush 114, 2) := by decide +kernel
theorem dX6_either5_10 : decode cX6_either5 10 = .ok (.iconst 0, 1) := by decide +kernel
theorem dX6_either5_11 : decode cX6_either5 11 = .ok (.iconst 0, 1) := by decide +kernel
theorem dX6_either5_12 : decode cX6_either5 12 = .ok (.iconst 0, 1) := by decide +kernel
theorem dX6_either5_13 : decode cX6_either5 13 = .ok (.iconst 0, 1) := by decide +kernel
theorem dX6_either5_14 : decode cX6_either5 14 = .ok (.iconst 0, 1) := by decide +kernel
theorem dX6_either5_15 : decode cX6_either5 15 = .ok (.iconst 0, 1) := by decide +kernel
theorem dX6_either5_16 : decode cX6_either5 16 = .ok (.invokevirtual 180, 3) := by decide +kernel
theorem dX6_either5_19 : decode cX6_either5 19 = .ok (.ifCond .eq 29, 3) := by decide +kernel
theorem dX6_either5_22 : decode cX6_either5 22 = .ok (.aload_n 0, 1) := by decide +kernel
theorem dX6_either5_23 : decode cX6_either5 23 = .ok (.invokevirtual 177, 3) := by decide +kernel
theorem dX6_either5_26 : decode cX6_either5 26 = .ok (.aload_n 0, 1) := by decide +kernel
theorem dX6_either5_27 : decode cX6_either5 27 = .ok (.invokevirtual 229, 3) := by decide +kernel
theorem dX6_either5_30 : decode cX6_either5 30 = .ok (.istore_n 2, 1) := by decide +kernel
theorem dX6_either5_31 : decode cX6_either5 31 = .ok (.iload_n 1, 1) := by decide +kernel
theorem dX6_either5_32 : decode cX6_either5 32 = .ok (.ifCond .ne 7, 3) := by decide +kernel
theorem dX6_either5_35 : decode cX6_either5 35 = .ok (.iload_n 2, 1) := by decide +kernel
theorem dX6_either5_36 : decode cX6_either5 36 = .ok (.ifCond .eq 7, 3) := by decide +kernel
theorem dX6_either5_39 : decode cX6_either5 39 = .ok (.iconst 1, 1) := by decide +kernel
theorem dX6_either5_40 : decode cX6_either5 40 = .ok (.goto 4, 3) := by decide +kernel
theorem dX6_either5_43 : decode cX6_either5 43 = .ok (.iconst 0, 1) := by decide +kernel
theorem dX6_either5_44 : decode cX6_either5 44 = .ok (.istore_n 1, 1) := by decide +kernel
theorem dX6_either5_45 : decode cX6_either5 45 = .ok (.goto (-40), 3) := by decide +kernel
theorem dX6_either5_48 : decode cX6_either5 48 = .ok (.iload_n 1, 1) := by decide +kernel
theorem dX6_either5_49 : decode cX6_either5 49 = .ok (.ireturn, 1) := by decide +kernel
theorem dX6_atom4_0 : decode cX6_atom4 0 = .ok (.iconst 0, 1) := by decide +kernel
theorem dX6_atom4_1 : decode cX6_atom4 1 = .ok (.istore_n 1, 1) := by decide +kernel
theorem dX6_atom4_2 : decode cX6_atom4 2 = .ok (.aload_n 0, 1) := by decide +kernel
theorem dX6_atom4_3 : decode cX6_atom4 3 = .ok (.bipush 45, 2) := by decide +kernel
theorem dX6_atom4_5 : decode cX6_atom4 5 = .ok (.invokevirtual 202, 3) := by decide +kernel
theorem dX6_atom4_8 : decode cX6_atom4 8 = .ok (.ifCond .eq 29, 3) := by decide +kernel
theorem dX6_atom4_11 : decode cX6_atom4 11 = .ok (.aload_n 0, 1) := by decide +kernel
theorem dX6_atom4_12 : decode cX6_atom4 12 = .ok (.invokevirtual 205, 3) := by decide +kernel
theorem dX6_atom4_15 : decode cX6_atom4 15 = .ok (.ifCond .eq 146, 3) := by decide +kernel
theorem dX6_atom4_18 : decode cX6_atom4 18 = .ok (.aload_n 0, 1) := by decide +kernel
theorem dX6_atom4_19 : decode cX6_atom4 19 = .ok (.invokevirtual 213, 3) := by decide +kernel
theorem dX6_atom4_22 : decode cX6_atom4 22 = .ok (.ineg, 1) := by decide +kernel
theorem dX6_atom4_23 : decode cX6_atom4 23 = .ok (.istore_n 1, 1) := by decide +kernel
theorem dX6_atom4_24 : decode cX6_atom4 24 = .ok (.aload_n 0, 1) := by decide +kernel
theorem dX6_atom4_25 : decode cX6_atom4 25 = .ok (.dup, 1) := by decide +kernel
theorem dX6_atom4_26 : decode cX6_atom4 26 = .ok (.getfield 171, 3) := by decide +kernel
theorem dX6_atom4_29 : decode cX6_atom4 29 = .ok (.iconst 1, 1) := by decide +kernel
theorem dX6_atom4_30 : decode cX6_atom4 30 = .ok (.isub, 1) := by decide +kernel
theorem dX6_atom4_31 : decode cX6_atom4 31 = .ok (.putfield 171, 3) := by decide +kernel
theorem dX6_atom4_34 : decode cX6_atom4 34 = .ok (.goto 127, 3) := by decide +kernel
theorem dX6_atom4_37 : decode cX6_atom4 37 = .ok (.aload_n 0, 1) := by decide +kernel
theorem dX6_atom4_38 : decode cX6_atom4 38 = .ok (.bipush 40, 2) := by decide +kernel
theorem dX6_atom4_40 : decode cX6_atom4 40 = .ok (.invokevirtual 202, 3) := by decide +kernel
theorem dX6_atom4_43 : decode cX6_atom4 43 = .ok (.ifCond .eq 52, 3) := by decide +kernel
theorem dX6_atom4_46 : decode cX6_atom4 46 = .ok (.aload_n 0, 1) := by decide +kernel
theorem dX6_atom4_47 : decode cX6_atom4 47 = .ok (.invokevirtual 205, 3) := by decide +kernel
theorem dX6_atom4_50 : decode cX6_atom4 50 = .ok (.ifCond .eq 111, 3) := by decide +kernel
theorem dX6_atom4_53 : decode cX6_atom4 53 = .ok (.aload_n 0, 1) := by decide +kernel
theorem dX6_atom4_54 : decode cX6_atom4 54 = .ok (.invokevirtual 232, 3) := by decide +kernel
theorem dX6_atom4_57 : decode cX6_atom4 57 = .ok (.istore_n 1, 1) := by decide +kernel
theorem dX6_atom4_58 : decode cX6_atom4 58 = .ok (.aload_n 0, 1) := by decide +kernel
theorem dX6_atom4_59 : decode cX6_atom4 59 = .ok (.bipush 41, 2) := by decide +kernel
theorem dX6_atom4_61 : decode cX6_atom4 61 = .ok (.invokevirtual 202, 3) := by decide +kernel
theorem dX6_atom4_64 : decode cX6_atom4 64 = .ok (.ifCond .ne 7, 3) := by decide +kernel
theorem dX6_atom4_67 : decode cX6_atom4 67 = .ok (.aload_n 0, 1) := by decide +kernel
theorem dX6_atom4_68 : decode cX6_atom4 68 = .ok (.invokevirtual 174, 3) := by decide +kernel
theorem dX6_atom4_71 : decode cX6_atom4 71 = .ok (.aload_n 0, 1) := by decide +kernel
theorem dX6_atom4_72 : decode cX6_atom4 72 = .ok (.dup, 1) := by decide +kernel
theorem dX6_atom4_73 : decode cX6_atom4 73 = .ok (.getfield 171, 3) := by decide +kernel
theorem dX6_atom4_76 : decode cX6_atom4 76 = .ok (.iconst 1, 1) := by decide +kernel
theorem dX6_atom4_77 : decode cX6_atom4 77 = .ok (.isub, 1) := by decide +kernel
theorem dX6_atom4_78 : decode cX6_atom4 78 = .ok (.putfield 171, 3) := by decide +kernel
theorem dX6_atom4_81 : decode cX6_atom4 81 = .ok (.aload_n 0, 1) := by decide +kernel
theorem dX6_atom4_82 : decode cX6_atom4 82 = .ok (.getfield 160, 3) := by decide +kernel
theorem dX6_atom4_85 : decode cX6_atom4 85 = .ok (.ifCond .ne 76, 3) := by decide +kernel
theorem dX6_atom4_88 : decode cX6_atom4 88 = .ok (.aload_n 0, 1) := by decide +kernel
theorem dX6_atom4_89 : decode cX6_atom4 89 = .ok (.invokevirtual 177, 3) := by decide +kernel
theorem dX6_atom4_92 : decode cX6_atom4 92 = .ok (.goto 69, 3) := by decide +kernel
theorem dX6_atom4_95 : decode cX6_atom4 95 = .ok (.aload_n 0, 1) := by decide +kernel
theorem dX6_atom4_96 : decode cX6_atom4 96 = .ok (.getfield 160, 3) := by decide +kernel
theorem dX6_atom4_99 : decode cX6_atom4 99 = .ok (.ifCond .ne 24, 3) := by decide +kernel
theorem dX6_atom4_102 : decode cX6_atom4 102 = .ok (.aload_n 0, 1) := by decide +kernel
theorem dX6_atom4_103 : decode cX6_atom4 103 = .ok (.getfield 145, 3) := by decide +kernel
theorem dX6_atom4_106 : decode cX6_atom4 106 = .ok (.iconst 2, 1) := by decide +kernel
theorem dX6_atom4_107 : decode cX6_atom4 107 = .ok (.if_icmp .ne 16, 3) := by decide +kernel
theorem dX6_atom4_110 : decode cX6_atom4 110 = .ok (.aload_n 0, 1) := by decide +kernel
theorem dX6_atom4_111 : decode cX6_atom4 111 = .ok (.getfield 156, 3) := by decide +kernel
theorem dX6_atom4_114 : decode cX6_atom4 114 = .ok (.l2i, 1) := by decide +kernel
theorem dX6_atom4_115 : decode cX6_atom4 115 = .ok (.istore_n 1, 1) := by decide +kernel
theorem dX6_atom4_116 : decode cX6_atom4 116 = .ok (.aload_n 0, 1) := by decide +kernel
theorem dX6_atom4_117 : decode cX6_atom4 117 = .ok (.invokevirtual 177, 3) := by decide +kernel
theorem dX6_atom4_120 : decode cX6_atom4 120 = .ok (.goto 41, 3) := by decide +kernel
theorem dX6_atom4_123 : decode cX6_atom4 123 = .ok (.aload_n 0, 1) := by decide +kernel
theorem dX6_atom4_124 : decode cX6_atom4 124 = .ok (.getfield 160, 3) := by decide +kernel
theorem dX6_atom4_127 : decode cX6_atom4 127 = .ok (.ifCond .ne 30, 3) := by decide +kernel
theorem dX6_atom4_130 : decode cX6_atom4 130 = .ok (.aload_n 0, 1) := by decide +kernel
theorem dX6_atom4_131 : decode cX6_atom4 131 = .ok (.getfield 145, 3) := by decide +kernel
theorem dX6_atom4_134 : decode cX6_atom4 134 = .ok (.iconst 1, 1) := by decide +kernel
theorem dX6_atom4_135 : decode cX6_atom4 135 = .ok (.if_icmp .ne 22, 3) := by decide +kernel
theorem dX6_atom4_138 : decode cX6_atom4 138 = .ok (.aload_n 0, 1) := by decide +kernel
theorem dX6_atom4_139 : decode cX6_atom4 139 = .ok (.invokevirtual 209, 3) := by decide +kernel
theorem dX6_atom4_142 : decode cX6_atom4 142 = .ok (.istore_n 1, 1) := by decide +kernel
theorem dX6_atom4_143 : decode cX6_atom4 143 = .ok (.aload_n 0, 1) := by decide +kernel
theorem dX6_atom4_144 : decode cX6_atom4 144 = .ok (.getfield 160, 3) := by decide +kernel
theorem dX6_atom4_147 : decode cX6_atom4 147 = .ok (.ifCond .ne 14, 3) := by decide +kernel
theorem dX6_atom4_150 : decode cX6_atom4 150 = .ok (.aload_n 0, 1) := by decide +kernel
theorem dX6_atom4_151 : decode cX6_atom4 151 = .ok (.invokevirtual 177, 3) := by decide +kernel
theorem dX6_atom4_154 : decode cX6_atom4 154 = .ok (.goto 7, 3) := by decide +kernel
theorem dX6_atom4_157 : decode cX6_atom4 157 = .ok (.aload_n 0, 1) := by decide +kernel
theorem dX6_atom4_158 : decode cX6_atom4 158 = .ok (.invokevirtual 174, 3) := by decide +kernel
theorem dX6_atom4_161 : decode cX6_atom4 161 = .ok (.iload_n 1, 1) := by decide +kernel
theorem dX6_atom4_162 : decode cX6_atom4 162 = .ok (.ireturn, 1) := by decide +kernel
theorem dX6_term4_0 : decode cX6_term4 0 = .ok (.aload_n 0, 1) := by decide +kernel
theorem dX6_term4_1 : decode cX6_term4 1 = .ok (.invokevirtual 235, 3) := by decide +kernel
theorem dX6_term4_4 : decode cX6_term4 4 = .ok (.istore_n 1, 1) := by decide +kernel
theorem dX6_term4_5 : decode cX6_term4 5 = .ok (.aload_n 0, 1) := by decide +kernel
theorem dX6_term4_6 : decode cX6_term4 6 = .ok (.bipush 42, 2) := by decide +kernel
theorem dX6_term4_8 : decode cX6_term4 8 = .ok (.invokevirtual 202, 3) := by decide +kernel
theorem dX6_term4_11 : decode cX6_term4 11 = .ok (.ifCond .eq 17, 3) := by decide +kernel
theorem dX6_term4_14 : decode cX6_term4 14 = .ok (.aload_n 0, 1) := by decide +kernel
theorem dX6_term4_15 : decode cX6_term4 15 = .ok (.invokevirtual 177, 3) := by decide +kernel
theorem dX6_term4_18 : decode cX6_term4 18 = .ok (.iload_n 1, 1) := by decide +kernel
theorem dX6_term4_19 : decode cX6_term4 19 = .ok (.aload_n 0, 1) := by decide +kernel
theorem dX6_term4_20 : decode cX6_term4 20 = .ok (.invokevirtual 235, 3) := by decide +kernel
theorem dX6_term4_23 : decode cX6_term4 23 = .ok (.imul, 1) := by decide +kernel
theorem dX6_term4_24 : decode cX6_term4 24 = .ok (.istore_n 1, 1) := by decide +kernel
theorem dX6_term4_25 : decode cX6_term4 25 = .ok (.goto (-20), 3) := by decide +kernel
theorem dX6_term4_28 : decode cX6_term4 28 = .ok (.iload_n 1, 1) := by decide +kernel
theorem dX6_term4_29 : decode cX6_term4 29 = .ok (.ireturn, 1) := by decide +kernel
theorem dX6_added4_0 : decode cX6_added4 0 = .ok (.aload_n 0, 1) := by decide +kernel
theorem dX6_added4_1 : decode cX6_added4 1 = .ok (.invokevirtual 238, 3) := by decide +kernel
theorem dX6_added4_4 : decode cX6_added4 4 = .ok (.istore_n 1, 1) := by decide +kernel
theorem dX6_added4_5 : decode cX6_added4 5 = .ok (.aload_n 0, 1) := by decide +kernel
theorem dX6_added4_6 : decode cX6_added4 6 = .ok (.bipush 43, 2) := by decide +kernel
theorem dX6_added4_8 : decode cX6_added4 8 = .ok (.invokevirtual 202, 3) := by decide +kernel
theorem dX6_added4_11 : decode cX6_added4 11 = .ok (.ifCond .ne 12, 3) := by decide +kernel
theorem dX6_added4_14 : decode cX6_added4 14 = .ok (.aload_n 0, 1) := by decide +kernel
theorem dX6_added4_15 : decode cX6_added4 15 = .ok (.bipush 45, 2) := by decide +kernel
theorem dX6_added4_17 : decode cX6_added4 17 = .ok (.invokevirtual 202, 3) := by decide +kernel
theorem dX6_added4_20 : decode cX6_added4 20 = .ok (.ifCond .eq 46, 3) := by decide +kernel
theorem dX6_added4_23 : decode cX6_added4 23 = .ok (.aload_n 0, 1) := by decide +kernel
theorem dX6_added4_24 : decode cX6_added4 24 = .ok (.getfield 156, 3) := by decide +kernel
theorem dX6_added4_27 : decode cX6_added4 27 = .ok (.ldc2_w 219, 3) := by decide +kernel
theorem dX6_added4_30 : decode cX6_added4 30 = .ok (.lcmp, 1) := by decide +kernel
theorem dX6_added4_31 : decode cX6_added4 31 = .ok (.ifCond .ne 7, 3) := by decide +kernel
theorem dX6_added4_34 : decode cX6_added4 34 = .ok (.iconst 1, 1) := by decide +kernel
theorem dX6_added4_35 : decode cX6_added4 35 = .ok (.goto 4, 3) := by decide +kernel
theorem dX6_added4_38 : decode cX6_added4 38 = .ok (.iconst 0, 1) := by decide +kernel
theorem dX6_added4_39 : decode cX6_added4 39 = .ok (.istore_n 2, 1) := by decide +kernel
theorem dX6_added4_40 : decode cX6_added4 40 = .ok (.aload_n 0, 1) := by decide +kernel
theorem dX6_added4_41 : decode cX6_added4 41 = .ok (.invokevirtual 177, 3) := by decide +kernel
theorem dX6_added4_44 : decode cX6_added4 44 = .ok (.aload_n 0, 1) := by decide +kernel
theorem dX6_added4_45 : decode cX6_added4 45 = .ok (.invokevirtual 238, 3) := by decide +kernel
theorem dX6_added4_48 : decode cX6_added4 48 = .ok (.istore_n 3, 1) := by decide +kernel
theorem dX6_added4_49 : decode cX6_added4 49 = .ok (.iload_n 2, 1) := by decide +kernel
theorem dX6_added4_50 : decode cX6_added4 50 = .ok (.ifCond .eq 9, 3) := by decide +kernel
theorem dX6_added4_53 : decode cX6_added4 53 = .ok (.iload_n 1, 1) := by decide +kernel
theorem dX6_added4_54 : decode cX6_added4 54 = .ok (.iload_n 3, 1) := by decide +kernel
theorem dX6_added4_55 : decode cX6_added4 55 = .ok (.iadd, 1) := by decide +kernel
theorem dX6_added4_56 : decode cX6_added4 56 = .ok (.goto 6, 3) := by decide +kernel
theorem dX6_added4_59 : decode cX6_added4 59 = .ok (.iload_n 1, 1) := by decide +kernel
theorem dX6_added4_60 : decode cX6_added4 60 = .ok (.iload_n 3, 1) := by decide +kernel
theorem dX6_added4_61 : decode cX6_added4 61 = .ok (.isub, 1) := by decide +kernel
theorem dX6_added4_62 : decode cX6_added4 62 = .ok (.istore_n 1, 1) := by decide +kernel
theorem dX6_added4_63 : decode cX6_added4 63 = .ok (.goto (-58), 3) := by decide +kernel
theorem dX6_added4_66 : decode cX6_added4 66 = .ok (.iload_n 1, 1) := by decide +kernel
theorem dX6_added4_67 : decode cX6_added4 67 = .ok (.ireturn, 1) := by decide +kernel
theorem dX6_not4_0 : decode cX6_not4 0 = .ok (.aload_n 0, 1) := by decide +kernel
theorem dX6_not4_1 : decode cX6_not4 1 = .ok (.bipush 110, 2) := by decide +kernel
theorem dX6_not4_3 : decode cX6_not4 3 = .ok (.bipush 111, 2) := by decide +kernel
theorem dX6_not4_5 : decode cX6_not4 5 = .ok (.bipush 116, 2) := by decide +kernel
theorem dX6_not4_7 : decode cX6_not4 7 = .ok (.iconst 0, 1) := by decide +kernel
theorem dX6_not4_8 : decode cX6_not4 8 = .ok (.iconst 0, 1) := by decide +kernel
theorem dX6_not4_9 : decode cX6_not4 9 = .ok (.iconst 0, 1) := by decide +kernel
theorem dX6_not4_10 : decode cX6_not4 10 = .ok (.iconst 0, 1) := by decide +kernel
theorem dX6_not4_11 : decode cX6_not4 11 = .ok (.iconst 0, 1) := by decide +kernel
theorem dX6_not4_12 : decode cX6_not4 12 = .ok (.invokevirtual 180, 3) := by decide +kernel
theorem dX6_not4_15 : decode cX6_not4 15 = .ok (.ifCond .eq 37, 3) := by decide +kernel
theorem dX6_not4_18 : decode cX6_not4 18 = .ok (.aload_n 0, 1) := by decide +kernel
theorem dX6_not4_19 : decode cX6_not4 19 = .ok (.invokevirtual 205, 3) := by decide +kernel
theorem dX6_not4_22 : decode cX6_not4 22 = .ok (.ifCond .ne 5, 3) := by decide +kernel
theorem dX6_not4_25 : decode cX6_not4 25 = .ok (.iconst 0, 1) := by decide +kernel
theorem dX6_not4_26 : decode cX6_not4 26 = .ok (.ireturn, 1) := by decide +kernel
theorem dX6_not4_27 : decode cX6_not4 27 = .ok (.aload_n 0, 1) := by decide +kernel
theorem dX6_not4_28 : decode cX6_not4 28 = .ok (.invokevirtual 226, 3) := by decide +kernel
theorem dX6_not4_31 : decode cX6_not4 31 = .ok (.istore_n 1, 1) := by decide +kernel
theorem dX6_not4_32 : decode cX6_not4 32 = .ok (.aload_n 0, 1) := by decide +kernel
theorem dX6_not4_33 : decode cX6_not4 33 = .ok (.dup, 1) := by decide +kernel
theorem dX6_not4_34 : decode cX6_not4 34 = .ok (.getfield 171, 3) := by decide +kernel
theorem dX6_not4_37 : decode cX6_not4 37 = .ok (.iconst 1, 1) := by decide +kernel
theorem dX6_not4_38 : decode cX6_not4 38 = .ok (.isub, 1) := by decide +kernel
theorem dX6_not4_39 : decode cX6_not4 39 = .ok (.putfield 171, 3) := by decide +kernel
theorem dX6_not4_42 : decode cX6_not4 42 = .ok (.iload_n 1, 1) := by decide +kernel
theorem dX6_not4_43 : decode cX6_not4 43 = .ok (.ifCond .ne 7, 3) := by decide +kernel
theorem dX6_not4_46 : decode cX6_not4 46 = .ok (.iconst 1, 1) := by decide +kernel
theorem dX6_not4_47 : decode cX6_not4 47 = .ok (.goto 4, 3) := by decide +kernel
theorem dX6_not4_50 : decode cX6_not4 50 = .ok (.iconst 0, 1) := by decide +kernel
theorem dX6_not4_51 : decode cX6_not4 51 = .ok (.ireturn, 1) := by decide +kernel
theorem dX6_not4_52 : decode cX6_not4 52 = .ok (.aload_n 0, 1) := by decide +kernel
theorem dX6_not4_53 : decode cX6_not4 53 = .ok (.invokevirtual 241, 3) := by decide +kernel
theorem dX6_not4_56 : decode cX6_not4 56 = .ok (.istore_n 1, 1) := by decide +kernel
theorem dX6_not4_57 : decode cX6_not4 57 = .ok (.aload_n 0, 1) := by decide +kernel
theorem dX6_not4_58 : decode cX6_not4 58 = .ok (.bipush 60, 2) := by decide +kernel
theorem dX6_not4_60 : decode cX6_not4 60 = .ok (.invokevirtual 202, 3) := by decide +kernel
theorem dX6_not4_63 : decode cX6_not4 63 = .ok (.ifCond .ne 14, 3) := by decide +kernel
theorem dX6_not4_66 : decode cX6_not4 66 = .ok (.aload_n 0, 1) := by decide +kernel
theorem dX6_not4_67 : decode cX6_not4 67 = .ok (.bipush 61, 2) := by decide +kernel
theorem dX6_not4_69 : decode cX6_not4 69 = .ok (.invokevirtual 202, 3) := by decide +kernel
theorem dX6_not4_72 : decode cX6_not4 72 = .ok (.ifCond .ne 5, 3) := by decide +kernel
theorem dX6_not4_75 : decode cX6_not4 75 = .ok (.iload_n 1, 1) := by decide +kernel
theorem dX6_not4_76 : decode cX6_not4 76 = .ok (.ireturn, 1) := by decide +kernel
theorem dX6_not4_77 : decode cX6_not4 77 = .ok (.aload_n 0, 1) := by decide +kernel
theorem dX6_not4_78 : decode cX6_not4 78 = .ok (.getfield 156, 3) := by decide +kernel
theorem dX6_not4_81 : decode cX6_not4 81 = .ok (.ldc2_w 224, 3) := by decide +kernel
theorem dX6_not4_84 : decode cX6_not4 84 = .ok (.lcmp, 1) := by decide +kernel
theorem dX6_not4_85 : decode cX6_not4 85 = .ok (.ifCond .ne 7, 3) := by decide +kernel
theorem dX6_not4_88 : decode cX6_not4 88 = .ok (.iconst 1, 1) := by decide +kernel
theorem dX6_not4_89 : decode cX6_not4 89 = .ok (.goto 4, 3) := by decide +kernel
theorem dX6_not4_92 : decode cX6_not4 92 = .ok (.iconst 0, 1) := by decide +kernel
theorem dX6_not4_93 : decode cX6_not4 93 = .ok (.istore_n 2, 1) := by decide +kernel
theorem dX6_not4_94 : decode cX6_not4 94 = .ok (.aload_n 0, 1) := by decide +kernel
theorem dX6_not4_95 : decode cX6_not4 95 = .ok (.invokevirtual 177, 3) := by decide +kernel
theorem dX6_not4_98 : decode cX6_not4 98 = .ok (.aload_n 0, 1) := by decide +kernel
theorem dX6_not4_99 : decode cX6_not4 99 = .ok (.invokevirtual 241, 3) := by decide +kernel
theorem dX6_not4_102 : decode cX6_not4 102 = .ok (.istore_n 3, 1) := by decide +kernel
theorem dX6_not4_103 : decode cX6_not4 103 = .ok (.iload_n 2, 1) := by decide +kernel
theorem dX6_not4_104 : decode cX6_not4 104 = .ok (.ifCond .eq 11, 3) := by decide +kernel
theorem dX6_not4_107 : decode cX6_not4 107 = .ok (.iload_n 1, 1) := by decide +kernel
theorem dX6_not4_108 : decode cX6_not4 108 = .ok (.iload_n 3, 1) := by decide +kernel
theorem dX6_not4_109 : decode cX6_not4 109 = .ok (.if_icmp .ge 15, 3) := by decide +kernel
theorem dX6_not4_112 : decode cX6_not4 112 = .ok (.goto 8, 3) := by decide +kernel
theorem dX6_not4_115 : decode cX6_not4 115 = .ok (.iload_n 1, 1) := by decide +kernel
theorem dX6_not4_116 : decode cX6_not4 116 = .ok (.iload_n 3, 1) := by decide +kernel
theorem dX6_not4_117 : decode cX6_not4 117 = .ok (.if_icmp .ne 7, 3) := by decide +kernel
theorem dX6_not4_120 : decode cX6_not4 120 = .ok (.iconst 1, 1) := by decide +kernel
theorem dX6_not4_121 : decode cX6_not4 121 = .ok (.goto 4, 3) := by decide +kernel
theorem dX6_not4_124 : decode cX6_not4 124 = .ok (.iconst 0, 1) := by decide +kernel
theorem dX6_not4_125 : decode cX6_not4 125 = .ok (.ireturn, 1) := by decide +kernel
theorem dX6_both4_0 : decode cX6_both4 0 = .ok (.aload_n 0, 1) := by decide +kernel
theorem dX6_both4_1 : decode cX6_both4 1 = .ok (.invokevirtual 244, 3) := by decide +kernel
theorem dX6_both4_4 : decode cX6_both4 4 = .ok (.istore_n 1, 1) := by decide +kernel
theorem dX6_both4_5 : decode cX6_both4 5 = .ok (.aload_n 0, 1) := by decide +kernel
theorem dX6_both4_6 : decode cX6_both4 6 = .ok (.bipush 97, 2) := by decide +kernel
theorem dX6_both4_8 : decode cX6_both4 8 = .ok (.bipush 110, 2) := by decide +kernel
theorem dX6_both4_10 : decode cX6_both4 10 = .ok (.bipush 100, 2) := by decide +kernel
theorem dX6_both4_12 : decode cX6_both4 12 = .ok (.iconst 0, 1) := by decide +kernel
theorem dX6_both4_13 : decode cX6_both4 13 = .ok (.iconst 0, 1) := by decide +kernel
theorem dX6_both4_14 : decode cX6_both4 14 = .ok (.iconst 0, 1) := by decide +kernel
theorem dX6_both4_15 : decode cX6_both4 15 = .ok (.iconst 0, 1) := by decide +kernel
theorem dX6_both4_16 : decode cX6_both4 16 = .ok (.iconst 0, 1) := by decide +kernel
theorem dX6_both4_17 : decode cX6_both4 17 = .ok (.invokevirtual 180, 3) := by decide +kernel
theorem dX6_both4_20 : decode cX6_both4 20 = .ok (.ifCond .eq 29, 3) := by decide +kernel
theorem dX6_both4_23 : decode cX6_both4 23 = .ok (.aload_n 0, 1) := by decide +kernel
theorem dX6_both4_24 : decode cX6_both4 24 = .ok (.invokevirtual 177, 3) := by decide +kernel
theorem dX6_both4_27 : decode cX6_both4 27 = .ok (.aload_n 0, 1) := by decide +kernel
theorem dX6_both4_28 : decode cX6_both4 28 = .ok (.invokevirtual 244, 3) := by decide +kernel
theorem dX6_both4_31 : decode cX6_both4 31 = .ok (.istore_n 2, 1) := by decide +kernel
theorem dX6_both4_32 : decode cX6_both4 32 = .ok (.iload_n 1, 1) := by decide +kernel
theorem dX6_both4_33 : decode cX6_both4 33 = .ok (.ifCond .eq 11, 3) := by decide +kernel
theorem dX6_both4_36 : decode cX6_both4 36 = .ok (.iload_n 2, 1) := by decide +kernel
theorem dX6_both4_37 : decode cX6_both4 37 = .ok (.ifCond .eq 7, 3) := by decide +kernel
theorem dX6_both4_40 : decode cX6_both4 40 = .ok (.iconst 1, 1) := by decide +kernel
theorem dX6_both4_41 : decode cX6_both4 41 = .ok (.goto 4, 3) := by decide +kernel
theorem dX6_both4_44 : decode cX6_both4 44 = .ok (.iconst 0, 1) := by decide +kernel
theorem dX6_both4_45 : decode cX6_both4 45 = .ok (.istore_n 1, 1) := by decide +kernel
theorem dX6_both4_46 : decode cX6_both4 46 = .ok (.goto (-41), 3) := by decide +kernel
theorem dX6_both4_49 : decode cX6_both4 49 = .ok (.iload_n 1, 1) := by decide +kernel
theorem dX6_both4_50 : decode cX6_both4 50 = .ok (.ireturn, 1) := by decide +kernel
theorem dX6_either4_0 : decode cX6_either4 0 = .ok (.aload_n 0, 1) := by decide +kernel
theorem dX6_either4_1 : decode cX6_either4 1 = .ok (.invokevirtual 247, 3) := by decide +kernel
theorem dX6_either4_4 : decode cX6_either4 4 = .ok (.istore_n 1, 1) := by decide +kernel
theorem dX6_either4_5 : decode cX6_either4 5 = .ok (.aload_n 0, 1) := by decide +kernel
theorem dX6_either4_6 : decode cX6_either4 6 = .ok (.bipush 111, 2) := by decide +kernel
theorem dX6_either4_8 : decode cX6_either4 8 = .ok (.bipush 114, 2) := by decide +kernel
theorem dX6_either4_10 : decode cX6_either4 10 = .ok (.iconst 0, 1) := by decide +kernel
theorem dX6_either4_11 : decode cX6_either4 11 = .ok (.iconst 0, 1) := by decide +kernel
theorem dX6_either4_12 : decode cX6_either4 12 = .ok (.iconst 0, 1) := by decide +kernel
theorem dX6_either4_13 : decode cX6_either4 13 = .ok (.iconst 0, 1) := by decide +kernel
theorem dX6_either4_14 : decode cX6_either4 14 = .ok (.iconst 0, 1) := by decide +kernel
theorem dX6_either4_15 : decode cX6_either4 15 = .ok (.iconst 0, 1) := by decide +kernel
theorem dX6_either4_16 : decode cX6_either4 16 = .ok (.invokevirtual 180, 3) := by decide +kernel
theorem dX6_either4_19 : decode cX6_either4 19 = .ok (.ifCond .eq 29, 3) := by decide +kernel
theorem dX6_either4_22 : decode cX6_either4 22 = .ok (.aload_n 0, 1) := by decide +kernel
theorem dX6_either4_23 : decode cX6_either4 23 = .ok (.invokevirtual 177, 3) := by decide +kernel
theorem dX6_either4_26 : decode cX6_either4 26 = .ok (.aload_n 0, 1) := by decide +kernel
theorem dX6_either4_27 : decode cX6_either4 27 = .ok (.invokevirtual 247, 3) := by decide +kernel
theorem dX6_either4_30 : decode cX6_either4 30 = .ok (.istore_n 2, 1) := by decide +kernel
theorem dX6_either4_31 : decode cX6_either4 31 = .ok (.iload_n 1, 1) := by decide +kernel
theorem dX6_either4_32 : decode cX6_either4 32 = .ok (.ifCond .ne 7, 3) := by decide +kernel
theorem dX6_either4_35 : decode cX6_either4 35 = .ok (.iload_n 2, 1) := by decide +kernel
theorem dX6_either4_36 : decode cX6_either4 36 = .ok (.ifCond .eq 7, 3) := by decide +kernel
theorem dX6_either4_39 : decode cX6_either4 39 = .ok (.iconst 1, 1) := by decide +kernel
theorem dX6_either4_40 : decode cX6_either4 40 = .ok (.goto 4, 3) := by decide +kernel
theorem dX6_either4_43 : decode cX6_either4 43 = .ok (.iconst 0, 1) := by decide +kernel
theorem dX6_either4_44 : decode cX6_either4 44 = .ok (.istore_n 1, 1) := by decide +kernel
theorem dX6_either4_45 : decode cX6_either4 45 = .ok (.goto (-40), 3) := by decide +kernel
theorem dX6_either4_48 : decode cX6_either4 48 = .ok (.iload_n 1, 1) := by decide +kernel
theorem dX6_either4_49 : decode cX6_either4 49 = .ok (.ireturn, 1) := by decide +kernel
theorem dX6_atom3_0 : decode cX6_atom3 0 = .ok (.iconst 0, 1) := by decide +kernel
theorem dX6_atom3_1 : decode cX6_atom3 1 = .ok (.istore_n 1, 1) := by decide +kernel
theorem dX6_atom3_2 : decode cX6_atom3 2 = .ok (.aload_n 0, 1) := by decide +kernel
theorem dX6_atom3_3 : decode cX6_atom3 3 = .ok (.bipush 45, 2) := by decide +kernel
theorem dX6_atom3_5 : decode cX6_atom3 5 = .ok (.invokevirtual 202, 3) := by decide +kernel
theorem dX6_atom3_8 : decode cX6_atom3 8 = .ok (.ifCond .eq 29, 3) := by decide +kernel
theorem dX6_atom3_11 : decode cX6_atom3 11 = .ok (.aload_n 0, 1) := by decide +kernel
theorem dX6_atom3_12 : decode cX6_atom3 12 = .ok (.invokevirtual 205, 3) := by decide +kernel
theorem dX6_atom3_15 : decode cX6_atom3 15 = .ok (.ifCond .eq 146, 3) := by decide +kernel
theorem dX6_atom3_18 : decode cX6_atom3 18 = .ok (.aload_n 0, 1) := by decide +kernel
theorem dX6_atom3_19 : decode cX6_atom3 19 = .ok (.invokevirtual 235, 3) := by decide +kernel
theorem dX6_atom3_22 : decode cX6_atom3 22 = .ok (.ineg, 1) := by decide +kernel
theorem dX6_atom3_23 : decode cX6_atom3 23 = .ok (.istore_n 1, 1) := by decide +kernel
theorem dX6_atom3_24 : decode cX6_atom3 24 = .ok (.aload_n 0, 1) := by decide +kernel
theorem dX6_atom3_25 : decode cX6_atom3 25 = .ok (.dup, 1) := by decide +kernel
theorem dX6_atom3_26 : decode cX6_atom3 26 = .ok (.getfield 171, 3) := by decide +kernel
theorem dX6_atom3_29 : decode cX6_atom3 29 = .ok (.iconst 1, 1) := by decide +kernel
theorem dX6_atom3_30 : decode cX6_atom3 30 = .ok (.isub, 1) := by decide +kernel
theorem dX6_atom3_31 : decode cX6_atom3 31 = .ok (.putfield 171, 3) := by decide +kernel
theorem dX6_atom3_34 : decode cX6_atom3 34 = .ok (.goto 127, 3) := by decide +kernel
theorem dX6_atom3_37 : decode cX6_atom3 37 = .ok (.aload_n 0, 1) := by decide +kernel
theorem dX6_atom3_38 : decode cX6_atom3 38 = .ok (.bipush 40, 2) := by decide +kernel
theorem dX6_atom3_40 : decode cX6_atom3 40 = .ok (.invokevirtual 202, 3) := by decide +kernel
theorem dX6_atom3_43 : decode cX6_atom3 43 = .ok (.ifCond .eq 52, 3) := by decide +kernel
theorem dX6_atom3_46 : decode cX6_atom3 46 = .ok (.aload_n 0, 1) := by decide +kernel
theorem dX6_atom3_47 : decode cX6_atom3 47 = .ok (.invokevirtual 205, 3) := by decide +kernel
theorem dX6_atom3_50 : decode cX6_atom3 50 = .ok (.ifCond .eq 111, 3) := by decide +kernel
theorem dX6_atom3_53 : decode cX6_atom3 53 = .ok (.aload_n 0, 1) := by decide +kernel
theorem dX6_atom3_54 : decode cX6_atom3 54 = .ok (.invokevirtual 250, 3) := by decide +kernel
theorem dX6_atom3_57 : decode cX6_atom3 57 = .ok (.istore_n 1, 1) := by decide +kernel
theorem dX6_atom3_58 : decode cX6_atom3 58 = .ok (.aload_n 0, 1) := by decide +kernel
theorem dX6_atom3_59 : decode cX6_atom3 59 = .ok (.bipush 41, 2) := by decide +kernel
theorem dX6_atom3_61 : decode cX6_atom3 61 = .ok (.invokevirtual 202, 3) := by decide +kernel
theorem dX6_atom3_64 : decode cX6_atom3 64 = .ok (.ifCond .ne 7, 3) := by decide +kernel
theorem dX6_atom3_67 : decode cX6_atom3 67 = .ok (.aload_n 0, 1) := by decide +kernel
theorem dX6_atom3_68 : decode cX6_atom3 68 = .ok (.invokevirtual 174, 3) := by decide +kernel
theorem dX6_atom3_71 : decode cX6_atom3 71 = .ok (.aload_n 0, 1) := by decide +kernel
theorem dX6_atom3_72 : decode cX6_atom3 72 = .ok (.dup, 1) := by decide +kernel
theorem dX6_atom3_73 : decode cX6_atom3 73 = .ok (.getfield 171, 3) := by decide +kernel
theorem dX6_atom3_76 : decode cX6_atom3 76 = .ok (.iconst 1, 1) := by decide +kernel
theorem dX6_atom3_77 : decode cX6_atom3 77 = .ok (.isub, 1) := by decide +kernel
theorem dX6_atom3_78 : decode cX6_atom3 78 = .ok (.putfield 171, 3) := by decide +kernel
theorem dX6_atom3_81 : decode cX6_atom3 81 = .ok (.aload_n 0, 1) := by decide +kernel
theorem dX6_atom3_82 : decode cX6_atom3 82 = .ok (.getfield 160, 3) := by decide +kernel
theorem dX6_atom3_85 : decode cX6_atom3 85 = .ok (.ifCond .ne 76, 3) := by decide +kernel
theorem dX6_atom3_88 : decode cX6_atom3 88 = .ok (.aload_n 0, 1) := by decide +kernel
theorem dX6_atom3_89 : decode cX6_atom3 89 = .ok (.invokevirtual 177, 3) := by decide +kernel
theorem dX6_atom3_92 : decode cX6_atom3 92 = .ok (.goto 69, 3) := by decide +kernel
theorem dX6_atom3_95 : decode cX6_atom3 95 = .ok (.aload_n 0, 1) := by decide +kernel
theorem dX6_atom3_96 : decode cX6_atom3 96 = .ok (.getfield 160, 3) := by decide +kernel
theorem dX6_atom3_99 : decode cX6_atom3 99 = .ok (.ifCond .ne 24, 3) := by decide +kernel
theorem dX6_atom3_102 : decode cX6_atom3 102 = .ok (.aload_n 0, 1) := by decide +kernel
theorem dX6_atom3_103 : decode cX6_atom3 103 = .ok (.getfield 145, 3) := by decide +kernel
theorem dX6_atom3_106 : decode cX6_atom3 106 = .ok (.iconst 2, 1) := by decide +kernel
theorem dX6_atom3_107 : decode cX6_atom3 107 = .ok (.if_icmp .ne 16, 3) := by decide +kernel
theorem dX6_atom3_110 : decode cX6_atom3 110 = .ok (.aload_n 0, 1) := by decide +kernel
theorem dX6_atom3_111 : decode cX6_atom3 111 = .ok (.getfield 156, 3) := by decide +kernel
theorem dX6_atom3_114 : decode cX6_atom3 114 = .ok (.l2i, 1) := by decide +kernel
theorem dX6_atom3_115 : decode cX6_atom3 115 = .ok (.istore_n 1, 1) := by decide +kernel
theorem dX6_atom3_116 : decode cX6_atom3 116 = .ok (.aload_n 0, 1) := by decide +kernel
theorem dX6_atom3_117 : decode cX6_atom3 117 = .ok (.invokevirtual 177, 3) := by decide +kernel
theorem dX6_atom3_120 : decode cX6_atom3 120 = .ok (.goto 41, 3) := by decide +kernel
theorem dX6_atom3_123 : decode cX6_atom3 123 = .ok (.aload_n 0, 1) := by decide +kernel
theorem dX6_atom3_124 : decode cX6_atom3 124 = .ok (.getfield 160, 3) := by decide +kernel
theorem dX6_atom3_127 : decode cX6_atom3 127 = .ok (.ifCond .ne 30, 3) := by decide +kernel
theorem dX6_atom3_130 : decode cX6_atom3 130 = .ok (.aload_n 0, 1) := by decide +kernel
theorem dX6_atom3_131 : decode cX6_atom3 131 = .ok (.getfield 145, 3) := by decide +kernel
theorem dX6_atom3_134 : decode cX6_atom3 134 = .ok (.iconst 1, 1) := by decide +kernel
theorem dX6_atom3_135 : decode cX6_atom3 135 = .ok (.if_icmp .ne 22, 3) := by decide +kernel
theorem dX6_atom3_138 : decode cX6_atom3 138 = .ok (.aload_n 0, 1) := by decide +kernel
theorem dX6_atom3_139 : decode cX6_atom3 139 = .ok (.invokevirtual 209, 3) := by decide +kernel
theorem dX6_atom3_142 : decode cX6_atom3 142 = .ok (.istore_n 1, 1) := by decide +kernel
theorem dX6_atom3_143 : decode cX6_atom3 143 = .ok (.aload_n 0, 1) := by decide +kernel
theorem dX6_atom3_144 : decode cX6_atom3 144 = .ok (.getfield 160, 3) := by decide +kernel
theorem dX6_atom3_147 : decode cX6_atom3 147 = .ok (.ifCond .ne 14, 3) := by decide +kernel
theorem dX6_atom3_150 : decode cX6_atom3 150 = .ok (.aload_n 0, 1) := by decide +kernel
theorem dX6_atom3_151 : decode cX6_atom3 151 = .ok (.invokevirtual 177, 3) := by decide +kernel
theorem dX6_atom3_154 : decode cX6_atom3 154 = .ok (.goto 7, 3) := by decide +kernel
theorem dX6_atom3_157 : decode cX6_atom3 157 = .ok (.aload_n 0, 1) := by decide +kernel
theorem dX6_atom3_158 : decode cX6_atom3 158 = .ok (.invokevirtual 174, 3) := by decide +kernel
theorem dX6_atom3_161 : decode cX6_atom3 161 = .ok (.iload_n 1, 1) := by decide +kernel
theorem dX6_atom3_162 : decode cX6_atom3 162 = .ok (.ireturn, 1) := by decide +kernel
theorem dX6_term3_0 : decode cX6_term3 0 = .ok (.aload_n 0, 1) := by decide +kernel
theorem dX6_term3_1 : decode cX6_term3 1 = .ok (.invokevirtual 253, 3) := by decide +kernel
theorem dX6_term3_4 : decode cX6_term3 4 = .ok (.istore_n 1, 1) := by decide +kernel
theorem dX6_term3_5 : decode cX6_term3 5 = .ok (.aload_n 0, 1) := by decide +kernel
theorem dX6_term3_6 : decode cX6_term3 6 = .ok (.bipush 42, 2) := by decide +kernel
theorem dX6_term3_8 : decode cX6_term3 8 = .ok (.invokevirtual 202, 3) := by decide +kernel
theorem dX6_term3_11 : decode cX6_term3 11 = .ok (.ifCond .eq 17, 3) := by decide +kernel
theorem dX6_term3_14 : decode cX6_term3 14 = .ok (.aload_n 0, 1) := by decide +kernel
theorem dX6_term3_15 : decode cX6_term3 15 = .ok (.invokevirtual 177, 3) := by decide +kernel
theorem dX6_term3_18 : decode cX6_term3 18 = .ok (.iload_n 1, 1) := by decide +kernel
theorem dX6_term3_19 : decode cX6_term3 19 = .ok (.aload_n 0, 1) := by decide +kernel
theorem dX6_term3_20 : decode cX6_term3 20 = .ok (.invokevirtual 253, 3) := by decide +kernel
theorem dX6_term3_23 : decode cX6_term3 23 = .ok (.imul, 1) := by decide +kernel
theorem dX6_term3_24 : decode cX6_term3 24 = .ok (.istore_n 1, 1) := by decide +kernel
theorem dX6_term3_25 : decode cX6_term3 25 = .ok (.goto (-20), 3) := by decide +kernel
theorem dX6_term3_28 : decode cX6_term3 28 = .ok (.iload_n 1, 1) := by decide +kernel
theorem dX6_term3_29 : decode cX6_term3 29 = .ok (.ireturn, 1) := by decide +kernel
theorem dX6_added3_0 : decode cX6_added3 0 = .ok (.aload_n 0, 1) := by decide +kernel
theorem dX6_added3_1 : decode cX6_added3 1 = .ok (.invokevirtual 256, 3) := by decide +kernel
theorem dX6_added3_4 : decode cX6_added3 4 = .ok (.istore_n 1, 1) := by decide +kernel
theorem dX6_added3_5 : decode cX6_added3 5 = .ok (.aload_n 0, 1) := by decide +kernel
theorem dX6_added3_6 : decode cX6_added3 6 = .ok (.bipush 43, 2) := by decide +kernel
theorem dX6_added3_8 : decode cX6_added3 8 = .ok (.invokevirtual 202, 3) := by decide +kernel
theorem dX6_added3_11 : decode cX6_added3 11 = .ok (.ifCond .ne 12, 3) := by decide +kernel
theorem dX6_added3_14 : decode cX6_added3 14 = .ok (.aload_n 0, 1) := by decide +kernel
theorem dX6_added3_15 : decode cX6_added3 15 = .ok (.bipush 45, 2) := by decide +kernel
theorem dX6_added3_17 : decode cX6_added3 17 = .ok (.invokevirtual 202, 3) := by decide +kernel
theorem dX6_added3_20 : decode cX6_added3 20 = .ok (.ifCond .eq 46, 3) := by decide +kernel
theorem dX6_added3_23 : decode cX6_added3 23 = .ok (.aload_n 0, 1) := by decide +kernel
theorem dX6_added3_24 : decode cX6_added3 24 = .ok (.getfield 156, 3) := by decide +kernel
theorem dX6_added3_27 : decode cX6_added3 27 = .ok (.ldc2_w 219, 3) := by decide +kernel
theorem dX6_added3_30 : decode cX6_added3 30 = .ok (.lcmp, 1) := by decide +kernel
theorem dX6_added3_31 : decode cX6_added3 31 = .ok (.ifCond .ne 7, 3) := by decide +kernel
theorem dX6_added3_34 : decode cX6_added3 34 = .ok (.iconst 1, 1) := by decide +kernel
theorem dX6_added3_35 : decode cX6_added3 35 = .ok (.goto 4, 3) := by decide +kernel
theorem dX6_added3_38 : decode cX6_added3 38 = .ok (.iconst 0, 1) := by decide +kernel
theorem dX6_added3_39 : decode cX6_added3 39 = .ok (.istore_n 2, 1) := by decide +kernel
theorem dX6_added3_40 : decode cX6_added3 40 = .ok (.aload_n 0, 1) := by decide +kernel
theorem dX6_added3_41 : decode cX6_added3 41 = .ok (.invokevirtual 177, 3) := by decide +kernel
theorem dX6_added3_44 : decode cX6_added3 44 = .ok (.aload_n 0, 1) := by decide +kernel
theorem dX6_added3_45 : decode cX6_added3 45 = .ok (.invokevirtual 256, 3) := by decide +kernel
theorem dX6_added3_48 : decode cX6_added3 48 = .ok (.istore_n 3, 1) := by decide +kernel
theorem dX6_added3_49 : decode cX6_added3 49 = .ok (.iload_n 2, 1) := by decide +kernel
theorem dX6_added3_50 : decode cX6_added3 50 = .ok (.ifCond .eq 9, 3) := by decide +kernel
theorem dX6_added3_53 : decode cX6_added3 53 = .ok (.iload_n 1, 1) := by decide +kernel
theorem dX6_added3_54 : decode cX6_added3 54 = .ok (.iload_n 3, 1) := by decide +kernel
theorem dX6_added3_55 : decode cX6_added3 55 = .ok (.iadd, 1) := by decide +kernel
theorem dX6_added3_56 : decode cX6_added3 56 = .ok (.goto 6, 3) := by decide +kernel
theorem dX6_added3_59 : decode cX6_added3 59 = .ok (.iload_n 1, 1) := by decide +kernel
theorem dX6_added3_60 : decode cX6_added3 60 = .ok (.iload_n 3, 1) := by decide +kernel
theorem dX6_added3_61 : decode cX6_added3 61 = .ok (.isub, 1) := by decide +kernel
theorem dX6_added3_62 : decode cX6_added3 62 = .ok (.istore_n 1, 1) := by decide +kernel
theorem dX6_added3_63 : decode cX6_added3 63 = .ok (.goto (-58), 3) := by decide +kernel
theorem dX6_added3_66 : decode cX6_added3 66 = .ok (.iload_n 1, 1) := by decide +kernel
theorem dX6_added3_67 : decode cX6_added3 67 = .ok (.ireturn, 1) := by decide +kernel
theorem dX6_not3_0 : decode cX6_not3 0 = .ok (.aload_n 0, 1) := by decide +kernel
theorem dX6_not3_1 : decode cX6_not3 1 = .ok (.bipush 110, 2) := by decide +kernel
theorem dX6_not3_3 : decode cX6_not3 3 = .ok (.bipush 111, 2) := by decide +kernel
theorem dX6_not3_5 : decode cX6_not3 5 = .ok (.bipush 116, 2) := by decide +kernel
theorem dX6_not3_7 : decode cX6_not3 7 = .ok (.iconst 0, 1) := by decide +kernel
theorem dX6_not3_8 : decode cX6_not3 8 = .ok (.iconst 0, 1) := by decide +kernel
theorem dX6_not3_9 : decode cX6_not3 9 = .ok (.iconst 0, 1) := by decide +kernel
theorem dX6_not3_10 : decode cX6_not3 10 = .ok (.iconst 0, 1) := by decide +kernel
theorem dX6_not3_11 : decode cX6_not3 11 = .ok (.iconst 0, 1) := by decide +kernel
theorem dX6_not3_12 : decode cX6_not3 12 = .ok (.invokevirtual 180, 3) := by decide +kernel
theorem dX6_not3_15 : decode cX6_not3 15 = .ok (.ifCond .eq 37, 3) := by decide +kernel
theorem dX6_not3_18 : decode cX6_not3 18 = .ok (.aload_n 0, 1) := by decide +kernel
theorem dX6_not3_19 : decode cX6_not3 19 = .ok (.invokevirtual 205, 3) := by decide +kernel
theorem dX6_not3_22 : decode cX6_not3 22 = .ok (.ifCond .ne 5, 3) := by decide +kernel
theorem dX6_not3_25 : decode cX6_not3 25 = .ok (.iconst 0, 1) := by decide +kernel
theorem dX6_not3_26 : decode cX6_not3 26 = .ok (.ireturn, 1) := by decide +kernel
theorem dX6_not3_27 : decode cX6_not3 27 = .ok (.aload_n 0, 1) := by decide +kernel
theorem dX6_not3_28 : decode cX6_not3 28 = .ok (.invokevirtual 244, 3) := by decide +kernel
theorem dX6_not3_31 : decode cX6_not3 31 = .ok (.istore_n 1, 1) := by decide +kernel
theorem dX6_not3_32 : decode cX6_not3 32 = .ok (.aload_n 0, 1) := by decide +kernel
theorem dX6_not3_33 : decode cX6_not3 33 = .ok (.dup, 1) := by decide +kernel
theorem dX6_not3_34 : decode cX6_not3 34 = .ok (.getfield 171, 3) := by decide +kernel
theorem dX6_not3_37 : decode cX6_not3 37 = .ok (.iconst 1, 1) := by decide +kernel
theorem dX6_not3_38 : decode cX6_not3 38 = .ok (.isub, 1) := by decide +kernel
theorem dX6_not3_39 : decode cX6_not3 39 = .ok (.putfield 171, 3) := by decide +kernel
theorem dX6_not3_42 : decode cX6_not3 42 = .ok (.iload_n 1, 1) := by decide +kernel
theorem dX6_not3_43 : decode cX6_not3 43 = .ok (.ifCond .ne 7, 3) := by decide +kernel
theorem dX6_not3_46 : decode cX6_not3 46 = .ok (.iconst 1, 1) := by decide +kernel
theorem dX6_not3_47 : decode cX6_not3 47 = .ok (.goto 4, 3) := by decide +kernel
theorem dX6_not3_50 : decode cX6_not3 50 = .ok (.iconst 0, 1) := by decide +kernel
theorem dX6_not3_51 : decode cX6_not3 51 = .ok (.ireturn, 1) := by decide +kernel
theorem dX6_not3_52 : decode cX6_not3 52 = .ok (.aload_n 0, 1) := by decide +kernel
theorem dX6_not3_53 : decode cX6_not3 53 = .ok (.invokevirtual 259, 3) := by decide +kernel
theorem dX6_not3_56 : decode cX6_not3 56 = .ok (.istore_n 1, 1) := by decide +kernel
theorem dX6_not3_57 : decode cX6_not3 57 = .ok (.aload_n 0, 1) := by decide +kernel
theorem dX6_not3_58 : decode cX6_not3 58 = .ok (.bipush 60, 2) := by decide +kernel
theorem dX6_not3_60 : decode cX6_not3 60 = .ok (.invokevirtual 202, 3) := by decide +kernel
theorem dX6_not3_63 : decode cX6_not3 63 = .ok (.ifCond .ne 14, 3) := by decide +kernel
theorem dX6_not3_66 : decode cX6_not3 66 = .ok (.aload_n 0, 1) := by decide +kernel
theorem dX6_not3_67 : decode cX6_not3 67 = .ok (.bipush 61, 2) := by decide +kernel
theorem dX6_not3_69 : decode cX6_not3 69 = .ok (.invokevirtual 202, 3) := by decide +kernel
theorem dX6_not3_72 : decode cX6_not3 72 = .ok (.ifCond .ne 5, 3) := by decide +kernel
theorem dX6_not3_75 : decode cX6_not3 75 = .ok (.iload_n 1, 1) := by decide +kernel
theorem dX6_not3_76 : decode cX6_not3 76 = .ok (.ireturn, 1) := by decide +kernel
theorem dX6_not3_77 : decode cX6_not3 77 = .ok (.aload_n 0, 1) := by decide +kernel
theorem dX6_not3_78 : decode cX6_not3 78 = .ok (.getfield 156, 3) := by decide +kernel
theorem dX6_not3_81 : decode cX6_not3 81 = .ok (.ldc2_w 224, 3) := by decide +kernel
theorem dX6_not3_84 : decode cX6_not3 84 = .ok (.lcmp, 1) := by decide +kernel
theorem dX6_not3_85 : decode cX6_not3 85 = .ok (.ifCond .ne 7, 3) := by decide +kernel
theorem dX6_not3_88 : decode cX6_not3 88 = .ok (.iconst 1, 1) := by decide +kernel
theorem dX6_not3_89 : decode cX6_not3 89 = .ok (.goto 4, 3) := by decide +kernel
theorem dX6_not3_92 : decode cX6_not3 92 = .ok (.iconst 0, 1) := by decide +kernel
theorem dX6_not3_93 : decode cX6_not3 93 = .ok (.istore_n 2, 1) := by decide +kernel
theorem dX6_not3_94 : decode cX6_not3 94 = .ok (.aload_n 0, 1) := by decide +kernel
theorem dX6_not3_95 : decode cX6_not3 95 = .ok (.invokevirtual 177, 3) := by decide +kernel
theorem dX6_not3_98 : decode cX6_not3 98 = .ok (.aload_n 0, 1) := by decide +kernel
theorem dX6_not3_99 : decode cX6_not3 99 = .ok (.invokevirtual 259, 3) := by decide +kernel
theorem dX6_not3_102 : decode cX6_not3 102 = .ok (.istore_n 3, 1) := by decide +kernel
theorem dX6_not3_103 : decode cX6_not3 103 = .ok (.iload_n 2, 1) := by decide +kernel
theorem dX6_not3_104 : decode cX6_not3 104 = .ok (.ifCond .eq 11, 3) := by decide +kernel
theorem dX6_not3_107 : decode cX6_not3 107 = .ok (.iload_n 1, 1) := by decide +kernel
theorem dX6_not3_108 : decode cX6_not3 108 = .ok (.iload_n 3, 1) := by decide +kernel
theorem dX6_not3_109 : decode cX6_not3 109 = .ok (.if_icmp .ge 15, 3) := by decide +kernel
theorem dX6_not3_112 : decode cX6_not3 112 = .ok (.goto 8, 3) := by decide +kernel
theorem dX6_not3_115 : decode cX6_not3 115 = .ok (.iload_n 1, 1) := by decide +kernel
theorem dX6_not3_116 : decode cX6_not3 116 = .ok (.iload_n 3, 1) := by decide +kernel
theorem dX6_not3_117 : decode cX6_not3 117 = .ok (.if_icmp .ne 7, 3) := by decide +kernel
theorem dX6_not3_120 : decode cX6_not3 120 = .ok (.iconst 1, 1) := by decide +kernel
theorem dX6_not3_121 : decode cX6_not3 121 = .ok (.goto 4, 3) := by decide +kernel
theorem dX6_not3_124 : decode cX6_not3 124 = .ok (.iconst 0, 1) := by decide +kernel
theorem dX6_not3_125 : decode cX6_not3 125 = .ok (.ireturn, 1) := by decide +kernel
theorem dX6_both3_0 : decode cX6_both3 0 = .ok (.aload_n 0, 1) := by decide +kernel
theorem dX6_both3_1 : decode cX6_both3 1 = .ok (.invokevirtual 262, 3) := by decide +kernel
theorem dX6_both3_4 : decode cX6_both3 4 = .ok (.istore_n 1, 1) := by decide +kernel
theorem dX6_both3_5 : decode cX6_both3 5 = .ok (.aload_n 0, 1) := by decide +kernel
theorem dX6_both3_6 : decode cX6_both3 6 = .ok (.bipush 97, 2) := by decide +kernel
theorem dX6_both3_8 : decode cX6_both3 8 = .ok (.bipush 110, 2) := by decide +kernel
theorem dX6_both3_10 : decode cX6_both3 10 = .ok (.bipush 100, 2) := by decide +kernel
theorem dX6_both3_12 : decode cX6_both3 12 = .ok (.iconst 0, 1) := by decide +kernel
theorem dX6_both3_13 : decode cX6_both3 13 = .ok (.iconst 0, 1) := by decide +kernel
theorem dX6_both3_14 : decode cX6_both3 14 = .ok (.iconst 0, 1) := by decide +kernel
theorem dX6_both3_15 : decode cX6_both3 15 = .ok (.iconst 0, 1) := by decide +kernel
theorem dX6_both3_16 : decode cX6_both3 16 = .ok (.iconst 0, 1) := by decide +kernel
theorem dX6_both3_17 : decode cX6_both3 17 = .ok (.invokevirtual 180, 3) := by decide +kernel
theorem dX6_both3_20 : decode cX6_both3 20 = .ok (.ifCond .eq 29, 3) := by decide +kernel
theorem dX6_both3_23 : decode cX6_both3 23 = .ok (.aload_n 0, 1) := by decide +kernel
