theorem dX6_isSo_80 : decode cX6_isSo 80 = .ok (.iconst 1, 1) := by decide +kernel
theorem dX6_isSo_81 : decode cX6_isSo 81 = .ok (.iadd, 1) := by decide +kernel
theorem dX6_isSo_82 : decode cX6_isSo 82 = .ok (.iaload, 1) := by decide +kernel
theorem dX6_isSo_83 : decode cX6_isSo 83 = .ok (.i2l, 1) := by decide +kernel
theorem dX6_isSo_84 : decode cX6_isSo 84 = .ok (.lmul, 1) := by decide +kernel
theorem dX6_isSo_85 : decode cX6_isSo 85 = .ok (.lsub, 1) := by decide +kernel
theorem dX6_isSo_86 : decode cX6_isSo 86 = .ok (.invokestatic 338, 3) := by decide +kernel
theorem dX6_isSo_89 : decode cX6_isSo 89 = .ok (.aload_n 0, 1) := by decide +kernel
theorem dX6_isSo_90 : decode cX6_isSo 90 = .ok (.getfield 79, 3) := by decide +kernel
theorem dX6_isSo_93 : decode cX6_isSo 93 = .ok (.bipush 40, 2) := by decide +kernel
theorem dX6_isSo_95 : decode cX6_isSo 95 = .ok (.iload_n 1, 1) := by decide +kernel
theorem dX6_isSo_96 : decode cX6_isSo 96 = .ok (.imul, 1) := by decide +kernel
theorem dX6_isSo_97 : decode cX6_isSo 97 = .ok (.iload 4, 2) := by decide +kernel
theorem dX6_isSo_99 : decode cX6_isSo 99 = .ok (.iadd, 1) := by decide +kernel
theorem dX6_isSo_100 : decode cX6_isSo 100 = .ok (.iconst 2, 1) := by decide +kernel
theorem dX6_isSo_101 : decode cX6_isSo 101 = .ok (.iadd, 1) := by decide +kernel
theorem dX6_isSo_102 : decode cX6_isSo 102 = .ok (.iaload, 1) := by decide +kernel
theorem dX6_isSo_103 : decode cX6_isSo 103 = .ok (.i2l, 1) := by decide +kernel
theorem dX6_isSo_104 : decode cX6_isSo 104 = .ok (.lcmp, 1) := by decide +kernel
theorem dX6_isSo_105 : decode cX6_isSo 105 = .ok (.ifCond .le 5, 3) := by decide +kernel
theorem dX6_isSo_108 : decode cX6_isSo 108 = .ok (.iconst 0, 1) := by decide +kernel
theorem dX6_isSo_109 : decode cX6_isSo 109 = .ok (.ireturn, 1) := by decide +kernel
theorem dX6_isSo_110 : decode cX6_isSo 110 = .ok (.iinc 4 3, 3) := by decide +kernel
theorem dX6_isSo_113 : decode cX6_isSo 113 = .ok (.goto (-110), 3) := by decide +kernel
theorem dX6_isSo_116 : decode cX6_isSo 116 = .ok (.iconst 1, 1) := by decide +kernel
theorem dX6_isSo_117 : decode cX6_isSo 117 = .ok (.ireturn, 1) := by decide +kernel
theorem dX6_fits_0 : decode cX6_fits 0 = .ok (.aload_n 0, 1) := by decide +kernel
theorem dX6_fits_1 : decode cX6_fits 1 = .ok (.iload_n 1, 1) := by decide +kernel
theorem dX6_fits_2 : decode cX6_fits 2 = .ok (.invokevirtual 390, 3) := by decide +kernel
theorem dX6_fits_5 : decode cX6_fits 5 = .ok (.istore_n 2, 1) := by decide +kernel
theorem dX6_fits_6 : decode cX6_fits 6 = .ok (.iload_n 2, 1) := by decide +kernel
theorem dX6_fits_7 : decode cX6_fits 7 = .ok (.ifCond .eq 5, 3) := by decide +kernel
theorem dX6_fits_10 : decode cX6_fits 10 = .ok (.iload_n 2, 1) := by decide +kernel
theorem dX6_fits_11 : decode cX6_fits 11 = .ok (.ireturn, 1) := by decide +kernel
theorem dX6_fits_12 : decode cX6_fits 12 = .ok (.iconst 0, 1) := by decide +kernel
theorem dX6_fits_13 : decode cX6_fits 13 = .ok (.istore_n 3, 1) := by decide +kernel
theorem dX6_fits_14 : decode cX6_fits 14 = .ok (.iconst 0, 1) := by decide +kernel
theorem dX6_fits_15 : decode cX6_fits 15 = .ok (.istore 4, 2) := by decide +kernel
theorem dX6_fits_17 : decode cX6_fits 17 = .ok (.iload 4, 2) := by decide +kernel
theorem dX6_fits_19 : decode cX6_fits 19 = .ok (.aload_n 0, 1) := by decide +kernel
theorem dX6_fits_20 : decode cX6_fits 20 = .ok (.getfield 89, 3) := by decide +kernel
theorem dX6_fits_23 : decode cX6_fits 23 = .ok (.if_icmp .ge 32, 3) := by decide +kernel
theorem dX6_fits_26 : decode cX6_fits 26 = .ok (.iload_n 3, 1) := by decide +kernel
theorem dX6_fits_27 : decode cX6_fits 27 = .ok (.aload_n 0, 1) := by decide +kernel
theorem dX6_fits_28 : decode cX6_fits 28 = .ok (.iload_n 1, 1) := by decide +kernel
theorem dX6_fits_29 : decode cX6_fits 29 = .ok (.iload 4, 2) := by decide +kernel
theorem dX6_fits_31 : decode cX6_fits 31 = .ok (.bipush 99, 2) := by decide +kernel
theorem dX6_fits_33 : decode cX6_fits 33 = .ok (.invokevirtual 393, 3) := by decide +kernel
theorem dX6_fits_36 : decode cX6_fits 36 = .ok (.ifCond .eq 7, 3) := by decide +kernel
theorem dX6_fits_39 : decode cX6_fits 39 = .ok (.iconst 1, 1) := by decide +kernel
theorem dX6_fits_40 : decode cX6_fits 40 = .ok (.goto 4, 3) := by decide +kernel
theorem dX6_fits_43 : decode cX6_fits 43 = .ok (.iconst 0, 1) := by decide +kernel
theorem dX6_fits_44 : decode cX6_fits 44 = .ok (.iload 4, 2) := by decide +kernel
theorem dX6_fits_46 : decode cX6_fits 46 = .ok (.ishl, 1) := by decide +kernel
theorem dX6_fits_47 : decode cX6_fits 47 = .ok (.ior, 1) := by decide +kernel
theorem dX6_fits_48 : decode cX6_fits 48 = .ok (.istore_n 3, 1) := by decide +kernel
theorem dX6_fits_49 : decode cX6_fits 49 = .ok (.iinc 4 1, 3) := by decide +kernel
theorem dX6_fits_52 : decode cX6_fits 52 = .ok (.goto (-35), 3) := by decide +kernel
theorem dX6_fits_55 : decode cX6_fits 55 = .ok (.iload_n 3, 1) := by decide +kernel
theorem dX6_fits_56 : decode cX6_fits 56 = .ok (.ireturn, 1) := by decide +kernel
theorem dX6_wrong_0 : decode cX6_wrong 0 = .ok (.aload_n 0, 1) := by decide +kernel
theorem dX6_wrong_1 : decode cX6_wrong 1 = .ok (.iload_n 1, 1) := by decide +kernel
theorem dX6_wrong_2 : decode cX6_wrong 2 = .ok (.invokevirtual 390, 3) := by decide +kernel
theorem dX6_wrong_5 : decode cX6_wrong 5 = .ok (.ifCond .ne 21, 3) := by decide +kernel
theorem dX6_wrong_8 : decode cX6_wrong 8 = .ok (.aload_n 0, 1) := by decide +kernel
theorem dX6_wrong_9 : decode cX6_wrong 9 = .ok (.iload_n 2, 1) := by decide +kernel
theorem dX6_wrong_10 : decode cX6_wrong 10 = .ok (.invokevirtual 96, 3) := by decide +kernel
theorem dX6_wrong_13 : decode cX6_wrong 13 = .ok (.ifCond .eq 13, 3) := by decide +kernel
theorem dX6_wrong_16 : decode cX6_wrong 16 = .ok (.iload_n 3, 1) := by decide +kernel
theorem dX6_wrong_17 : decode cX6_wrong 17 = .ok (.i2l, 1) := by decide +kernel
theorem dX6_wrong_18 : decode cX6_wrong 18 = .ok (.lconst 0, 1) := by decide +kernel
theorem dX6_wrong_19 : decode cX6_wrong 19 = .ok (.lconst 1, 1) := by decide +kernel
theorem dX6_wrong_20 : decode cX6_wrong 20 = .ok (.invokestatic 92, 3) := by decide +kernel
theorem dX6_wrong_23 : decode cX6_wrong 23 = .ok (.ifCond .ne 7, 3) := by decide +kernel
theorem dX6_wrong_26 : decode cX6_wrong 26 = .ok (.sipush (-1000), 3) := by decide +kernel
theorem dX6_wrong_29 : decode cX6_wrong 29 = .ok (.ireturn, 1) := by decide +kernel
theorem dX6_wrong_30 : decode cX6_wrong 30 = .ok (.iconst 0, 1) := by decide +kernel
theorem dX6_wrong_31 : decode cX6_wrong 31 = .ok (.istore 4, 2) := by decide +kernel
theorem dX6_wrong_33 : decode cX6_wrong 33 = .ok (.bipush 99, 2) := by decide +kernel
theorem dX6_wrong_35 : decode cX6_wrong 35 = .ok (.istore 5, 2) := by decide +kernel
theorem dX6_wrong_37 : decode cX6_wrong 37 = .ok (.iconst 0, 1) := by decide +kernel
theorem dX6_wrong_38 : decode cX6_wrong 38 = .ok (.istore 6, 2) := by decide +kernel
theorem dX6_wrong_40 : decode cX6_wrong 40 = .ok (.iload 6, 2) := by decide +kernel
theorem dX6_wrong_42 : decode cX6_wrong 42 = .ok (.bipush 61, 2) := by decide +kernel
theorem dX6_wrong_44 : decode cX6_wrong 44 = .ok (.if_icmp .ge 76, 3) := by decide +kernel
theorem dX6_wrong_47 : decode cX6_wrong 47 = .ok (.aload_n 0, 1) := by decide +kernel
theorem dX6_wrong_48 : decode cX6_wrong 48 = .ok (.iload_n 1, 1) := by decide +kernel
theorem dX6_wrong_49 : decode cX6_wrong 49 = .ok (.iload_n 2, 1) := by decide +kernel
theorem dX6_wrong_50 : decode cX6_wrong 50 = .ok (.iload 6, 2) := by decide +kernel
theorem dX6_wrong_52 : decode cX6_wrong 52 = .ok (.ineg, 1) := by decide +kernel
theorem dX6_wrong_53 : decode cX6_wrong 53 = .ok (.invokevirtual 393, 3) := by decide +kernel
theorem dX6_wrong_56 : decode cX6_wrong 56 = .ok (.ifCond .eq 23, 3) := by decide +kernel
theorem dX6_wrong_59 : decode cX6_wrong 59 = .ok (.iinc 4 1, 3) := by decide +kernel
theorem dX6_wrong_62 : decode cX6_wrong 62 = .ok (.iload 5, 2) := by decide +kernel
theorem dX6_wrong_64 : decode cX6_wrong 64 = .ok (.bipush 99, 2) := by decide +kernel
theorem dX6_wrong_66 : decode cX6_wrong 66 = .ok (.if_icmp .ne 9, 3) := by decide +kernel
theorem dX6_wrong_69 : decode cX6_wrong 69 = .ok (.iload 6, 2) := by decide +kernel
theorem dX6_wrong_71 : decode cX6_wrong 71 = .ok (.ineg, 1) := by decide +kernel
theorem dX6_wrong_72 : decode cX6_wrong 72 = .ok (.goto 5, 3) := by decide +kernel
theorem dX6_wrong_75 : decode cX6_wrong 75 = .ok (.iload 5, 2) := by decide +kernel
theorem dX6_wrong_77 : decode cX6_wrong 77 = .ok (.istore 5, 2) := by decide +kernel
theorem dX6_wrong_79 : decode cX6_wrong 79 = .ok (.iload 6, 2) := by decide +kernel
theorem dX6_wrong_81 : decode cX6_wrong 81 = .ok (.ifCond .le 33, 3) := by decide +kernel
theorem dX6_wrong_84 : decode cX6_wrong 84 = .ok (.aload_n 0, 1) := by decide +kernel
theorem dX6_wrong_85 : decode cX6_wrong 85 = .ok (.iload_n 1, 1) := by decide +kernel
theorem dX6_wrong_86 : decode cX6_wrong 86 = .ok (.iload_n 2, 1) := by decide +kernel
theorem dX6_wrong_87 : decode cX6_wrong 87 = .ok (.iload 6, 2) := by decide +kernel
theorem dX6_wrong_89 : decode cX6_wrong 89 = .ok (.invokevirtual 393, 3) := by decide +kernel
theorem dX6_wrong_92 : decode cX6_wrong 92 = .ok (.ifCond .eq 22, 3) := by decide +kernel
theorem dX6_wrong_95 : decode cX6_wrong 95 = .ok (.iinc 4 1, 3) := by decide +kernel
theorem dX6_wrong_98 : decode cX6_wrong 98 = .ok (.iload 5, 2) := by decide +kernel
theorem dX6_wrong_100 : decode cX6_wrong 100 = .ok (.bipush 99, 2) := by decide +kernel
theorem dX6_wrong_102 : decode cX6_wrong 102 = .ok (.if_icmp .ne 8, 3) := by decide +kernel
theorem dX6_wrong_105 : decode cX6_wrong 105 = .ok (.iload 6, 2) := by decide +kernel
theorem dX6_wrong_107 : decode cX6_wrong 107 = .ok (.goto 5, 3) := by decide +kernel
theorem dX6_wrong_110 : decode cX6_wrong 110 = .ok (.iload 5, 2) := by decide +kernel
theorem dX6_wrong_112 : decode cX6_wrong 112 = .ok (.istore 5, 2) := by decide +kernel
theorem dX6_wrong_114 : decode cX6_wrong 114 = .ok (.iinc 6 1, 3) := by decide +kernel
theorem dX6_wrong_117 : decode cX6_wrong 117 = .ok (.goto (-77), 3) := by decide +kernel
theorem dX6_wrong_120 : decode cX6_wrong 120 = .ok (.iload_n 3, 1) := by decide +kernel
theorem dX6_wrong_121 : decode cX6_wrong 121 = .ok (.ifCond .ne 8, 3) := by decide +kernel
theorem dX6_wrong_124 : decode cX6_wrong 124 = .ok (.iload 4, 2) := by decide +kernel
theorem dX6_wrong_126 : decode cX6_wrong 126 = .ok (.goto 5, 3) := by decide +kernel
theorem dX6_wrong_129 : decode cX6_wrong 129 = .ok (.iload 5, 2) := by decide +kernel
theorem dX6_wrong_131 : decode cX6_wrong 131 = .ok (.ireturn, 1) := by decide +kernel
theorem dX6_bitsOf_0 : decode cX6_bitsOf 0 = .ok (.iconst 0, 1) := by decide +kernel
theorem dX6_bitsOf_1 : decode cX6_bitsOf 1 = .ok (.istore_n 1, 1) := by decide +kernel
theorem dX6_bitsOf_2 : decode cX6_bitsOf 2 = .ok (.iload_n 0, 1) := by decide +kernel
theorem dX6_bitsOf_3 : decode cX6_bitsOf 3 = .ok (.istore_n 2, 1) := by decide +kernel
theorem dX6_bitsOf_4 : decode cX6_bitsOf 4 = .ok (.iload_n 2, 1) := by decide +kernel
theorem dX6_bitsOf_5 : decode cX6_bitsOf 5 = .ok (.ifCond .eq 15, 3) := by decide +kernel
theorem dX6_bitsOf_8 : decode cX6_bitsOf 8 = .ok (.iinc 1 1, 3) := by decide +kernel
theorem dX6_bitsOf_11 : decode cX6_bitsOf 11 = .ok (.iload_n 2, 1) := by decide +kernel
theorem dX6_bitsOf_12 : decode cX6_bitsOf 12 = .ok (.iload_n 2, 1) := by decide +kernel
theorem dX6_bitsOf_13 : decode cX6_bitsOf 13 = .ok (.iconst 1, 1) := by decide +kernel
theorem dX6_bitsOf_14 : decode cX6_bitsOf 14 = .ok (.isub, 1) := by decide +kernel
theorem dX6_bitsOf_15 : decode cX6_bitsOf 15 = .ok (.iand, 1) := by decide +kernel
theorem dX6_bitsOf_16 : decode cX6_bitsOf 16 = .ok (.istore_n 2, 1) := by decide +kernel
theorem dX6_bitsOf_17 : decode cX6_bitsOf 17 = .ok (.goto (-13), 3) := by decide +kernel
theorem dX6_bitsOf_20 : decode cX6_bitsOf 20 = .ok (.iload_n 1, 1) := by decide +kernel
theorem dX6_bitsOf_21 : decode cX6_bitsOf 21 = .ok (.ireturn, 1) := by decide +kernel
theorem dX6_partsAll_0 : decode cX6_partsAll 0 = .ok (.iconst 0, 1) := by decide +kernel
theorem dX6_partsAll_1 : decode cX6_partsAll 1 = .ok (.istore_n 2, 1) := by decide +kernel
theorem dX6_partsAll_2 : decode cX6_partsAll 2 = .ok (.iload_n 2, 1) := by decide +kernel
theorem dX6_partsAll_3 : decode cX6_partsAll 3 = .ok (.aload_n 0, 1) := by decide +kernel
theorem dX6_partsAll_4 : decode cX6_partsAll 4 = .ok (.getfield 89, 3) := by decide +kernel
theorem dX6_partsAll_7 : decode cX6_partsAll 7 = .ok (.if_icmp .ge 102, 3) := by decide +kernel
theorem dX6_partsAll_10 : decode cX6_partsAll 10 = .ok (.iload_n 2, 1) := by decide +kernel
theorem dX6_partsAll_11 : decode cX6_partsAll 11 = .ok (.iconst 1, 1) := by decide +kernel
theorem dX6_partsAll_12 : decode cX6_partsAll 12 = .ok (.iadd, 1) := by decide +kernel
theorem dX6_partsAll_13 : decode cX6_partsAll 13 = .ok (.istore_n 3, 1) := by decide +kernel
theorem dX6_partsAll_14 : decode cX6_partsAll 14 = .ok (.iload_n 3, 1) := by decide +kernel
theorem dX6_partsAll_15 : decode cX6_partsAll 15 = .ok (.aload_n 0, 1) := by decide +kernel
theorem dX6_partsAll_16 : decode cX6_partsAll 16 = .ok (.getfield 89, 3) := by decide +kernel
theorem dX6_partsAll_19 : decode cX6_partsAll 19 = .ok (.if_icmp .ge 84, 3) := by decide +kernel
theorem dX6_partsAll_22 : decode cX6_partsAll 22 = .ok (.iconst 0, 1) := by decide +kernel
theorem dX6_partsAll_23 : decode cX6_partsAll 23 = .ok (.istore 4, 2) := by decide +kernel
theorem dX6_partsAll_25 : decode cX6_partsAll 25 = .ok (.iconst 0, 1) := by decide +kernel
theorem dX6_partsAll_26 : decode cX6_partsAll 26 = .ok (.istore 5, 2) := by decide +kernel
theorem dX6_partsAll_28 : decode cX6_partsAll 28 = .ok (.iload 5, 2) := by decide +kernel
theorem dX6_partsAll_30 : decode cX6_partsAll 30 = .ok (.bipush 11, 2) := by decide +kernel
theorem dX6_partsAll_32 : decode cX6_partsAll 32 = .ok (.if_icmp .ge 58, 3) := by decide +kernel
theorem dX6_partsAll_35 : decode cX6_partsAll 35 = .ok (.iload 4, 2) := by decide +kernel
theorem dX6_partsAll_37 : decode cX6_partsAll 37 = .ok (.ifCond .ne 40, 3) := by decide +kernel
theorem dX6_partsAll_40 : decode cX6_partsAll 40 = .ok (.iload_n 1, 1) := by decide +kernel
theorem dX6_partsAll_41 : decode cX6_partsAll 41 = .ok (.iload 5, 2) := by decide +kernel
theorem dX6_partsAll_43 : decode cX6_partsAll 43 = .ok (.ishr, 1) := by decide +kernel
theorem dX6_partsAll_44 : decode cX6_partsAll 44 = .ok (.iconst 1, 1) := by decide +kernel
theorem dX6_partsAll_45 : decode cX6_partsAll 45 = .ok (.iand, 1) := by decide +kernel
theorem dX6_partsAll_46 : decode cX6_partsAll 46 = .ok (.iconst 1, 1) := by decide +kernel
theorem dX6_partsAll_47 : decode cX6_partsAll 47 = .ok (.if_icmp .ne 34, 3) := by decide +kernel
theorem dX6_partsAll_50 : decode cX6_partsAll 50 = .ok (.aload_n 0, 1) := by decide +kernel
theorem dX6_partsAll_51 : decode cX6_partsAll 51 = .ok (.getfield 51, 3) := by decide +kernel
theorem dX6_partsAll_54 : decode cX6_partsAll 54 = .ok (.bipush 6, 2) := by decide +kernel
theorem dX6_partsAll_56 : decode cX6_partsAll 56 = .ok (.iload 5, 2) := by decide +kernel
theorem dX6_partsAll_58 : decode cX6_partsAll 58 = .ok (.imul, 1) := by decide +kernel
theorem dX6_partsAll_59 : decode cX6_partsAll 59 = .ok (.iload_n 2, 1) := by decide +kernel
theorem dX6_partsAll_60 : decode cX6_partsAll 60 = .ok (.iadd, 1) := by decide +kernel
theorem dX6_partsAll_61 : decode cX6_partsAll 61 = .ok (.iaload, 1) := by decide +kernel
theorem dX6_partsAll_62 : decode cX6_partsAll 62 = .ok (.aload_n 0, 1) := by decide +kernel
theorem dX6_partsAll_63 : decode cX6_partsAll 63 = .ok (.getfield 51, 3) := by decide +kernel
theorem dX6_partsAll_66 : decode cX6_partsAll 66 = .ok (.bipush 6, 2) := by decide +kernel
theorem dX6_partsAll_68 : decode cX6_partsAll 68 = .ok (.iload 5, 2) := by decide +kernel
theorem dX6_partsAll_70 : decode cX6_partsAll 70 = .ok (.imul, 1) := by decide +kernel
theorem dX6_partsAll_71 : decode cX6_partsAll 71 = .ok (.iload_n 3, 1) := by decide +kernel
theorem dX6_partsAll_72 : decode cX6_partsAll 72 = .ok (.iadd, 1) := by decide +kernel
theorem dX6_partsAll_73 : decode cX6_partsAll 73 = .ok (.iaload, 1) := by decide +kernel
theorem dX6_partsAll_74 : decode cX6_partsAll 74 = .ok (.if_icmp .eq 7, 3) := by decide +kernel
theorem dX6_partsAll_77 : decode cX6_partsAll 77 = .ok (.iconst 1, 1) := by decide +kernel
theorem dX6_partsAll_78 : decode cX6_partsAll 78 = .ok (.goto 4, 3) := by decide +kernel
theorem dX6_partsAll_81 : decode cX6_partsAll 81 = .ok (.iconst 0, 1) := by decide +kernel
theorem dX6_partsAll_82 : decode cX6_partsAll 82 = .ok (.istore 4, 2) := by decide +kernel
theorem dX6_partsAll_84 : decode cX6_partsAll 84 = .ok (.iinc 5 1, 3) := by decide +kernel
theorem dX6_partsAll_87 : decode cX6_partsAll 87 = .ok (.goto (-59), 3) := by decide +kernel
theorem dX6_partsAll_90 : decode cX6_partsAll 90 = .ok (.iload 4, 2) := by decide +kernel
theorem dX6_partsAll_92 : decode cX6_partsAll 92 = .ok (.ifCond .ne 5, 3) := by decide +kernel
theorem dX6_partsAll_95 : decode cX6_partsAll 95 = .ok (.iconst 0, 1) := by decide +kernel
theorem dX6_partsAll_96 : decode cX6_partsAll 96 = .ok (.ireturn, 1) := by decide +kernel
theorem dX6_partsAll_97 : decode cX6_partsAll 97 = .ok (.iinc 3 1, 3) := by decide +kernel
theorem dX6_partsAll_100 : decode cX6_partsAll 100 = .ok (.goto (-86), 3) := by decide +kernel
theorem dX6_partsAll_103 : decode cX6_partsAll 103 = .ok (.iinc 2 1, 3) := by decide +kernel
theorem dX6_partsAll_106 : decode cX6_partsAll 106 = .ok (.goto (-104), 3) := by decide +kernel
theorem dX6_partsAll_109 : decode cX6_partsAll 109 = .ok (.iconst 1, 1) := by decide +kernel
theorem dX6_partsAll_110 : decode cX6_partsAll 110 = .ok (.ireturn, 1) := by decide +kernel
theorem dX6_posts_0 : decode cX6_posts 0 = .ok (.iload_n 1, 1) := by decide +kernel
theorem dX6_posts_1 : decode cX6_posts 1 = .ok (.i2l, 1) := by decide +kernel
theorem dX6_posts_2 : decode cX6_posts 2 = .ok (.lconst 0, 1) := by decide +kernel
theorem dX6_posts_3 : decode cX6_posts 3 = .ok (.lconst 1, 1) := by decide +kernel
theorem dX6_posts_4 : decode cX6_posts 4 = .ok (.invokestatic 92, 3) := by decide +kernel
theorem dX6_posts_7 : decode cX6_posts 7 = .ok (.ifCond .ne 6, 3) := by decide +kernel
theorem dX6_posts_10 : decode cX6_posts 10 = .ok (.bipush (-2), 2) := by decide +kernel
theorem dX6_posts_12 : decode cX6_posts 12 = .ok (.ireturn, 1) := by decide +kernel
theorem dX6_posts_13 : decode cX6_posts 13 = .ok (.iconst 0, 1) := by decide +kernel
theorem dX6_posts_14 : decode cX6_posts 14 = .ok (.istore_n 2, 1) := by decide +kernel
theorem dX6_posts_15 : decode cX6_posts 15 = .ok (.iload_n 2, 1) := by decide +kernel
theorem dX6_posts_16 : decode cX6_posts 16 = .ok (.bipush 11, 2) := by decide +kernel
theorem dX6_posts_18 : decode cX6_posts 18 = .ok (.if_icmp .ge 45, 3) := by decide +kernel
theorem dX6_posts_21 : decode cX6_posts 21 = .ok (.iconst 0, 1) := by decide +kernel
theorem dX6_posts_22 : decode cX6_posts 22 = .ok (.istore_n 3, 1) := by decide +kernel
theorem dX6_posts_23 : decode cX6_posts 23 = .ok (.iload_n 3, 1) := by decide +kernel
theorem dX6_posts_24 : decode cX6_posts 24 = .ok (.aload_n 0, 1) := by decide +kernel
theorem dX6_posts_25 : decode cX6_posts 25 = .ok (.getfield 89, 3) := by decide +kernel
theorem dX6_posts_28 : decode cX6_posts 28 = .ok (.if_icmp .ge 29, 3) := by decide +kernel
theorem dX6_posts_31 : decode cX6_posts 31 = .ok (.aload_n 0, 1) := by decide +kernel
theorem dX6_posts_32 : decode cX6_posts 32 = .ok (.getfield 51, 3) := by decide +kernel
theorem dX6_posts_35 : decode cX6_posts 35 = .ok (.bipush 6, 2) := by decide +kernel
theorem dX6_posts_37 : decode cX6_posts 37 = .ok (.iload_n 2, 1) := by decide +kernel
theorem dX6_posts_38 : decode cX6_posts 38 = .ok (.imul, 1) := by decide +kernel
theorem dX6_posts_39 : decode cX6_posts 39 = .ok (.iload_n 3, 1) := by decide +kernel
theorem dX6_posts_40 : decode cX6_posts 40 = .ok (.iadd, 1) := by decide +kernel
theorem dX6_posts_41 : decode cX6_posts 41 = .ok (.aload_n 0, 1) := by decide +kernel
theorem dX6_posts_42 : decode cX6_posts 42 = .ok (.iload_n 3, 1) := by decide +kernel
theorem dX6_posts_43 : decode cX6_posts 43 = .ok (.bipush 60, 2) := by decide +kernel
theorem dX6_posts_45 : decode cX6_posts 45 = .ok (.iload_n 2, 1) := by decide +kernel
theorem dX6_posts_46 : decode cX6_posts 46 = .ok (.imul, 1) := by decide +kernel
theorem dX6_posts_47 : decode cX6_posts 47 = .ok (.invokevirtual 335, 3) := by decide +kernel
theorem dX6_posts_50 : decode cX6_posts 50 = .ok (.iastore, 1) := by decide +kernel
theorem dX6_posts_51 : decode cX6_posts 51 = .ok (.iinc 3 1, 3) := by decide +kernel
theorem dX6_posts_54 : decode cX6_posts 54 = .ok (.goto (-31), 3) := by decide +kernel
theorem dX6_posts_57 : decode cX6_posts 57 = .ok (.iinc 2 1, 3) := by decide +kernel
theorem dX6_posts_60 : decode cX6_posts 60 = .ok (.goto (-45), 3) := by decide +kernel
theorem dX6_posts_63 : decode cX6_posts 63 = .ok (.iconst (-1), 1) := by decide +kernel
theorem dX6_posts_64 : decode cX6_posts 64 = .ok (.istore_n 2, 1) := by decide +kernel
theorem dX6_posts_65 : decode cX6_posts 65 = .ok (.iconst 0, 1) := by decide +kernel
theorem dX6_posts_66 : decode cX6_posts 66 = .ok (.istore_n 3, 1) := by decide +kernel
theorem dX6_posts_67 : decode cX6_posts 67 = .ok (.iload_n 3, 1) := by decide +kernel
theorem dX6_posts_68 : decode cX6_posts 68 = .ok (.sipush 2048, 3) := by decide +kernel
theorem dX6_posts_71 : decode cX6_posts 71 = .ok (.if_icmp .ge 35, 3) := by decide +kernel
theorem dX6_posts_74 : decode cX6_posts 74 = .ok (.iload_n 2, 1) := by decide +kernel
theorem dX6_posts_75 : decode cX6_posts 75 = .ok (.iconst (-1), 1) := by decide +kernel
theorem dX6_posts_76 : decode cX6_posts 76 = .ok (.if_icmp .eq 14, 3) := by decide +kernel
theorem dX6_posts_79 : decode cX6_posts 79 = .ok (.iload_n 3, 1) := by decide +kernel
theorem dX6_posts_80 : decode cX6_posts 80 = .ok (.invokestatic 397, 3) := by decide +kernel
theorem dX6_posts_83 : decode cX6_posts 83 = .ok (.iload_n 2, 1) := by decide +kernel
theorem dX6_posts_84 : decode cX6_posts 84 = .ok (.invokestatic 397, 3) := by decide +kernel
theorem dX6_posts_87 : decode cX6_posts 87 = .ok (.if_icmp .ge 13, 3) := by decide +kernel
theorem dX6_posts_90 : decode cX6_posts 90 = .ok (.aload_n 0, 1) := by decide +kernel
theorem dX6_posts_91 : decode cX6_posts 91 = .ok (.iload_n 3, 1) := by decide +kernel
theorem dX6_posts_92 : decode cX6_posts 92 = .ok (.invokevirtual 400, 3) := by decide +kernel
theorem dX6_posts_95 : decode cX6_posts 95 = .ok (.ifCond .eq 5, 3) := by decide +kernel
theorem dX6_posts_98 : decode cX6_posts 98 = .ok (.iload_n 3, 1) := by decide +kernel
theorem dX6_posts_99 : decode cX6_posts 99 = .ok (.istore_n 2, 1) := by decide +kernel
theorem dX6_posts_100 : decode cX6_posts 100 = .ok (.iinc 3 1, 3) := by decide +kernel
theorem dX6_posts_103 : decode cX6_posts 103 = .ok (.goto (-36), 3) := by decide +kernel
theorem dX6_posts_106 : decode cX6_posts 106 = .ok (.iload_n 1, 1) := by decide +kernel
theorem dX6_posts_107 : decode cX6_posts 107 = .ok (.ifCond .eq 8, 3) := by decide +kernel
theorem dX6_posts_110 : decode cX6_posts 110 = .ok (.iload_n 2, 1) := by decide +kernel
theorem dX6_posts_111 : decode cX6_posts 111 = .ok (.iconst (-1), 1) := by decide +kernel
theorem dX6_posts_112 : decode cX6_posts 112 = .ok (.if_icmp .ne 7, 3) := by decide +kernel
theorem dX6_posts_115 : decode cX6_posts 115 = .ok (.iload_n 2, 1) := by decide +kernel
theorem dX6_posts_116 : decode cX6_posts 116 = .ok (.goto 7, 3) := by decide +kernel
theorem dX6_posts_119 : decode cX6_posts 119 = .ok (.iload_n 2, 1) := by decide +kernel
theorem dX6_posts_120 : decode cX6_posts 120 = .ok (.invokestatic 397, 3) := by decide +kernel
theorem dX6_posts_123 : decode cX6_posts 123 = .ok (.ireturn, 1) := by decide +kernel
theorem dX6_ringBad_0 : decode cX6_ringBad 0 = .ok (.iload_n 1, 1) := by decide +kernel
theorem dX6_ringBad_1 : decode cX6_ringBad 1 = .ok (.invokestatic 385, 3) := by decide +kernel
theorem dX6_ringBad_4 : decode cX6_ringBad 4 = .ok (.ifCond .ne 6, 3) := by decide +kernel
theorem dX6_ringBad_7 : decode cX6_ringBad 7 = .ok (.bipush (-2), 2) := by decide +kernel
theorem dX6_ringBad_9 : decode cX6_ringBad 9 = .ok (.ireturn, 1) := by decide +kernel
theorem dX6_ringBad_10 : decode cX6_ringBad 10 = .ok (.aload_n 0, 1) := by decide +kernel
theorem dX6_ringBad_11 : decode cX6_ringBad 11 = .ok (.getfield 69, 3) := by decide +kernel
theorem dX6_ringBad_14 : decode cX6_ringBad 14 = .ok (.iload_n 1, 1) := by decide +kernel
theorem dX6_ringBad_15 : decode cX6_ringBad 15 = .ok (.baload, 1) := by decide +kernel
theorem dX6_ringBad_16 : decode cX6_ringBad 16 = .ok (.ifCond .ne 6, 3) := by decide +kernel
theorem dX6_ringBad_19 : decode cX6_ringBad 19 = .ok (.bipush (-11), 2) := by decide +kernel
theorem dX6_ringBad_21 : decode cX6_ringBad 21 = .ok (.ireturn, 1) := by decide +kernel
theorem dX6_ringBad_22 : decode cX6_ringBad 22 = .ok (.aload_n 0, 1) := by decide +kernel
theorem dX6_ringBad_23 : decode cX6_ringBad 23 = .ok (.getfield 76, 3) := by decide +kernel
theorem dX6_ringBad_26 : decode cX6_ringBad 26 = .ok (.iload_n 1, 1) := by decide +kernel
theorem dX6_ringBad_27 : decode cX6_ringBad 27 = .ok (.iaload, 1) := by decide +kernel
theorem dX6_ringBad_28 : decode cX6_ringBad 28 = .ok (.iconst 2, 1) := by decide +kernel
theorem dX6_ringBad_29 : decode cX6_ringBad 29 = .ok (.irem, 1) := by decide +kernel
theorem dX6_ringBad_30 : decode cX6_ringBad 30 = .ok (.ifCond .ne 7, 3) := by decide +kernel
theorem dX6_ringBad_33 : decode cX6_ringBad 33 = .ok (.iconst 0, 1) := by decide +kernel
theorem dX6_ringBad_34 : decode cX6_ringBad 34 = .ok (.goto 5, 3) := by decide +kernel
theorem dX6_ringBad_37 : decode cX6_ringBad 37 = .ok (.bipush (-2), 2) := by decide +kernel
theorem dX6_ringBad_39 : decode cX6_ringBad 39 = .ok (.ireturn, 1) := by decide +kernel
theorem dX6_ring_0 : decode cX6_ring 0 = .ok (.aload_n 0, 1) := by decide +kernel
theorem dX6_ring_1 : decode cX6_ring 1 = .ok (.getfield 79, 3) := by decide +kernel
theorem dX6_ring_4 : decode cX6_ring 4 = .ok (.bipush 40, 2) := by decide +kernel
theorem dX6_ring_6 : decode cX6_ring 6 = .ok (.iload_n 1, 1) := by decide +kernel
theorem dX6_ring_7 : decode cX6_ring 7 = .ok (.imul, 1) := by decide +kernel
theorem dX6_ring_8 : decode cX6_ring 8 = .ok (.iload_n 2, 1) := by decide +kernel
theorem dX6_ring_9 : decode cX6_ring 9 = .ok (.aload_n 0, 1) := by decide +kernel
theorem dX6_ring_10 : decode cX6_ring 10 = .ok (.getfield 76, 3) := by decide +kernel
theorem dX6_ring_13 : decode cX6_ring 13 = .ok (.iload_n 1, 1) := by decide +kernel
theorem dX6_ring_14 : decode cX6_ring 14 = .ok (.iaload, 1) := by decide +kernel
theorem dX6_ring_15 : decode cX6_ring 15 = .ok (.irem, 1) := by decide +kernel
theorem dX6_ring_16 : decode cX6_ring 16 = .ok (.iadd, 1) := by decide +kernel
theorem dX6_ring_17 : decode cX6_ring 17 = .ok (.iaload, 1) := by decide +kernel
theorem dX6_ring_18 : decode cX6_ring 18 = .ok (.ireturn, 1) := by decide +kernel
theorem dX6_beads_0 : decode cX6_beads 0 = .ok (.aload_n 0, 1) := by decide +kernel
theorem dX6_beads_1 : decode cX6_beads 1 = .ok (.iload_n 1, 1) := by decide +kernel
theorem dX6_beads_2 : decode cX6_beads 2 = .ok (.invokevirtual 403, 3) := by decide +kernel
theorem dX6_beads_5 : decode cX6_beads 5 = .ok (.istore_n 2, 1) := by decide +kernel
theorem dX6_beads_6 : decode cX6_beads 6 = .ok (.iload_n 2, 1) := by decide +kernel
theorem dX6_beads_7 : decode cX6_beads 7 = .ok (.ifCond .eq 5, 3) := by decide +kernel
theorem dX6_beads_10 : decode cX6_beads 10 = .ok (.iload_n 2, 1) := by decide +kernel
theorem dX6_beads_11 : decode cX6_beads 11 = .ok (.ireturn, 1) := by decide +kernel
theorem dX6_beads_12 : decode cX6_beads 12 = .ok (.aload_n 0, 1) := by decide +kernel
theorem dX6_beads_13 : decode cX6_beads 13 = .ok (.getfield 76, 3) := by decide +kernel
theorem dX6_beads_16 : decode cX6_beads 16 = .ok (.iload_n 1, 1) := by decide +kernel
theorem dX6_beads_17 : decode cX6_beads 17 = .ok (.iaload, 1) := by decide +kernel
theorem dX6_beads_18 : decode cX6_beads 18 = .ok (.istore_n 3, 1) := by decide +kernel
theorem dX6_beads_19 : decode cX6_beads 19 = .ok (.iconst 0, 1) := by decide +kernel
theorem dX6_beads_20 : decode cX6_beads 20 = .ok (.istore 4, 2) := by decide +kernel
theorem dX6_beads_22 : decode cX6_beads 22 = .ok (.iconst 0, 1) := by decide +kernel
theorem dX6_beads_23 : decode cX6_beads 23 = .ok (.istore 5, 2) := by decide +kernel
theorem dX6_beads_25 : decode cX6_beads 25 = .ok (.iload 5, 2) := by decide +kernel
theorem dX6_beads_27 : decode cX6_beads 27 = .ok (.iload_n 3, 1) := by decide +kernel
theorem dX6_beads_28 : decode cX6_beads 28 = .ok (.if_icmp .ge 29, 3) := by decide +kernel
theorem dX6_beads_31 : decode cX6_beads 31 = .ok (.iload 4, 2) := by decide +kernel
theorem dX6_beads_33 : decode cX6_beads 33 = .ok (.aload_n 0, 1) := by decide +kernel
theorem dX6_beads_34 : decode cX6_beads 34 = .ok (.iload_n 1, 1) := by decide +kernel
theorem dX6_beads_35 : decode cX6_beads 35 = .ok (.iload 5, 2) := by decide +kernel
theorem dX6_beads_37 : decode cX6_beads 37 = .ok (.invokevirtual 406, 3) := by decide +kernel
theorem dX6_beads_40 : decode cX6_beads 40 = .ok (.ifCond .eq 7, 3) := by decide +kernel
theorem dX6_beads_43 : decode cX6_beads 43 = .ok (.iconst 1, 1) := by decide +kernel
theorem dX6_beads_44 : decode cX6_beads 44 = .ok (.goto 4, 3) := by decide +kernel
theorem dX6_beads_47 : decode cX6_beads 47 = .ok (.iconst 0, 1) := by decide +kernel
theorem dX6_beads_48 : decode cX6_beads 48 = .ok (.iadd, 1) := by decide +kernel
theorem dX6_beads_49 : decode cX6_beads 49 = .ok (.istore 4, 2) := by decide +kernel
theorem dX6_beads_51 : decode cX6_beads 51 = .ok (.iinc 5 1, 3) := by decide +kernel
theorem dX6_beads_54 : decode cX6_beads 54 = .ok (.goto (-29), 3) := by decide +kernel
theorem dX6_beads_57 : decode cX6_beads 57 = .ok (.iconst 0, 1) := by decide +kernel
theorem dX6_beads_58 : decode cX6_beads 58 = .ok (.istore 5, 2) := by decide +kernel
theorem dX6_beads_60 : decode cX6_beads 60 = .ok (.iload 5, 2) := by decide +kernel
theorem dX6_beads_62 : decode cX6_beads 62 = .ok (.iload_n 3, 1) := by decide +kernel
theorem dX6_beads_63 : decode cX6_beads 63 = .ok (.if_icmp .ge 64, 3) := by decide +kernel
theorem dX6_beads_66 : decode cX6_beads 66 = .ok (.iconst 0, 1) := by decide +kernel
theorem dX6_beads_67 : decode cX6_beads 67 = .ok (.istore 6, 2) := by decide +kernel
theorem dX6_beads_69 : decode cX6_beads 69 = .ok (.iconst 0, 1) := by decide +kernel
theorem dX6_beads_70 : decode cX6_beads 70 = .ok (.istore 7, 2) := by decide +kernel
theorem dX6_beads_72 : decode cX6_beads 72 = .ok (.iload 7, 2) := by decide +kernel
theorem dX6_beads_74 : decode cX6_beads 74 = .ok (.iload_n 3, 1) := by decide +kernel
theorem dX6_beads_75 : decode cX6_beads 75 = .ok (.iconst 2, 1) := by decide +kernel
theorem dX6_beads_76 : decode cX6_beads 76 = .ok (.idiv, 1) := by decide +kernel
theorem dX6_beads_77 : decode cX6_beads 77 = .ok (.if_icmp .ge 32, 3) := by decide +kernel
theorem dX6_beads_80 : decode cX6_beads 80 = .ok (.iload 6, 2) := by decide +kernel
theorem dX6_beads_82 : decode cX6_beads 82 = .ok (.aload_n 0, 1) := by decide +kernel
theorem dX6_beads_83 : decode cX6_beads 83 = .ok (.iload_n 1, 1) := by decide +kernel
theorem dX6_beads_84 : decode cX6_beads 84 = .ok (.iload 5, 2) := by decide +kernel
theorem dX6_beads_86 : decode cX6_beads 86 = .ok (.iload 7, 2) := by decide +kernel
theorem dX6_beads_88 : decode cX6_beads 88 = .ok (.iadd, 1) := by decide +kernel
theorem dX6_beads_89 : decode cX6_beads 89 = .ok (.invokevirtual 406, 3) := by decide +kernel
theorem dX6_beads_92 : decode cX6_beads 92 = .ok (.ifCond .eq 7, 3) := by decide +kernel
theorem dX6_beads_95 : decode cX6_beads 95 = .ok (.iconst 1, 1) := by decide +kernel
theorem dX6_beads_96 : decode cX6_beads 96 = .ok (.goto 4, 3) := by decide +kernel
theorem dX6_beads_99 : decode cX6_beads 99 = .ok (.iconst 0, 1) := by decide +kernel
theorem dX6_beads_100 : decode cX6_beads 100 = .ok (.iadd, 1) := by decide +kernel
theorem dX6_beads_101 : decode cX6_beads 101 = .ok (.istore 6, 2) := by decide +kernel
theorem dX6_beads_103 : decode cX6_beads 103 = .ok (.iinc 7 1, 3) := by decide +kernel
theorem dX6_beads_106 : decode cX6_beads 106 = .ok (.goto (-34), 3) := by decide +kernel
theorem dX6_beads_109 : decode cX6_beads 109 = .ok (.iload 6, 2) := by decide +kernel
theorem dX6_beads_111 : decode cX6_beads 111 = .ok (.iload 4, 2) := by decide +kernel
theorem dX6_beads_113 : decode cX6_beads 113 = .ok (.iconst 2, 1) := by decide +kernel
theorem dX6_beads_114 : decode cX6_beads 114 = .ok (.idiv, 1) := by decide +kernel
theorem dX6_beads_115 : decode cX6_beads 115 = .ok (.if_icmp .ne 6, 3) := by decide +kernel
theorem dX6_beads_118 : decode cX6_beads 118 = .ok (.iload 5, 2) := by decide +kernel
theorem dX6_beads_120 : decode cX6_beads 120 = .ok (.ireturn, 1) := by decide +kernel
theorem dX6_beads_121 : decode cX6_beads 121 = .ok (.iinc 5 1, 3) := by decide +kernel
theorem dX6_beads_124 : decode cX6_beads 124 = .ok (.goto (-64), 3) := by decide +kernel
theorem dX6_beads_127 : decode cX6_beads 127 = .ok (.iconst (-1), 1) := by decide +kernel
theorem dX6_beads_128 : decode cX6_beads 128 = .ok (.ireturn, 1) := by decide +kernel
theorem dX6_across_0 : decode cX6_across 0 = .ok (.aload_n 0, 1) := by decide +kernel
theorem dX6_across_1 : decode cX6_across 1 = .ok (.iload_n 1, 1) := by decide +kernel
theorem dX6_across_2 : decode cX6_across 2 = .ok (.iload_n 2, 1) := by decide +kernel
theorem dX6_across_3 : decode cX6_across 3 = .ok (.invokevirtual 406, 3) := by decide +kernel
theorem dX6_across_6 : decode cX6_across 6 = .ok (.i2l, 1) := by decide +kernel
theorem dX6_across_7 : decode cX6_across 7 = .ok (.aload_n 0, 1) := by decide +kernel
theorem dX6_across_8 : decode cX6_across 8 = .ok (.iload_n 1, 1) := by decide +kernel
theorem dX6_across_9 : decode cX6_across 9 = .ok (.iload_n 2, 1) := by decide +kernel
theorem dX6_across_10 : decode cX6_across 10 = .ok (.aload_n 0, 1) := by decide +kernel
theorem dX6_across_11 : decode cX6_across 11 = .ok (.getfield 76, 3) := by decide +kernel
theorem dX6_across_14 : decode cX6_across 14 = .ok (.iload_n 1, 1) := by decide +kernel
theorem dX6_across_15 : decode cX6_across 15 = .ok (.iaload, 1) := by decide +kernel
theorem dX6_across_16 : decode cX6_across 16 = .ok (.iconst 2, 1) := by decide +kernel
theorem dX6_across_17 : decode cX6_across 17 = .ok (.idiv, 1) := by decide +kernel
theorem dX6_across_18 : decode cX6_across 18 = .ok (.iadd, 1) := by decide +kernel
theorem dX6_across_19 : decode cX6_across 19 = .ok (.invokevirtual 406, 3) := by decide +kernel
theorem dX6_across_22 : decode cX6_across 22 = .ok (.i2l, 1) := by decide +kernel
theorem dX6_across_23 : decode cX6_across 23 = .ok (.lsub, 1) := by decide +kernel
theorem dX6_across_24 : decode cX6_across 24 = .ok (.lreturn, 1) := by decide +kernel
theorem dX6_heat_0 : decode cX6_heat 0 = .ok (.aload_n 0, 1) := by decide +kernel
theorem dX6_heat_1 : decode cX6_heat 1 = .ok (.iload_n 1, 1) := by decide +kernel
theorem dX6_heat_2 : decode cX6_heat 2 = .ok (.invokevirtual 403, 3) := by decide +kernel
theorem dX6_heat_5 : decode cX6_heat 5 = .ok (.istore_n 2, 1) := by decide +kernel
theorem dX6_heat_6 : decode cX6_heat 6 = .ok (.iload_n 2, 1) := by decide +kernel
theorem dX6_heat_7 : decode cX6_heat 7 = .ok (.ifCond .ne 12, 3) := by decide +kernel
theorem dX6_heat_10 : decode cX6_heat 10 = .ok (.aload_n 0, 1) := by decide +kernel
theorem dX6_heat_11 : decode cX6_heat 11 = .ok (.getfield 76, 3) := by decide +kernel
theorem dX6_heat_14 : decode cX6_heat 14 = .ok (.iload_n 1, 1) := by decide +kernel
theorem dX6_heat_15 : decode cX6_heat 15 = .ok (.iaload, 1) := by decide +kernel
theorem dX6_heat_16 : decode cX6_heat 16 = .ok (.ifCond .ne 14, 3) := by decide +kernel
theorem dX6_heat_19 : decode cX6_heat 19 = .ok (.iload_n 2, 1) := by decide +kernel
theorem dX6_heat_20 : decode cX6_heat 20 = .ok (.ifCond .eq 7, 3) := by decide +kernel
theorem dX6_heat_23 : decode cX6_heat 23 = .ok (.iload_n 2, 1) := by decide +kernel
theorem dX6_heat_24 : decode cX6_heat 24 = .ok (.goto 5, 3) := by decide +kernel
theorem dX6_heat_27 : decode cX6_heat 27 = .ok (.bipush (-2), 2) := by decide +kernel
theorem dX6_heat_29 : decode cX6_heat 29 = .ok (.ireturn, 1) := by decide +kernel
theorem dX6_heat_30 : decode cX6_heat 30 = .ok (.iconst 0, 1) := by decide +kernel
theorem dX6_heat_31 : decode cX6_heat 31 = .ok (.istore_n 3, 1) := by decide +kernel
theorem dX6_heat_32 : decode cX6_heat 32 = .ok (.aload_n 0, 1) := by decide +kernel
theorem dX6_heat_33 : decode cX6_heat 33 = .ok (.iload_n 1, 1) := by decide +kernel
theorem dX6_heat_34 : decode cX6_heat 34 = .ok (.iload_n 3, 1) := by decide +kernel
theorem dX6_heat_35 : decode cX6_heat 35 = .ok (.invokevirtual 409, 3) := by decide +kernel
theorem dX6_heat_38 : decode cX6_heat 38 = .ok (.lconst 0, 1) := by decide +kernel
theorem dX6_heat_39 : decode cX6_heat 39 = .ok (.lcmp, 1) := by decide +kernel
theorem dX6_heat_40 : decode cX6_heat 40 = .ok (.ifCond .eq 29, 3) := by decide +kernel
theorem dX6_heat_43 : decode cX6_heat 43 = .ok (.aload_n 0, 1) := by decide +kernel
theorem dX6_heat_44 : decode cX6_heat 44 = .ok (.iload_n 1, 1) := by decide +kernel
theorem dX6_heat_45 : decode cX6_heat 45 = .ok (.iload_n 3, 1) := by decide +kernel
theorem dX6_heat_46 : decode cX6_heat 46 = .ok (.invokevirtual 409, 3) := by decide +kernel
theorem dX6_heat_49 : decode cX6_heat 49 = .ok (.aload_n 0, 1) := by decide +kernel
theorem dX6_heat_50 : decode cX6_heat 50 = .ok (.iload_n 1, 1) := by decide +kernel
theorem dX6_heat_51 : decode cX6_heat 51 = .ok (.iload_n 3, 1) := by decide +kernel
theorem dX6_heat_52 : decode cX6_heat 52 = .ok (.iconst 1, 1) := by decide +kernel
theorem dX6_heat_53 : decode cX6_heat 53 = .ok (.iadd, 1) := by decide +kernel
theorem dX6_heat_54 : decode cX6_heat 54 = .ok (.invokevirtual 409, 3) := by decide +kernel
theorem dX6_heat_57 : decode cX6_heat 57 = .ok (.invokestatic 357, 3) := by decide +kernel
theorem dX6_heat_60 : decode cX6_heat 60 = .ok (.ifCond .ne 9, 3) := by decide +kernel
theorem dX6_heat_63 : decode cX6_heat 63 = .ok (.iinc 3 1, 3) := by decide +kernel
theorem dX6_heat_66 : decode cX6_heat 66 = .ok (.goto (-34), 3) := by decide +kernel
theorem dX6_heat_69 : decode cX6_heat 69 = .ok (.iload_n 3, 1) := by decide +kernel
theorem dX6_heat_70 : decode cX6_heat 70 = .ok (.ireturn, 1) := by decide +kernel
theorem dX6_draws_0 : decode cX6_draws 0 = .ok (.iload_n 1, 1) := by decide +kernel
theorem dX6_draws_1 : decode cX6_draws 1 = .ok (.istore 4, 2) := by decide +kernel
theorem dX6_draws_3 : decode cX6_draws 3 = .ok (.aload_n 0, 1) := by decide +kernel
theorem dX6_draws_4 : decode cX6_draws 4 = .ok (.getfield 38, 3) := by decide +kernel
theorem dX6_draws_7 : decode cX6_draws 7 = .ok (.bipush 6, 2) := by decide +kernel
theorem dX6_draws_9 : decode cX6_draws 9 = .ok (.iload_n 2, 1) := by decide +kernel
theorem dX6_draws_10 : decode cX6_draws 10 = .ok (.iastore, 1) := by decide +kernel
theorem dX6_draws_11 : decode cX6_draws 11 = .ok (.iconst 0, 1) := by decide +kernel
theorem dX6_draws_12 : decode cX6_draws 12 = .ok (.istore 5, 2) := by decide +kernel
theorem dX6_draws_14 : decode cX6_draws 14 = .ok (.iload 5, 2) := by decide +kernel
theorem dX6_draws_16 : decode cX6_draws 16 = .ok (.iload_n 2, 1) := by decide +kernel
theorem dX6_draws_17 : decode cX6_draws 17 = .ok (.if_icmp .ge 61, 3) := by decide +kernel
theorem dX6_draws_20 : decode cX6_draws 20 = .ok (.iload 4, 2) := by decide +kernel
theorem dX6_draws_22 : decode cX6_draws 22 = .ok (.ldc_w 412, 3) := by decide +kernel
theorem dX6_draws_25 : decode cX6_draws 25 = .ok (.imul, 1) := by decide +kernel
theorem dX6_draws_26 : decode cX6_draws 26 = .ok (.sipush 12345, 3) := by decide +kernel
theorem dX6_draws_29 : decode cX6_draws 29 = .ok (.iadd, 1) := by decide +kernel
theorem dX6_draws_30 : decode cX6_draws 30 = .ok (.istore 4, 2) := by decide +kernel
theorem dX6_draws_32 : decode cX6_draws 32 = .ok (.aload_n 0, 1) := by decide +kernel
theorem dX6_draws_33 : decode cX6_draws 33 = .ok (.getfield 32, 3) := by decide +kernel
theorem dX6_draws_36 : decode cX6_draws 36 = .ok (.bipush 48, 2) := by decide +kernel
theorem dX6_draws_38 : decode cX6_draws 38 = .ok (.iload 5, 2) := by decide +kernel
theorem dX6_draws_40 : decode cX6_draws 40 = .ok (.iadd, 1) := by decide +kernel
theorem dX6_draws_41 : decode cX6_draws 41 = .ok (.sipush 600, 3) := by decide +kernel
theorem dX6_draws_44 : decode cX6_draws 44 = .ok (.iload 5, 2) := by decide +kernel
theorem dX6_draws_46 : decode cX6_draws 46 = .ok (.imul, 1) := by decide +kernel
theorem dX6_draws_47 : decode cX6_draws 47 = .ok (.iload_n 2, 1) := by decide +kernel
theorem dX6_draws_48 : decode cX6_draws 48 = .ok (.idiv, 1) := by decide +kernel
theorem dX6_draws_49 : decode cX6_draws 49 = .ok (.iastore, 1) := by decide +kernel
theorem dX6_draws_50 : decode cX6_draws 50 = .ok (.aload_n 0, 1) := by decide +kernel
theorem dX6_draws_51 : decode cX6_draws 51 = .ok (.getfield 35, 3) := by decide +kernel
theorem dX6_draws_54 : decode cX6_draws 54 = .ok (.bipush 48, 2) := by decide +kernel
theorem dX6_draws_56 : decode cX6_draws 56 = .ok (.iload 5, 2) := by decide +kernel
theorem dX6_draws_58 : decode cX6_draws 58 = .ok (.iadd, 1) := by decide +kernel
theorem dX6_draws_59 : decode cX6_draws 59 = .ok (.iload 4, 2) := by decide +kernel
theorem dX6_draws_61 : decode cX6_draws 61 = .ok (.bipush 9, 2) := by decide +kernel
theorem dX6_draws_63 : decode cX6_draws 63 = .ok (.iushr, 1) := by decide +kernel
theorem dX6_draws_64 : decode cX6_draws 64 = .ok (.aload_n 0, 1) := by decide +kernel
theorem dX6_draws_65 : decode cX6_draws 65 = .ok (.getfield 23, 3) := by decide +kernel
theorem dX6_draws_68 : decode cX6_draws 68 = .ok (.iconst 1, 1) := by decide +kernel
theorem dX6_draws_69 : decode cX6_draws 69 = .ok (.iadd, 1) := by decide +kernel
theorem dX6_draws_70 : decode cX6_draws 70 = .ok (.irem, 1) := by decide +kernel
theorem dX6_draws_71 : decode cX6_draws 71 = .ok (.iastore, 1) := by decide +kernel
theorem dX6_draws_72 : decode cX6_draws 72 = .ok (.iinc 5 1, 3) := by decide +kernel
theorem dX6_draws_75 : decode cX6_draws 75 = .ok (.goto (-61), 3) := by decide +kernel
theorem dX6_draws_78 : decode cX6_draws 78 = .ok (.aload_n 0, 1) := by decide +kernel
theorem dX6_draws_79 : decode cX6_draws 79 = .ok (.iload_n 3, 1) := by decide +kernel
theorem dX6_draws_80 : decode cX6_draws 80 = .ok (.bipush 6, 2) := by decide +kernel
theorem dX6_draws_82 : decode cX6_draws 82 = .ok (.invokevirtual 372, 3) := by decide +kernel
theorem dX6_draws_85 : decode cX6_draws 85 = .ok (.aload_n 0, 1) := by decide +kernel
theorem dX6_draws_86 : decode cX6_draws 86 = .ok (.iconst 0, 1) := by decide +kernel
theorem dX6_draws_87 : decode cX6_draws 87 = .ok (.invokevirtual 376, 3) := by decide +kernel
theorem dX6_draws_90 : decode cX6_draws 90 = .ok (.ireturn, 1) := by decide +kernel
theorem dX6_drawn_0 : decode cX6_drawn 0 = .ok (.iload_n 2, 1) := by decide +kernel
theorem dX6_drawn_1 : decode cX6_drawn 1 = .ok (.i2l, 1) := by decide +kernel
theorem dX6_drawn_2 : decode cX6_drawn 2 = .ok (.lconst 1, 1) := by decide +kernel
theorem dX6_drawn_3 : decode cX6_drawn 3 = .ok (.ldc2_w 413, 3) := by decide +kernel
theorem dX6_drawn_6 : decode cX6_drawn 6 = .ok (.invokestatic 92, 3) := by decide +kernel
theorem dX6_drawn_9 : decode cX6_drawn 9 = .ok (.ifCond .eq 21, 3) := by decide +kernel
theorem dX6_drawn_12 : decode cX6_drawn 12 = .ok (.aload_n 0, 1) := by decide +kernel
theorem dX6_drawn_13 : decode cX6_drawn 13 = .ok (.iload_n 3, 1) := by decide +kernel
theorem dX6_drawn_14 : decode cX6_drawn 14 = .ok (.invokevirtual 96, 3) := by decide +kernel
theorem dX6_drawn_17 : decode cX6_drawn 17 = .ok (.ifCond .eq 13, 3) := by decide +kernel
theorem dX6_drawn_20 : decode cX6_drawn 20 = .ok (.aload_n 0, 1) := by decide +kernel
theorem dX6_drawn_21 : decode cX6_drawn 21 = .ok (.iload_n 1, 1) := by decide +kernel
theorem dX6_drawn_22 : decode cX6_drawn 22 = .ok (.iload_n 2, 1) := by decide +kernel
theorem dX6_drawn_23 : decode cX6_drawn 23 = .ok (.iload_n 3, 1) := by decide +kernel
theorem dX6_drawn_24 : decode cX6_drawn 24 = .ok (.invokevirtual 415, 3) := by decide +kernel
theorem dX6_drawn_27 : decode cX6_drawn 27 = .ok (.goto 5, 3) := by decide +kernel
theorem dX6_drawn_30 : decode cX6_drawn 30 = .ok (.bipush (-2), 2) := by decide +kernel
theorem dX6_drawn_32 : decode cX6_drawn 32 = .ok (.ireturn, 1) := by decide +kernel
theorem dX6_chance_0 : decode cX6_chance 0 = .ok (.iload_n 2, 1) := by decide +kernel
theorem dX6_chance_1 : decode cX6_chance 1 = .ok (.i2l, 1) := by decide +kernel
theorem dX6_chance_2 : decode cX6_chance 2 = .ok (.lconst 1, 1) := by decide +kernel
theorem dX6_chance_3 : decode cX6_chance 3 = .ok (.ldc2_w 418, 3) := by decide +kernel
theorem dX6_chance_6 : decode cX6_chance 6 = .ok (.invokestatic 92, 3) := by decide +kernel
theorem dX6_chance_9 : decode cX6_chance 9 = .ok (.ifCond .eq 22, 3) := by decide +kernel
theorem dX6_chance_12 : decode cX6_chance 12 = .ok (.aload_n 0, 1) := by decide +kernel
theorem dX6_chance_13 : decode cX6_chance 13 = .ok (.iload_n 3, 1) := by decide +kernel
theorem dX6_chance_14 : decode cX6_chance 14 = .ok (.invokevirtual 96, 3) := by decide +kernel
theorem dX6_chance_17 : decode cX6_chance 17 = .ok (.ifCond .eq 14, 3) := by decide +kernel
theorem dX6_chance_20 : decode cX6_chance 20 = .ok (.iload 4, 2) := by decide +kernel
theorem dX6_chance_22 : decode cX6_chance 22 = .ok (.i2l, 1) := by decide +kernel
theorem dX6_chance_23 : decode cX6_chance 23 = .ok (.lconst 0, 1) := by decide +kernel
theorem dX6_chance_24 : decode cX6_chance 24 = .ok (.lconst 1, 1) := by decide +kernel
theorem dX6_chance_25 : decode cX6_chance 25 = .ok (.invokestatic 92, 3) := by decide +kernel
theorem dX6_chance_28 : decode cX6_chance 28 = .ok (.ifCond .ne 7, 3) := by decide +kernel
theorem dX6_chance_31 : decode cX6_chance 31 = .ok (.ldc2_w 379, 3) := by decide +kernel
theorem dX6_chance_34 : decode cX6_chance 34 = .ok (.lreturn, 1) := by decide +kernel
theorem dX6_chance_35 : decode cX6_chance 35 = .ok (.lconst 0, 1) := by decide +kernel
theorem dX6_chance_36 : decode cX6_chance 36 = .ok (.lstore 5, 2) := by decide +kernel
theorem dX6_chance_38 : decode cX6_chance 38 = .ok (.iconst 0, 1) := by decide +kernel
theorem dX6_chance_39 : decode cX6_chance 39 = .ok (.istore 7, 2) := by decide +kernel
theorem dX6_chance_41 : decode cX6_chance 41 = .ok (.iload 7, 2) := by decide +kernel
theorem dX6_chance_43 : decode cX6_chance 43 = .ok (.iload_n 2, 1) := by decide +kernel
theorem dX6_chance_44 : decode cX6_chance 44 = .ok (.if_icmp .ge 33, 3) := by decide +kernel
theorem dX6_chance_47 : decode cX6_chance 47 = .ok (.lload 5, 2) := by decide +kernel
theorem dX6_chance_49 : decode cX6_chance 49 = .ok (.aload_n 0, 1) := by decide +kernel
theorem dX6_chance_50 : decode cX6_chance 50 = .ok (.iload_n 1, 1) := by decide +kernel
theorem dX6_chance_51 : decode cX6_chance 51 = .ok (.iload 7, 2) := by decide +kernel
theorem dX6_chance_53 : decode cX6_chance 53 = .ok (.iadd, 1) := by decide +kernel
theorem dX6_chance_54 : decode cX6_chance 54 = .ok (.iconst 4, 1) := by decide +kernel
theorem dX6_chance_55 : decode cX6_chance 55 = .ok (.iload_n 3, 1) := by decide +kernel
theorem dX6_chance_56 : decode cX6_chance 56 = .ok (.invokevirtual 415, 3) := by decide +kernel
theorem dX6_chance_59 : decode cX6_chance 59 = .ok (.iconst (-1), 1) := by decide +kernel
theorem dX6_chance_60 : decode cX6_chance 60 = .ok (.if_icmp .eq 7, 3) := by decide +kernel
theorem dX6_chance_63 : decode cX6_chance 63 = .ok (.lconst 1, 1) := by decide +kernel
theorem dX6_chance_64 : decode cX6_chance 64 = .ok (.goto 4, 3) := by decide +kernel
theorem dX6_chance_67 : decode cX6_chance 67 = .ok (.lconst 0, 1) := by decide +kernel
theorem dX6_chance_68 : decode cX6_chance 68 = .ok (.ladd, 1) := by decide +kernel
theorem dX6_chance_69 : decode cX6_chance 69 = .ok (.lstore 5, 2) := by decide +kernel
theorem dX6_chance_71 : decode cX6_chance 71 = .ok (.iinc 7 1, 3) := by decide +kernel
theorem dX6_chance_74 : decode cX6_chance 74 = .ok (.goto (-33), 3) := by decide +kernel
theorem dX6_chance_77 : decode cX6_chance 77 = .ok (.lload 5, 2) := by decide +kernel
theorem dX6_chance_79 : decode cX6_chance 79 = .ok (.iload_n 2, 1) := by decide +kernel
theorem dX6_chance_80 : decode cX6_chance 80 = .ok (.i2l, 1) := by decide +kernel
theorem dX6_chance_81 : decode cX6_chance 81 = .ok (.iload 4, 2) := by decide +kernel
theorem dX6_chance_83 : decode cX6_chance 83 = .ok (.invokestatic 381, 3) := by decide +kernel
theorem dX6_chance_86 : decode cX6_chance 86 = .ok (.lreturn, 1) := by decide +kernel
theorem dX6_image_0 : decode cX6_image 0 = .ok (.iconst 0, 1) := by decide +kernel
theorem dX6_image_1 : decode cX6_image 1 = .ok (.istore_n 1, 1) := by decide +kernel
theorem dX6_image_2 : decode cX6_image 2 = .ok (.iload_n 1, 1) := by decide +kernel
theorem dX6_image_3 : decode cX6_image 3 = .ok (.bipush 48, 2) := by decide +kernel
theorem dX6_image_5 : decode cX6_image 5 = .ok (.if_icmp .ge 33, 3) := by decide +kernel
theorem dX6_image_8 : decode cX6_image 8 = .ok (.aload_n 0, 1) := by decide +kernel
theorem dX6_image_9 : decode cX6_image 9 = .ok (.getfield 57, 3) := by decide +kernel
theorem dX6_image_12 : decode cX6_image 12 = .ok (.iload_n 1, 1) := by decide +kernel
theorem dX6_image_13 : decode cX6_image 13 = .ok (.aload_n 0, 1) := by decide +kernel
theorem dX6_image_14 : decode cX6_image 14 = .ok (.getfield 32, 3) := by decide +kernel
theorem dX6_image_17 : decode cX6_image 17 = .ok (.iload_n 1, 1) := by decide +kernel
theorem dX6_image_18 : decode cX6_image 18 = .ok (.iaload, 1) := by decide +kernel
theorem dX6_image_19 : decode cX6_image 19 = .ok (.iastore, 1) := by decide +kernel
theorem dX6_image_20 : decode cX6_image 20 = .ok (.aload_n 0, 1) := by decide +kernel
theorem dX6_image_21 : decode cX6_image 21 = .ok (.getfield 60, 3) := by decide +kernel
theorem dX6_image_24 : decode cX6_image 24 = .ok (.iload_n 1, 1) := by decide +kernel
theorem dX6_image_25 : decode cX6_image 25 = .ok (.aload_n 0, 1) := by decide +kernel
theorem dX6_image_26 : decode cX6_image 26 = .ok (.getfield 35, 3) := by decide +kernel
theorem dX6_image_29 : decode cX6_image 29 = .ok (.iload_n 1, 1) := by decide +kernel
theorem dX6_image_30 : decode cX6_image 30 = .ok (.iaload, 1) := by decide +kernel
theorem dX6_image_31 : decode cX6_image 31 = .ok (.iastore, 1) := by decide +kernel
theorem dX6_image_32 : decode cX6_image 32 = .ok (.iinc 1 1, 3) := by decide +kernel
theorem dX6_image_35 : decode cX6_image 35 = .ok (.goto (-33), 3) := by decide +kernel
theorem dX6_image_38 : decode cX6_image 38 = .ok (.iconst 0, 1) := by decide +kernel
theorem dX6_image_39 : decode cX6_image 39 = .ok (.istore_n 1, 1) := by decide +kernel
theorem dX6_image_40 : decode cX6_image 40 = .ok (.iload_n 1, 1) := by decide +kernel
theorem dX6_image_41 : decode cX6_image 41 = .ok (.bipush 6, 2) := by decide +kernel
theorem dX6_image_43 : decode cX6_image 43 = .ok (.if_icmp .ge 33, 3) := by decide +kernel
theorem dX6_image_46 : decode cX6_image 46 = .ok (.aload_n 0, 1) := by decide +kernel
theorem dX6_image_47 : decode cX6_image 47 = .ok (.getfield 54, 3) := by decide +kernel
theorem dX6_image_50 : decode cX6_image 50 = .ok (.iload_n 1, 1) := by decide +kernel
theorem dX6_image_51 : decode cX6_image 51 = .ok (.aload_n 0, 1) := by decide +kernel
theorem dX6_image_52 : decode cX6_image 52 = .ok (.getfield 29, 3) := by decide +kernel
theorem dX6_image_55 : decode cX6_image 55 = .ok (.iload_n 1, 1) := by decide +kernel
theorem dX6_image_56 : decode cX6_image 56 = .ok (.iaload, 1) := by decide +kernel
theorem dX6_image_57 : decode cX6_image 57 = .ok (.iastore, 1) := by decide +kernel
theorem dX6_image_58 : decode cX6_image 58 = .ok (.aload_n 0, 1) := by decide +kernel
theorem dX6_image_59 : decode cX6_image 59 = .ok (.getfield 63, 3) := by decide +kernel
theorem dX6_image_62 : decode cX6_image 62 = .ok (.iload_n 1, 1) := by decide +kernel
theorem dX6_image_63 : decode cX6_image 63 = .ok (.aload_n 0, 1) := by decide +kernel
theorem dX6_image_64 : decode cX6_image 64 = .ok (.getfield 38, 3) := by decide +kernel
theorem dX6_image_67 : decode cX6_image 67 = .ok (.iload_n 1, 1) := by decide +kernel
theorem dX6_image_68 : decode cX6_image 68 = .ok (.iaload, 1) := by decide +kernel
theorem dX6_image_69 : decode cX6_image 69 = .ok (.iastore, 1) := by decide +kernel
theorem dX6_image_70 : decode cX6_image 70 = .ok (.iinc 1 1, 3) := by decide +kernel
theorem dX6_image_73 : decode cX6_image 73 = .ok (.goto (-33), 3) := by decide +kernel
theorem dX6_image_76 : decode cX6_image 76 = .ok (.aload_n 0, 1) := by decide +kernel
theorem dX6_image_77 : decode cX6_image 77 = .ok (.aload_n 0, 1) := by decide +kernel
theorem dX6_image_78 : decode cX6_image 78 = .ok (.getfield 89, 3) := by decide +kernel
theorem dX6_image_81 : decode cX6_image 81 = .ok (.putfield 66, 3) := by decide +kernel
theorem dX6_image_84 : decode cX6_image 84 = .ok (.aload_n 0, 1) := by decide +kernel
theorem dX6_image_85 : decode cX6_image 85 = .ok (.aload_n 0, 1) := by decide +kernel
theorem dX6_image_86 : decode cX6_image 86 = .ok (.getfield 23, 3) := by decide +kernel
theorem dX6_image_89 : decode cX6_image 89 = .ok (.putfield 420, 3) := by decide +kernel
theorem dX6_image_92 : decode cX6_image 92 = .ok (.aload_n 0, 1) := by decide +kernel
theorem dX6_image_93 : decode cX6_image 93 = .ok (.aload_n 0, 1) := by decide +kernel
theorem dX6_image_94 : decode cX6_image 94 = .ok (.getfield 332, 3) := by decide +kernel
theorem dX6_image_97 : decode cX6_image 97 = .ok (.putfield 423, 3) := by decide +kernel
theorem dX6_image_100 : decode cX6_image 100 = .ok (.aload_n 0, 1) := by decide +kernel
theorem dX6_image_101 : decode cX6_image 101 = .ok (.getfield 89, 3) := by decide +kernel
theorem dX6_image_104 : decode cX6_image 104 = .ok (.ireturn, 1) := by decide +kernel
theorem dX6_back_0 : decode cX6_back 0 = .ok (.aload_n 0, 1) := by decide +kernel
theorem dX6_back_1 : decode cX6_back 1 = .ok (.getfield 66, 3) := by decide +kernel
theorem dX6_back_4 : decode cX6_back 4 = .ok (.iconst (-1), 1) := by decide +kernel
theorem dX6_back_5 : decode cX6_back 5 = .ok (.if_icmp .ne 6, 3) := by decide +kernel
theorem dX6_back_8 : decode cX6_back 8 = .ok (.bipush (-3), 2) := by decide +kernel
theorem dX6_back_10 : decode cX6_back 10 = .ok (.ireturn, 1) := by decide +kernel
theorem dX6_back_11 : decode cX6_back 11 = .ok (.iconst 0, 1) := by decide +kernel
theorem dX6_back_12 : decode cX6_back 12 = .ok (.istore_n 1, 1) := by decide +kernel
theorem dX6_back_13 : decode cX6_back 13 = .ok (.iload_n 1, 1) := by decide +kernel
theorem dX6_back_14 : decode cX6_back 14 = .ok (.bipush 48, 2) := by decide +kernel
theorem dX6_back_16 : decode cX6_back 16 = .ok (.if_icmp .ge 33, 3) := by decide +kernel
theorem dX6_back_19 : decode cX6_back 19 = .ok (.aload_n 0, 1) := by decide +kernel
theorem dX6_back_20 : decode cX6_back 20 = .ok (.getfield 32, 3) := by decide +kernel
theorem dX6_back_23 : decode cX6_back 23 = .ok (.iload_n 1, 1) := by decide +kernel
theorem dX6_back_24 : decode cX6_back 24 = .ok (.aload_n 0, 1) := by decide +kernel
theorem dX6_back_25 : decode cX6_back 25 = .ok (.getfield 57, 3) := by decide +kernel
theorem dX6_back_28 : decode cX6_back 28 = .ok (.iload_n 1, 1) := by decide +kernel
theorem dX6_back_29 : decode cX6_back 29 = .ok (.iaload, 1) := by decide +kernel
theorem dX6_back_30 : decode cX6_back 30 = .ok (.iastore, 1) := by decide +kernel
theorem dX6_back_31 : decode cX6_back 31 = .ok (.aload_n 0, 1) := by decide +kernel
theorem dX6_back_32 : decode cX6_back 32 = .ok (.getfield 35, 3) := by decide +kernel
theorem dX6_back_35 : decode cX6_back 35 = .ok (.iload_n 1, 1) := by decide +kernel
theorem dX6_back_36 : decode cX6_back 36 = .ok (.aload_n 0, 1) := by decide +kernel
theorem dX6_back_37 : decode cX6_back 37 = .ok (.getfield 60, 3) := by decide +kernel
theorem dX6_back_40 : decode cX6_back 40 = .ok (.iload_n 1, 1) := by decide +kernel
theorem dX6_back_41 : decode cX6_back 41 = .ok (.iaload, 1) := by decide +kernel
theorem dX6_back_42 : decode cX6_back 42 = .ok (.iastore, 1) := by decide +kernel
theorem dX6_back_43 : decode cX6_back 43 = .ok (.iinc 1 1, 3) := by decide +kernel
theorem dX6_back_46 : decode cX6_back 46 = .ok (.goto (-33), 3) := by decide +kernel
theorem dX6_back_49 : decode cX6_back 49 = .ok (.iconst 0, 1) := by decide +kernel
theorem dX6_back_50 : decode cX6_back 50 = .ok (.istore_n 1, 1) := by decide +kernel
theorem dX6_back_51 : decode cX6_back 51 = .ok (.iload_n 1, 1) := by decide +kernel
theorem dX6_back_52 : decode cX6_back 52 = .ok (.bipush 6, 2) := by decide +kernel
theorem dX6_back_54 : decode cX6_back 54 = .ok (.if_icmp .ge 33, 3) := by decide +kernel
theorem dX6_back_57 : decode cX6_back 57 = .ok (.aload_n 0, 1) := by decide +kernel
theorem dX6_back_58 : decode cX6_back 58 = .ok (.getfield 29, 3) := by decide +kernel
theorem dX6_back_61 : decode cX6_back 61 = .ok (.iload_n 1, 1) := by decide +kernel
theorem dX6_back_62 : decode cX6_back 62 = .ok (.aload_n 0, 1) := by decide +kernel
theorem dX6_back_63 : decode cX6_back 63 = .ok (.getfield 54, 3) := by decide +kernel
theorem dX6_back_66 : decode cX6_back 66 = .ok (.iload_n 1, 1) := by decide +kernel
theorem dX6_back_67 : decode cX6_back 67 = .ok (.iaload, 1) := by decide +kernel
theorem dX6_back_68 : decode cX6_back 68 = .ok (.iastore, 1) := by decide +kernel
theorem dX6_back_69 : decode cX6_back 69 = .ok (.aload_n 0, 1) := by decide +kernel
theorem dX6_back_70 : decode cX6_back 70 = .ok (.getfield 38, 3) := by decide +kernel
theorem dX6_back_73 : decode cX6_back 73 = .ok (.iload_n 1, 1) := by decide +kernel
theorem dX6_back_74 : decode cX6_back 74 = .ok (.aload_n 0, 1) := by decide +kernel
theorem dX6_back_75 : decode cX6_back 75 = .ok (.getfield 63, 3) := by decide +kernel
theorem dX6_back_78 : decode cX6_back 78 = .ok (.iload_n 1, 1) := by decide +kernel
theorem dX6_back_79 : decode cX6_back 79 = .ok (.iaload, 1) := by decide +kernel
theorem dX6_back_80 : decode cX6_back 80 = .ok (.iastore, 1) := by decide +kernel
theorem dX6_back_81 : decode cX6_back 81 = .ok (.iinc 1 1, 3) := by decide +kernel
theorem dX6_back_84 : decode cX6_back 84 = .ok (.goto (-33), 3) := by decide +kernel
theorem dX6_back_87 : decode cX6_back 87 = .ok (.aload_n 0, 1) := by decide +kernel
theorem dX6_back_88 : decode cX6_back 88 = .ok (.aload_n 0, 1) := by decide +kernel
theorem dX6_back_89 : decode cX6_back 89 = .ok (.getfield 66, 3) := by decide +kernel
theorem dX6_back_92 : decode cX6_back 92 = .ok (.putfield 89, 3) := by decide +kernel
theorem dX6_back_95 : decode cX6_back 95 = .ok (.aload_n 0, 1) := by decide +kernel
theorem dX6_back_96 : decode cX6_back 96 = .ok (.aload_n 0, 1) := by decide +kernel
theorem dX6_back_97 : decode cX6_back 97 = .ok (.getfield 420, 3) := by decide +kernel
theorem dX6_back_100 : decode cX6_back 100 = .ok (.putfield 23, 3) := by decide +kernel
theorem dX6_back_103 : decode cX6_back 103 = .ok (.aload_n 0, 1) := by decide +kernel
theorem dX6_back_104 : decode cX6_back 104 = .ok (.aload_n 0, 1) := by decide +kernel
theorem dX6_back_105 : decode cX6_back 105 = .ok (.getfield 423, 3) := by decide +kernel
theorem dX6_back_108 : decode cX6_back 108 = .ok (.putfield 332, 3) := by decide +kernel
theorem dX6_back_111 : decode cX6_back 111 = .ok (.aload_n 0, 1) := by decide +kernel
theorem dX6_back_112 : decode cX6_back 112 = .ok (.getfield 89, 3) := by decide +kernel
theorem dX6_back_115 : decode cX6_back 115 = .ok (.ireturn, 1) := by decide +kernel
theorem dX6_count_0 : decode cX6_count 0 = .ok (.iload_n 1, 1) := by decide +kernel
theorem dX6_count_1 : decode cX6_count 1 = .ok (.i2l, 1) := by decide +kernel
theorem dX6_count_2 : decode cX6_count 2 = .ok (.lconst 0, 1) := by decide +kernel
theorem dX6_count_3 : decode cX6_count 3 = .ok (.ldc2_w 108, 3) := by decide +kernel
theorem dX6_count_6 : decode cX6_count 6 = .ok (.invokestatic 92, 3) := by decide +kernel
theorem dX6_count_9 : decode cX6_count 9 = .ok (.ifCond .ne 6, 3) := by decide +kernel
theorem dX6_count_12 : decode cX6_count 12 = .ok (.bipush (-2), 2) := by decide +kernel
theorem dX6_count_14 : decode cX6_count 14 = .ok (.ireturn, 1) := by decide +kernel
theorem dX6_count_15 : decode cX6_count 15 = .ok (.iload_n 1, 1) := by decide +kernel
theorem dX6_count_16 : decode cX6_count 16 = .ok (.iconst 2, 1) := by decide +kernel
theorem dX6_count_17 : decode cX6_count 17 = .ok (.if_icmp .le 32, 3) := by decide +kernel
theorem dX6_count_20 : decode cX6_count 20 = .ok (.iload_n 1, 1) := by decide +kernel
theorem dX6_count_21 : decode cX6_count 21 = .ok (.iconst 3, 1) := by decide +kernel
theorem dX6_count_22 : decode cX6_count 22 = .ok (.if_icmp .ne 10, 3) := by decide +kernel
theorem dX6_count_25 : decode cX6_count 25 = .ok (.aload_n 0, 1) := by decide +kernel
theorem dX6_count_26 : decode cX6_count 26 = .ok (.getfield 86, 3) := by decide +kernel
theorem dX6_count_29 : decode cX6_count 29 = .ok (.goto 19, 3) := by decide +kernel
theorem dX6_count_32 : decode cX6_count 32 = .ok (.iload_n 1, 1) := by decide +kernel
theorem dX6_count_33 : decode cX6_count 33 = .ok (.iconst 4, 1) := by decide +kernel
theorem dX6_count_34 : decode cX6_count 34 = .ok (.if_icmp .ne 10, 3) := by decide +kernel
theorem dX6_count_37 : decode cX6_count 37 = .ok (.aload_n 0, 1) := by decide +kernel
theorem dX6_count_38 : decode cX6_count 38 = .ok (.getfield 126, 3) := by decide +kernel
theorem dX6_count_41 : decode cX6_count 41 = .ok (.goto 7, 3) := by decide +kernel
theorem dX6_count_44 : decode cX6_count 44 = .ok (.aload_n 0, 1) := by decide +kernel
theorem dX6_count_45 : decode cX6_count 45 = .ok (.getfield 332, 3) := by decide +kernel
theorem dX6_count_48 : decode cX6_count 48 = .ok (.ireturn, 1) := by decide +kernel
theorem dX6_count_49 : decode cX6_count 49 = .ok (.iconst 0, 1) := by decide +kernel
theorem dX6_count_50 : decode cX6_count 50 = .ok (.istore_n 2, 1) := by decide +kernel
theorem dX6_count_51 : decode cX6_count 51 = .ok (.iconst 0, 1) := by decide +kernel
theorem dX6_count_52 : decode cX6_count 52 = .ok (.istore_n 3, 1) := by decide +kernel
theorem dX6_count_53 : decode cX6_count 53 = .ok (.iload_n 3, 1) := by decide +kernel
theorem dX6_count_54 : decode cX6_count 54 = .ok (.aload_n 0, 1) := by decide +kernel
theorem dX6_count_55 : decode cX6_count 55 = .ok (.getfield 89, 3) := by decide +kernel
theorem dX6_count_58 : decode cX6_count 58 = .ok (.if_icmp .ge 18, 3) := by decide +kernel
theorem dX6_count_61 : decode cX6_count 61 = .ok (.iload_n 2, 1) := by decide +kernel
theorem dX6_count_62 : decode cX6_count 62 = .ok (.aload_n 0, 1) := by decide +kernel
theorem dX6_count_63 : decode cX6_count 63 = .ok (.getfield 38, 3) := by decide +kernel
theorem dX6_count_66 : decode cX6_count 66 = .ok (.iload_n 3, 1) := by decide +kernel
theorem dX6_count_67 : decode cX6_count 67 = .ok (.iaload, 1) := by decide +kernel
theorem dX6_count_68 : decode cX6_count 68 = .ok (.iadd, 1) := by decide +kernel
theorem dX6_count_69 : decode cX6_count 69 = .ok (.istore_n 2, 1) := by decide +kernel
theorem dX6_count_70 : decode cX6_count 70 = .ok (.iinc 3 1, 3) := by decide +kernel
theorem dX6_count_73 : decode cX6_count 73 = .ok (.goto (-20), 3) := by decide +kernel
theorem dX6_count_76 : decode cX6_count 76 = .ok (.iload_n 1, 1) := by decide +kernel
theorem dX6_count_77 : decode cX6_count 77 = .ok (.ifCond .ne 10, 3) := by decide +kernel
theorem dX6_count_80 : decode cX6_count 80 = .ok (.aload_n 0, 1) := by decide +kernel
theorem dX6_count_81 : decode cX6_count 81 = .ok (.getfield 89, 3) := by decide +kernel
theorem dX6_count_84 : decode cX6_count 84 = .ok (.goto 16, 3) := by decide +kernel
theorem dX6_count_87 : decode cX6_count 87 = .ok (.iload_n 1, 1) := by decide +kernel
theorem dX6_count_88 : decode cX6_count 88 = .ok (.iconst 1, 1) := by decide +kernel
theorem dX6_count_89 : decode cX6_count 89 = .ok (.if_icmp .ne 10, 3) := by decide +kernel
theorem dX6_count_92 : decode cX6_count 92 = .ok (.aload_n 0, 1) := by decide +kernel
theorem dX6_count_93 : decode cX6_count 93 = .ok (.getfield 23, 3) := by decide +kernel
theorem dX6_count_96 : decode cX6_count 96 = .ok (.goto 4, 3) := by decide +kernel
theorem dX6_count_99 : decode cX6_count 99 = .ok (.iload_n 2, 1) := by decide +kernel
theorem dX6_count_100 : decode cX6_count 100 = .ok (.ireturn, 1) := by decide +kernel
theorem dX6_isSheet_0 : decode cX6_isSheet 0 = .ok (.iload_n 0, 1) := by decide +kernel
theorem dX6_isSheet_1 : decode cX6_isSheet 1 = .ok (.i2l, 1) := by decide +kernel
theorem dX6_isSheet_2 : decode cX6_isSheet 2 = .ok (.lconst 0, 1) := by decide +kernel
theorem dX6_isSheet_3 : decode cX6_isSheet 3 = .ok (.ldc2_w 370, 3) := by decide +kernel
theorem dX6_isSheet_6 : decode cX6_isSheet 6 = .ok (.invokestatic 92, 3) := by decide +kernel
theorem dX6_isSheet_9 : decode cX6_isSheet 9 = .ok (.ireturn, 1) := by decide +kernel
theorem dX6_sheet_0 : decode cX6_sheet 0 = .ok (.iload_n 1, 1) := by decide +kernel
theorem dX6_sheet_1 : decode cX6_sheet 1 = .ok (.invokestatic 385, 3) := by decide +kernel
theorem dX6_sheet_4 : decode cX6_sheet 4 = .ok (.ifCond .eq 27, 3) := by decide +kernel
theorem dX6_sheet_7 : decode cX6_sheet 7 = .ok (.iload_n 2, 1) := by decide +kernel
theorem dX6_sheet_8 : decode cX6_sheet 8 = .ok (.i2l, 1) := by decide +kernel
theorem dX6_sheet_9 : decode cX6_sheet 9 = .ok (.ldc2_w 426, 3) := by decide +kernel
theorem dX6_sheet_12 : decode cX6_sheet 12 = .ok (.ldc2_w 342, 3) := by decide +kernel
theorem dX6_sheet_15 : decode cX6_sheet 15 = .ok (.invokestatic 92, 3) := by decide +kernel
theorem dX6_sheet_18 : decode cX6_sheet 18 = .ok (.ifCond .eq 13, 3) := by decide +kernel
theorem dX6_sheet_21 : decode cX6_sheet 21 = .ok (.iload_n 2, 1) := by decide +kernel
theorem dX6_sheet_22 : decode cX6_sheet 22 = .ok (.ifCond .lt 12, 3) := by decide +kernel
theorem dX6_sheet_25 : decode cX6_sheet 25 = .ok (.iload_n 3, 1) := by decide +kernel
theorem dX6_sheet_26 : decode cX6_sheet 26 = .ok (.bipush 40, 2) := by decide +kernel
theorem dX6_sheet_28 : decode cX6_sheet 28 = .ok (.if_icmp .le 6, 3) := by decide +kernel
theorem dX6_sheet_31 : decode cX6_sheet 31 = .ok (.bipush (-2), 2) := by decide +kernel
theorem dX6_sheet_33 : decode cX6_sheet 33 = .ok (.ireturn, 1) := by decide +kernel
theorem dX6_sheet_34 : decode cX6_sheet 34 = .ok (.iload_n 2, 1) := by decide +kernel
theorem dX6_sheet_35 : decode cX6_sheet 35 = .ok (.ifCond .lt 10, 3) := by decide +kernel
theorem dX6_sheet_38 : decode cX6_sheet 38 = .ok (.iload_n 3, 1) := by decide +kernel
theorem dX6_sheet_39 : decode cX6_sheet 39 = .ok (.ifCond .ge 6, 3) := by decide +kernel
theorem dX6_sheet_42 : decode cX6_sheet 42 = .ok (.bipush (-14), 2) := by decide +kernel
theorem dX6_sheet_44 : decode cX6_sheet 44 = .ok (.ireturn, 1) := by decide +kernel
theorem dX6_sheet_45 : decode cX6_sheet 45 = .ok (.aload_n 0, 1) := by decide +kernel
theorem dX6_sheet_46 : decode cX6_sheet 46 = .ok (.getfield 69, 3) := by decide +kernel
theorem dX6_sheet_49 : decode cX6_sheet 49 = .ok (.iload_n 1, 1) := by decide +kernel
theorem dX6_sheet_50 : decode cX6_sheet 50 = .ok (.iload_n 2, 1) := by decide +kernel
theorem dX6_sheet_51 : decode cX6_sheet 51 = .ok (.ifCond .lt 7, 3) := by decide +kernel
theorem dX6_sheet_54 : decode cX6_sheet 54 = .ok (.iconst 1, 1) := by decide +kernel
theorem dX6_sheet_55 : decode cX6_sheet 55 = .ok (.goto 4, 3) := by decide +kernel
theorem dX6_sheet_58 : decode cX6_sheet 58 = .ok (.iconst 0, 1) := by decide +kernel
theorem dX6_sheet_59 : decode cX6_sheet 59 = .ok (.bastore, 1) := by decide +kernel
theorem dX6_sheet_60 : decode cX6_sheet 60 = .ok (.aload_n 0, 1) := by decide +kernel
theorem dX6_sheet_61 : decode cX6_sheet 61 = .ok (.getfield 73, 3) := by decide +kernel
theorem dX6_sheet_64 : decode cX6_sheet 64 = .ok (.iload_n 1, 1) := by decide +kernel
theorem dX6_sheet_65 : decode cX6_sheet 65 = .ok (.iload_n 2, 1) := by decide +kernel
theorem dX6_sheet_66 : decode cX6_sheet 66 = .ok (.iastore, 1) := by decide +kernel
theorem dX6_sheet_67 : decode cX6_sheet 67 = .ok (.aload_n 0, 1) := by decide +kernel
theorem dX6_sheet_68 : decode cX6_sheet 68 = .ok (.getfield 76, 3) := by decide +kernel
theorem dX6_sheet_71 : decode cX6_sheet 71 = .ok (.iload_n 1, 1) := by decide +kernel
theorem dX6_sheet_72 : decode cX6_sheet 72 = .ok (.iload_n 3, 1) := by decide +kernel
theorem dX6_sheet_73 : decode cX6_sheet 73 = .ok (.iastore, 1) := by decide +kernel
theorem dX6_sheet_74 : decode cX6_sheet 74 = .ok (.iconst 0, 1) := by decide +kernel
theorem dX6_sheet_75 : decode cX6_sheet 75 = .ok (.istore 4, 2) := by decide +kernel
theorem dX6_sheet_77 : decode cX6_sheet 77 = .ok (.iload 4, 2) := by decide +kernel
theorem dX6_sheet_79 : decode cX6_sheet 79 = .ok (.iload_n 3, 1) := by decide +kernel
theorem dX6_sheet_80 : decode cX6_sheet 80 = .ok (.if_icmp .ge 26, 3) := by decide +kernel
theorem dX6_sheet_83 : decode cX6_sheet 83 = .ok (.iload_n 2, 1) := by decide +kernel
theorem dX6_sheet_84 : decode cX6_sheet 84 = .ok (.ifCond .lt 22, 3) := by decide +kernel
theorem dX6_sheet_87 : decode cX6_sheet 87 = .ok (.aload_n 0, 1) := by decide +kernel
theorem dX6_sheet_88 : decode cX6_sheet 88 = .ok (.getfield 79, 3) := by decide +kernel
theorem dX6_sheet_91 : decode cX6_sheet 91 = .ok (.bipush 40, 2) := by decide +kernel
theorem dX6_sheet_93 : decode cX6_sheet 93 = .ok (.iload_n 1, 1) := by decide +kernel
theorem dX6_sheet_94 : decode cX6_sheet 94 = .ok (.imul, 1) := by decide +kernel
theorem dX6_sheet_95 : decode cX6_sheet 95 = .ok (.iload 4, 2) := by decide +kernel
theorem dX6_sheet_97 : decode cX6_sheet 97 = .ok (.iadd, 1) := by decide +kernel
theorem dX6_sheet_98 : decode cX6_sheet 98 = .ok (.iconst 0, 1) := by decide +kernel
theorem dX6_sheet_99 : decode cX6_sheet 99 = .ok (.iastore, 1) := by decide +kernel
theorem dX6_sheet_100 : decode cX6_sheet 100 = .ok (.iinc 4 1, 3) := by decide +kernel
theorem dX6_sheet_103 : decode cX6_sheet 103 = .ok (.goto (-26), 3) := by decide +kernel
theorem dX6_sheet_106 : decode cX6_sheet 106 = .ok (.iconst 1, 1) := by decide +kernel
theorem dX6_sheet_107 : decode cX6_sheet 107 = .ok (.ireturn, 1) := by decide +kernel
theorem dX6_cell_0 : decode cX6_cell 0 = .ok (.iload_n 1, 1) := by decide +kernel
theorem dX6_cell_1 : decode cX6_cell 1 = .ok (.invokestatic 385, 3) := by decide +kernel
theorem dX6_cell_4 : decode cX6_cell 4 = .ok (.ifCond .ne 6, 3) := by decide +kernel
theorem dX6_cell_7 : decode cX6_cell 7 = .ok (.bipush (-2), 2) := by decide +kernel
theorem dX6_cell_9 : decode cX6_cell 9 = .ok (.ireturn, 1) := by decide +kernel
theorem dX6_cell_10 : decode cX6_cell 10 = .ok (.aload_n 0, 1) := by decide +kernel
theorem dX6_cell_11 : decode cX6_cell 11 = .ok (.getfield 69, 3) := by decide +kernel
theorem dX6_cell_14 : decode cX6_cell 14 = .ok (.iload_n 1, 1) := by decide +kernel
theorem dX6_cell_15 : decode cX6_cell 15 = .ok (.baload, 1) := by decide +kernel
theorem dX6_cell_16 : decode cX6_cell 16 = .ok (.ifCond .ne 6, 3) := by decide +kernel
theorem dX6_cell_19 : decode cX6_cell 19 = .ok (.bipush (-11), 2) := by decide +kernel
theorem dX6_cell_21 : decode cX6_cell 21 = .ok (.ireturn, 1) := by decide +kernel
theorem dX6_cell_22 : decode cX6_cell 22 = .ok (.iload_n 2, 1) := by decide +kernel
theorem dX6_cell_23 : decode cX6_cell 23 = .ok (.i2l, 1) := by decide +kernel
theorem dX6_cell_24 : decode cX6_cell 24 = .ok (.lconst 0, 1) := by decide +kernel
theorem dX6_cell_25 : decode cX6_cell 25 = .ok (.aload_n 0, 1) := by decide +kernel
theorem dX6_cell_26 : decode cX6_cell 26 = .ok (.getfield 76, 3) := by decide +kernel
theorem dX6_cell_29 : decode cX6_cell 29 = .ok (.iload_n 1, 1) := by decide +kernel
theorem dX6_cell_30 : decode cX6_cell 30 = .ok (.iaload, 1) := by decide +kernel
theorem dX6_cell_31 : decode cX6_cell 31 = .ok (.iconst 1, 1) := by decide +kernel
theorem dX6_cell_32 : decode cX6_cell 32 = .ok (.isub, 1) := by decide +kernel
theorem dX6_cell_33 : decode cX6_cell 33 = .ok (.i2l, 1) := by decide +kernel
theorem dX6_cell_34 : decode cX6_cell 34 = .ok (.invokestatic 92, 3) := by decide +kernel
theorem dX6_cell_37 : decode cX6_cell 37 = .ok (.ifCond .ne 6, 3) := by decide +kernel
theorem dX6_cell_40 : decode cX6_cell 40 = .ok (.bipush (-12), 2) := by decide +kernel
theorem dX6_cell_42 : decode cX6_cell 42 = .ok (.ireturn, 1) := by decide +kernel
theorem dX6_cell_43 : decode cX6_cell 43 = .ok (.aload_n 0, 1) := by decide +kernel
theorem dX6_cell_44 : decode cX6_cell 44 = .ok (.getfield 79, 3) := by decide +kernel
theorem dX6_cell_47 : decode cX6_cell 47 = .ok (.bipush 40, 2) := by decide +kernel
theorem dX6_cell_49 : decode cX6_cell 49 = .ok (.iload_n 1, 1) := by decide +kernel
theorem dX6_cell_50 : decode cX6_cell 50 = .ok (.imul, 1) := by decide +kernel
theorem dX6_cell_51 : decode cX6_cell 51 = .ok (.iload_n 2, 1) := by decide +kernel
theorem dX6_cell_52 : decode cX6_cell 52 = .ok (.iadd, 1) := by decide +kernel
theorem dX6_cell_53 : decode cX6_cell 53 = .ok (.aload_n 0, 1) := by decide +kernel
theorem dX6_cell_54 : decode cX6_cell 54 = .ok (.getfield 73, 3) := by decide +kernel
theorem dX6_cell_57 : decode cX6_cell 57 = .ok (.iload_n 1, 1) := by decide +kernel
theorem dX6_cell_58 : decode cX6_cell 58 = .ok (.iaload, 1) := by decide +kernel
theorem dX6_cell_59 : decode cX6_cell 59 = .ok (.ifCond .ne 8, 3) := by decide +kernel
theorem dX6_cell_62 : decode cX6_cell 62 = .ok (.iload_n 3, 1) := by decide +kernel
theorem dX6_cell_63 : decode cX6_cell 63 = .ok (.i2b, 1) := by decide +kernel
theorem dX6_cell_64 : decode cX6_cell 64 = .ok (.goto 19, 3) := by decide +kernel
theorem dX6_cell_67 : decode cX6_cell 67 = .ok (.aload_n 0, 1) := by decide +kernel
theorem dX6_cell_68 : decode cX6_cell 68 = .ok (.getfield 73, 3) := by decide +kernel
theorem dX6_cell_71 : decode cX6_cell 71 = .ok (.iload_n 1, 1) := by decide +kernel
theorem dX6_cell_72 : decode cX6_cell 72 = .ok (.iaload, 1) := by decide +kernel
theorem dX6_cell_73 : decode cX6_cell 73 = .ok (.iconst 1, 1) := by decide +kernel
theorem dX6_cell_74 : decode cX6_cell 74 = .ok (.if_icmp .ne 8, 3) := by decide +kernel
theorem dX6_cell_77 : decode cX6_cell 77 = .ok (.iload_n 3, 1) := by decide +kernel
theorem dX6_cell_78 : decode cX6_cell 78 = .ok (.i2s, 1) := by decide +kernel
theorem dX6_cell_79 : decode cX6_cell 79 = .ok (.goto 4, 3) := by decide +kernel
theorem dX6_cell_82 : decode cX6_cell 82 = .ok (.iload_n 3, 1) := by decide +kernel
theorem dX6_cell_83 : decode cX6_cell 83 = .ok (.iastore, 1) := by decide +kernel
theorem dX6_cell_84 : decode cX6_cell 84 = .ok (.iconst 1, 1) := by decide +kernel
theorem dX6_cell_85 : decode cX6_cell 85 = .ok (.ireturn, 1) := by decide +kernel
theorem dX6_copy_0 : decode cX6_copy 0 = .ok (.iload_n 1, 1) := by decide +kernel
theorem dX6_copy_1 : decode cX6_copy 1 = .ok (.invokestatic 385, 3) := by decide +kernel
theorem dX6_copy_4 : decode cX6_copy 4 = .ok (.ifCond .eq 10, 3) := by decide +kernel
theorem dX6_copy_7 : decode cX6_copy 7 = .ok (.iload_n 3, 1) := by decide +kernel
theorem dX6_copy_8 : decode cX6_copy 8 = .ok (.invokestatic 385, 3) := by decide +kernel
theorem dX6_copy_11 : decode cX6_copy 11 = .ok (.ifCond .ne 6, 3) := by decide +kernel
theorem dX6_copy_14 : decode cX6_copy 14 = .ok (.bipush (-2), 2) := by decide +kernel
theorem dX6_copy_16 : decode cX6_copy 16 = .ok (.ireturn, 1) := by decide +kernel
theorem dX6_copy_17 : decode cX6_copy 17 = .ok (.aload_n 0, 1) := by decide +kernel
theorem dX6_copy_18 : decode cX6_copy 18 = .ok (.getfield 69, 3) := by decide +kernel
theorem dX6_copy_21 : decode cX6_copy 21 = .ok (.iload_n 1, 1) := by decide +kernel
theorem dX6_copy_22 : decode cX6_copy 22 = .ok (.baload, 1) := by decide +kernel
theorem dX6_copy_23 : decode cX6_copy 23 = .ok (.ifCond .eq 12, 3) := by decide +kernel
theorem dX6_copy_26 : decode cX6_copy 26 = .ok (.aload_n 0, 1) := by decide +kernel
theorem dX6_copy_27 : decode cX6_copy 27 = .ok (.getfield 69, 3) := by decide +kernel
theorem dX6_copy_30 : decode cX6_copy 30 = .ok (.iload_n 3, 1) := by decide +kernel
theorem dX6_copy_31 : decode cX6_copy 31 = .ok (.baload, 1) := by decide +kernel
theorem dX6_copy_32 : decode cX6_copy 32 = .ok (.ifCond .ne 6, 3) := by decide +kernel
theorem dX6_copy_35 : decode cX6_copy 35 = .ok (.bipush (-11), 2) := by decide +kernel
theorem dX6_copy_37 : decode cX6_copy 37 = .ok (.ireturn, 1) := by decide +kernel
theorem dX6_copy_38 : decode cX6_copy 38 = .ok (.aload_n 0, 1) := by decide +kernel
theorem dX6_copy_39 : decode cX6_copy 39 = .ok (.getfield 73, 3) := by decide +kernel
theorem dX6_copy_42 : decode cX6_copy 42 = .ok (.iload_n 1, 1) := by decide +kernel
theorem dX6_copy_43 : decode cX6_copy 43 = .ok (.iaload, 1) := by decide +kernel
theorem dX6_copy_44 : decode cX6_copy 44 = .ok (.aload_n 0, 1) := by decide +kernel
theorem dX6_copy_45 : decode cX6_copy 45 = .ok (.getfield 73, 3) := by decide +kernel
theorem dX6_copy_48 : decode cX6_copy 48 = .ok (.iload_n 3, 1) := by decide +kernel
theorem dX6_copy_49 : decode cX6_copy 49 = .ok (.iaload, 1) := by decide +kernel
theorem dX6_copy_50 : decode cX6_copy 50 = .ok (.if_icmp .eq 6, 3) := by decide +kernel
theorem dX6_copy_53 : decode cX6_copy 53 = .ok (.bipush (-13), 2) := by decide +kernel
theorem dX6_copy_55 : decode cX6_copy 55 = .ok (.ireturn, 1) := by decide +kernel
