theorem dX5_asks_32 : decode cX5_asks 32 = .ok (.iload_n 1, 1) := by decide +kernel
theorem dX5_asks_33 : decode cX5_asks 33 = .ok (.iload_n 2, 1) := by decide +kernel
theorem dX5_asks_34 : decode cX5_asks 34 = .ok (.iload_n 3, 1) := by decide +kernel
theorem dX5_asks_35 : decode cX5_asks 35 = .ok (.invokevirtual 164, 3) := by decide +kernel
theorem dX5_asks_38 : decode cX5_asks 38 = .ok (.ireturn, 1) := by decide +kernel
theorem dX5_length_0 : decode cX5_length 0 = .ok (.aload_n 0, 1) := by decide +kernel
theorem dX5_length_1 : decode cX5_length 1 = .ok (.getfield 10, 3) := by decide +kernel
theorem dX5_length_4 : decode cX5_length 4 = .ok (.iload_n 1, 1) := by decide +kernel
theorem dX5_length_5 : decode cX5_length 5 = .ok (.invokevirtual 85, 3) := by decide +kernel
theorem dX5_length_8 : decode cX5_length 8 = .ok (.ifCond .eq 22, 3) := by decide +kernel
theorem dX5_length_11 : decode cX5_length 11 = .ok (.iload_n 2, 1) := by decide +kernel
theorem dX5_length_12 : decode cX5_length 12 = .ok (.invokestatic 113, 3) := by decide +kernel
theorem dX5_length_15 : decode cX5_length 15 = .ok (.ifCond .eq 15, 3) := by decide +kernel
theorem dX5_length_18 : decode cX5_length 18 = .ok (.iload_n 3, 1) := by decide +kernel
theorem dX5_length_19 : decode cX5_length 19 = .ok (.invokestatic 113, 3) := by decide +kernel
theorem dX5_length_22 : decode cX5_length 22 = .ok (.ifCond .eq 8, 3) := by decide +kernel
theorem dX5_length_25 : decode cX5_length 25 = .ok (.iload_n 3, 1) := by decide +kernel
theorem dX5_length_26 : decode cX5_length 26 = .ok (.iload_n 2, 1) := by decide +kernel
theorem dX5_length_27 : decode cX5_length 27 = .ok (.if_icmp .ge 6, 3) := by decide +kernel
theorem dX5_length_30 : decode cX5_length 30 = .ok (.bipush (-2), 2) := by decide +kernel
theorem dX5_length_32 : decode cX5_length 32 = .ok (.ireturn, 1) := by decide +kernel
theorem dX5_length_33 : decode cX5_length 33 = .ok (.aload_n 0, 1) := by decide +kernel
theorem dX5_length_34 : decode cX5_length 34 = .ok (.iload_n 1, 1) := by decide +kernel
theorem dX5_length_35 : decode cX5_length 35 = .ok (.invokevirtual 167, 3) := by decide +kernel
theorem dX5_length_38 : decode cX5_length 38 = .ok (.aload_n 0, 1) := by decide +kernel
theorem dX5_length_39 : decode cX5_length 39 = .ok (.getfield 38, 3) := by decide +kernel
theorem dX5_length_42 : decode cX5_length 42 = .ok (.iload_n 3, 1) := by decide +kernel
theorem dX5_length_43 : decode cX5_length 43 = .ok (.iaload, 1) := by decide +kernel
theorem dX5_length_44 : decode cX5_length 44 = .ok (.aload_n 0, 1) := by decide +kernel
theorem dX5_length_45 : decode cX5_length 45 = .ok (.getfield 38, 3) := by decide +kernel
theorem dX5_length_48 : decode cX5_length 48 = .ok (.iload_n 2, 1) := by decide +kernel
theorem dX5_length_49 : decode cX5_length 49 = .ok (.iaload, 1) := by decide +kernel
theorem dX5_length_50 : decode cX5_length 50 = .ok (.isub, 1) := by decide +kernel
theorem dX5_length_51 : decode cX5_length 51 = .ok (.ireturn, 1) := by decide +kernel
theorem dX5_mean_0 : decode cX5_mean 0 = .ok (.aload_n 0, 1) := by decide +kernel
theorem dX5_mean_1 : decode cX5_mean 1 = .ok (.getfield 10, 3) := by decide +kernel
theorem dX5_mean_4 : decode cX5_mean 4 = .ok (.iload_n 1, 1) := by decide +kernel
theorem dX5_mean_5 : decode cX5_mean 5 = .ok (.invokevirtual 85, 3) := by decide +kernel
theorem dX5_mean_8 : decode cX5_mean 8 = .ok (.ifCond .eq 15, 3) := by decide +kernel
theorem dX5_mean_11 : decode cX5_mean 11 = .ok (.iload_n 2, 1) := by decide +kernel
theorem dX5_mean_12 : decode cX5_mean 12 = .ok (.iconst 1, 1) := by decide +kernel
theorem dX5_mean_13 : decode cX5_mean 13 = .ok (.if_icmp .lt 10, 3) := by decide +kernel
theorem dX5_mean_16 : decode cX5_mean 16 = .ok (.iload_n 2, 1) := by decide +kernel
theorem dX5_mean_17 : decode cX5_mean 17 = .ok (.sipush 300, 3) := by decide +kernel
theorem dX5_mean_20 : decode cX5_mean 20 = .ok (.if_icmp .le 6, 3) := by decide +kernel
theorem dX5_mean_23 : decode cX5_mean 23 = .ok (.bipush (-2), 2) := by decide +kernel
theorem dX5_mean_25 : decode cX5_mean 25 = .ok (.ireturn, 1) := by decide +kernel
theorem dX5_mean_26 : decode cX5_mean 26 = .ok (.aload_n 0, 1) := by decide +kernel
theorem dX5_mean_27 : decode cX5_mean 27 = .ok (.iload_n 1, 1) := by decide +kernel
theorem dX5_mean_28 : decode cX5_mean 28 = .ok (.invokevirtual 167, 3) := by decide +kernel
theorem dX5_mean_31 : decode cX5_mean 31 = .ok (.aload_n 0, 1) := by decide +kernel
theorem dX5_mean_32 : decode cX5_mean 32 = .ok (.iconst 0, 1) := by decide +kernel
theorem dX5_mean_33 : decode cX5_mean 33 = .ok (.iload_n 2, 1) := by decide +kernel
theorem dX5_mean_34 : decode cX5_mean 34 = .ok (.invokevirtual 170, 3) := by decide +kernel
theorem dX5_mean_37 : decode cX5_mean 37 = .ok (.lstore_n 3, 1) := by decide +kernel
theorem dX5_mean_38 : decode cX5_mean 38 = .ok (.iconst 0, 1) := by decide +kernel
theorem dX5_mean_39 : decode cX5_mean 39 = .ok (.istore 5, 2) := by decide +kernel
theorem dX5_mean_41 : decode cX5_mean 41 = .ok (.iload 5, 2) := by decide +kernel
theorem dX5_mean_43 : decode cX5_mean 43 = .ok (.sipush 600, 3) := by decide +kernel
theorem dX5_mean_46 : decode cX5_mean 46 = .ok (.iload_n 2, 1) := by decide +kernel
theorem dX5_mean_47 : decode cX5_mean 47 = .ok (.isub, 1) := by decide +kernel
theorem dX5_mean_48 : decode cX5_mean 48 = .ok (.if_icmp .ge 41, 3) := by decide +kernel
theorem dX5_mean_51 : decode cX5_mean 51 = .ok (.aload_n 0, 1) := by decide +kernel
theorem dX5_mean_52 : decode cX5_mean 52 = .ok (.iload 5, 2) := by decide +kernel
theorem dX5_mean_54 : decode cX5_mean 54 = .ok (.iconst 1, 1) := by decide +kernel
theorem dX5_mean_55 : decode cX5_mean 55 = .ok (.iadd, 1) := by decide +kernel
theorem dX5_mean_56 : decode cX5_mean 56 = .ok (.iload_n 2, 1) := by decide +kernel
theorem dX5_mean_57 : decode cX5_mean 57 = .ok (.invokevirtual 170, 3) := by decide +kernel
theorem dX5_mean_60 : decode cX5_mean 60 = .ok (.lstore 6, 2) := by decide +kernel
theorem dX5_mean_62 : decode cX5_mean 62 = .ok (.lload_n 3, 1) := by decide +kernel
theorem dX5_mean_63 : decode cX5_mean 63 = .ok (.lconst 0, 1) := by decide +kernel
theorem dX5_mean_64 : decode cX5_mean 64 = .ok (.lcmp, 1) := by decide +kernel
theorem dX5_mean_65 : decode cX5_mean 65 = .ok (.ifCond .eq 12, 3) := by decide +kernel
theorem dX5_mean_68 : decode cX5_mean 68 = .ok (.lload_n 3, 1) := by decide +kernel
theorem dX5_mean_69 : decode cX5_mean 69 = .ok (.lload 6, 2) := by decide +kernel
theorem dX5_mean_71 : decode cX5_mean 71 = .ok (.invokestatic 174, 3) := by decide +kernel
theorem dX5_mean_74 : decode cX5_mean 74 = .ok (.ifCond .eq 6, 3) := by decide +kernel
theorem dX5_mean_77 : decode cX5_mean 77 = .ok (.iload 5, 2) := by decide +kernel
theorem dX5_mean_79 : decode cX5_mean 79 = .ok (.ireturn, 1) := by decide +kernel
theorem dX5_mean_80 : decode cX5_mean 80 = .ok (.lload 6, 2) := by decide +kernel
theorem dX5_mean_82 : decode cX5_mean 82 = .ok (.lstore_n 3, 1) := by decide +kernel
theorem dX5_mean_83 : decode cX5_mean 83 = .ok (.iinc 5 1, 3) := by decide +kernel
theorem dX5_mean_86 : decode cX5_mean 86 = .ok (.goto (-45), 3) := by decide +kernel
theorem dX5_mean_89 : decode cX5_mean 89 = .ok (.lload_n 3, 1) := by decide +kernel
theorem dX5_mean_90 : decode cX5_mean 90 = .ok (.lconst 0, 1) := by decide +kernel
theorem dX5_mean_91 : decode cX5_mean 91 = .ok (.lcmp, 1) := by decide +kernel
theorem dX5_mean_92 : decode cX5_mean 92 = .ok (.ifCond .ne 11, 3) := by decide +kernel
theorem dX5_mean_95 : decode cX5_mean 95 = .ok (.sipush 600, 3) := by decide +kernel
theorem dX5_mean_98 : decode cX5_mean 98 = .ok (.iload_n 2, 1) := by decide +kernel
theorem dX5_mean_99 : decode cX5_mean 99 = .ok (.isub, 1) := by decide +kernel
theorem dX5_mean_100 : decode cX5_mean 100 = .ok (.goto 4, 3) := by decide +kernel
theorem dX5_mean_103 : decode cX5_mean 103 = .ok (.iconst (-1), 1) := by decide +kernel
theorem dX5_mean_104 : decode cX5_mean 104 = .ok (.ireturn, 1) := by decide +kernel
theorem dX5_beyondMean_0 : decode cX5_beyondMean 0 = .ok (.ldc2_w 178, 3) := by decide +kernel
theorem dX5_beyondMean_3 : decode cX5_beyondMean 3 = .ok (.aload_n 0, 1) := by decide +kernel
theorem dX5_beyondMean_4 : decode cX5_beyondMean 4 = .ok (.getfield 38, 3) := by decide +kernel
theorem dX5_beyondMean_7 : decode cX5_beyondMean 7 = .ok (.iload_n 1, 1) := by decide +kernel
theorem dX5_beyondMean_8 : decode cX5_beyondMean 8 = .ok (.iload_n 2, 1) := by decide +kernel
theorem dX5_beyondMean_9 : decode cX5_beyondMean 9 = .ok (.iadd, 1) := by decide +kernel
theorem dX5_beyondMean_10 : decode cX5_beyondMean 10 = .ok (.iaload, 1) := by decide +kernel
theorem dX5_beyondMean_11 : decode cX5_beyondMean 11 = .ok (.aload_n 0, 1) := by decide +kernel
theorem dX5_beyondMean_12 : decode cX5_beyondMean 12 = .ok (.getfield 38, 3) := by decide +kernel
theorem dX5_beyondMean_15 : decode cX5_beyondMean 15 = .ok (.iload_n 1, 1) := by decide +kernel
theorem dX5_beyondMean_16 : decode cX5_beyondMean 16 = .ok (.iaload, 1) := by decide +kernel
theorem dX5_beyondMean_17 : decode cX5_beyondMean 17 = .ok (.isub, 1) := by decide +kernel
theorem dX5_beyondMean_18 : decode cX5_beyondMean 18 = .ok (.i2l, 1) := by decide +kernel
theorem dX5_beyondMean_19 : decode cX5_beyondMean 19 = .ok (.lmul, 1) := by decide +kernel
theorem dX5_beyondMean_20 : decode cX5_beyondMean 20 = .ok (.iload_n 2, 1) := by decide +kernel
theorem dX5_beyondMean_21 : decode cX5_beyondMean 21 = .ok (.i2l, 1) := by decide +kernel
theorem dX5_beyondMean_22 : decode cX5_beyondMean 22 = .ok (.aload_n 0, 1) := by decide +kernel
theorem dX5_beyondMean_23 : decode cX5_beyondMean 23 = .ok (.getfield 38, 3) := by decide +kernel
theorem dX5_beyondMean_26 : decode cX5_beyondMean 26 = .ok (.sipush 600, 3) := by decide +kernel
theorem dX5_beyondMean_29 : decode cX5_beyondMean 29 = .ok (.iaload, 1) := by decide +kernel
theorem dX5_beyondMean_30 : decode cX5_beyondMean 30 = .ok (.i2l, 1) := by decide +kernel
theorem dX5_beyondMean_31 : decode cX5_beyondMean 31 = .ok (.lmul, 1) := by decide +kernel
theorem dX5_beyondMean_32 : decode cX5_beyondMean 32 = .ok (.lsub, 1) := by decide +kernel
theorem dX5_beyondMean_33 : decode cX5_beyondMean 33 = .ok (.lreturn, 1) := by decide +kernel
theorem dX5_half_0 : decode cX5_half 0 = .ok (.aload_n 0, 1) := by decide +kernel
theorem dX5_half_1 : decode cX5_half 1 = .ok (.getfield 10, 3) := by decide +kernel
theorem dX5_half_4 : decode cX5_half 4 = .ok (.iload_n 1, 1) := by decide +kernel
theorem dX5_half_5 : decode cX5_half 5 = .ok (.invokevirtual 85, 3) := by decide +kernel
theorem dX5_half_8 : decode cX5_half 8 = .ok (.ifCond .eq 12, 3) := by decide +kernel
theorem dX5_half_11 : decode cX5_half 11 = .ok (.iload_n 2, 1) := by decide +kernel
theorem dX5_half_12 : decode cX5_half 12 = .ok (.ifCond .lt 8, 3) := by decide +kernel
theorem dX5_half_15 : decode cX5_half 15 = .ok (.iload_n 2, 1) := by decide +kernel
theorem dX5_half_16 : decode cX5_half 16 = .ok (.iconst 2, 1) := by decide +kernel
theorem dX5_half_17 : decode cX5_half 17 = .ok (.if_icmp .le 6, 3) := by decide +kernel
theorem dX5_half_20 : decode cX5_half 20 = .ok (.bipush (-2), 2) := by decide +kernel
theorem dX5_half_22 : decode cX5_half 22 = .ok (.ireturn, 1) := by decide +kernel
theorem dX5_half_23 : decode cX5_half 23 = .ok (.iload_n 2, 1) := by decide +kernel
theorem dX5_half_24 : decode cX5_half 24 = .ok (.ifCond .ne 9, 3) := by decide +kernel
theorem dX5_half_27 : decode cX5_half 27 = .ok (.aload_n 0, 1) := by decide +kernel
theorem dX5_half_28 : decode cX5_half 28 = .ok (.iload_n 1, 1) := by decide +kernel
theorem dX5_half_29 : decode cX5_half 29 = .ok (.invokevirtual 180, 3) := by decide +kernel
theorem dX5_half_32 : decode cX5_half 32 = .ok (.ireturn, 1) := by decide +kernel
theorem dX5_half_33 : decode cX5_half 33 = .ok (.aload_n 0, 1) := by decide +kernel
theorem dX5_half_34 : decode cX5_half 34 = .ok (.iload_n 1, 1) := by decide +kernel
theorem dX5_half_35 : decode cX5_half 35 = .ok (.invokevirtual 183, 3) := by decide +kernel
theorem dX5_half_38 : decode cX5_half 38 = .ok (.istore_n 3, 1) := by decide +kernel
theorem dX5_half_39 : decode cX5_half 39 = .ok (.iload_n 2, 1) := by decide +kernel
theorem dX5_half_40 : decode cX5_half 40 = .ok (.iconst 1, 1) := by decide +kernel
theorem dX5_half_41 : decode cX5_half 41 = .ok (.if_icmp .ne 7, 3) := by decide +kernel
theorem dX5_half_44 : decode cX5_half 44 = .ok (.iload_n 3, 1) := by decide +kernel
theorem dX5_half_45 : decode cX5_half 45 = .ok (.goto 10, 3) := by decide +kernel
theorem dX5_half_48 : decode cX5_half 48 = .ok (.aload_n 0, 1) := by decide +kernel
theorem dX5_half_49 : decode cX5_half 49 = .ok (.iconst 2, 1) := by decide +kernel
theorem dX5_half_50 : decode cX5_half 50 = .ok (.iload_n 1, 1) := by decide +kernel
theorem dX5_half_51 : decode cX5_half 51 = .ok (.iload_n 3, 1) := by decide +kernel
theorem dX5_half_52 : decode cX5_half 52 = .ok (.invokevirtual 164, 3) := by decide +kernel
theorem dX5_half_55 : decode cX5_half 55 = .ok (.ireturn, 1) := by decide +kernel
theorem dX5_halfWalked_0 : decode cX5_halfWalked 0 = .ok (.aload_n 0, 1) := by decide +kernel
theorem dX5_halfWalked_1 : decode cX5_halfWalked 1 = .ok (.iload_n 1, 1) := by decide +kernel
theorem dX5_halfWalked_2 : decode cX5_halfWalked 2 = .ok (.invokevirtual 167, 3) := by decide +kernel
theorem dX5_halfWalked_5 : decode cX5_halfWalked 5 = .ok (.iconst 0, 1) := by decide +kernel
theorem dX5_halfWalked_6 : decode cX5_halfWalked 6 = .ok (.istore_n 2, 1) := by decide +kernel
theorem dX5_halfWalked_7 : decode cX5_halfWalked 7 = .ok (.iload_n 2, 1) := by decide +kernel
theorem dX5_halfWalked_8 : decode cX5_halfWalked 8 = .ok (.sipush 600, 3) := by decide +kernel
theorem dX5_halfWalked_11 : decode cX5_halfWalked 11 = .ok (.if_icmp .ge 28, 3) := by decide +kernel
theorem dX5_halfWalked_14 : decode cX5_halfWalked 14 = .ok (.iconst 2, 1) := by decide +kernel
theorem dX5_halfWalked_15 : decode cX5_halfWalked 15 = .ok (.aload_n 0, 1) := by decide +kernel
theorem dX5_halfWalked_16 : decode cX5_halfWalked 16 = .ok (.getfield 38, 3) := by decide +kernel
theorem dX5_halfWalked_19 : decode cX5_halfWalked 19 = .ok (.iload_n 2, 1) := by decide +kernel
theorem dX5_halfWalked_20 : decode cX5_halfWalked 20 = .ok (.iaload, 1) := by decide +kernel
theorem dX5_halfWalked_21 : decode cX5_halfWalked 21 = .ok (.imul, 1) := by decide +kernel
theorem dX5_halfWalked_22 : decode cX5_halfWalked 22 = .ok (.aload_n 0, 1) := by decide +kernel
theorem dX5_halfWalked_23 : decode cX5_halfWalked 23 = .ok (.getfield 38, 3) := by decide +kernel
theorem dX5_halfWalked_26 : decode cX5_halfWalked 26 = .ok (.sipush 600, 3) := by decide +kernel
theorem dX5_halfWalked_29 : decode cX5_halfWalked 29 = .ok (.iaload, 1) := by decide +kernel
theorem dX5_halfWalked_30 : decode cX5_halfWalked 30 = .ok (.if_icmp .ge 9, 3) := by decide +kernel
theorem dX5_halfWalked_33 : decode cX5_halfWalked 33 = .ok (.iinc 2 1, 3) := by decide +kernel
theorem dX5_halfWalked_36 : decode cX5_halfWalked 36 = .ok (.goto (-29), 3) := by decide +kernel
theorem dX5_halfWalked_39 : decode cX5_halfWalked 39 = .ok (.iload_n 2, 1) := by decide +kernel
theorem dX5_halfWalked_40 : decode cX5_halfWalked 40 = .ok (.ireturn, 1) := by decide +kernel
theorem dX5_bestMinute_0 : decode cX5_bestMinute 0 = .ok (.iconst 0, 1) := by decide +kernel
theorem dX5_bestMinute_1 : decode cX5_bestMinute 1 = .ok (.istore_n 2, 1) := by decide +kernel
theorem dX5_bestMinute_2 : decode cX5_bestMinute 2 = .ok (.aload_n 0, 1) := by decide +kernel
theorem dX5_bestMinute_3 : decode cX5_bestMinute 3 = .ok (.iconst 2, 1) := by decide +kernel
theorem dX5_bestMinute_4 : decode cX5_bestMinute 4 = .ok (.iload_n 1, 1) := by decide +kernel
theorem dX5_bestMinute_5 : decode cX5_bestMinute 5 = .ok (.iconst 0, 1) := by decide +kernel
theorem dX5_bestMinute_6 : decode cX5_bestMinute 6 = .ok (.invokevirtual 164, 3) := by decide +kernel
theorem dX5_bestMinute_9 : decode cX5_bestMinute 9 = .ok (.istore_n 3, 1) := by decide +kernel
theorem dX5_bestMinute_10 : decode cX5_bestMinute 10 = .ok (.iconst 1, 1) := by decide +kernel
theorem dX5_bestMinute_11 : decode cX5_bestMinute 11 = .ok (.istore 4, 2) := by decide +kernel
theorem dX5_bestMinute_13 : decode cX5_bestMinute 13 = .ok (.iload 4, 2) := by decide +kernel
theorem dX5_bestMinute_15 : decode cX5_bestMinute 15 = .ok (.sipush 600, 3) := by decide +kernel
theorem dX5_bestMinute_18 : decode cX5_bestMinute 18 = .ok (.if_icmp .gt 31, 3) := by decide +kernel
theorem dX5_bestMinute_21 : decode cX5_bestMinute 21 = .ok (.aload_n 0, 1) := by decide +kernel
theorem dX5_bestMinute_22 : decode cX5_bestMinute 22 = .ok (.iconst 2, 1) := by decide +kernel
theorem dX5_bestMinute_23 : decode cX5_bestMinute 23 = .ok (.iload_n 1, 1) := by decide +kernel
theorem dX5_bestMinute_24 : decode cX5_bestMinute 24 = .ok (.iload 4, 2) := by decide +kernel
theorem dX5_bestMinute_26 : decode cX5_bestMinute 26 = .ok (.invokevirtual 164, 3) := by decide +kernel
theorem dX5_bestMinute_29 : decode cX5_bestMinute 29 = .ok (.istore 5, 2) := by decide +kernel
theorem dX5_bestMinute_31 : decode cX5_bestMinute 31 = .ok (.iload 5, 2) := by decide +kernel
theorem dX5_bestMinute_33 : decode cX5_bestMinute 33 = .ok (.iload_n 3, 1) := by decide +kernel
theorem dX5_bestMinute_34 : decode cX5_bestMinute 34 = .ok (.if_icmp .le 9, 3) := by decide +kernel
theorem dX5_bestMinute_37 : decode cX5_bestMinute 37 = .ok (.iload 5, 2) := by decide +kernel
theorem dX5_bestMinute_39 : decode cX5_bestMinute 39 = .ok (.istore_n 3, 1) := by decide +kernel
theorem dX5_bestMinute_40 : decode cX5_bestMinute 40 = .ok (.iload 4, 2) := by decide +kernel
theorem dX5_bestMinute_42 : decode cX5_bestMinute 42 = .ok (.istore_n 2, 1) := by decide +kernel
theorem dX5_bestMinute_43 : decode cX5_bestMinute 43 = .ok (.iinc 4 1, 3) := by decide +kernel
theorem dX5_bestMinute_46 : decode cX5_bestMinute 46 = .ok (.goto (-33), 3) := by decide +kernel
theorem dX5_bestMinute_49 : decode cX5_bestMinute 49 = .ok (.iload_n 2, 1) := by decide +kernel
theorem dX5_bestMinute_50 : decode cX5_bestMinute 50 = .ok (.ireturn, 1) := by decide +kernel
theorem dX5_layWalked_0 : decode cX5_layWalked 0 = .ok (.aload_n 0, 1) := by decide +kernel
theorem dX5_layWalked_1 : decode cX5_layWalked 1 = .ok (.getfield 10, 3) := by decide +kernel
theorem dX5_layWalked_4 : decode cX5_layWalked 4 = .ok (.getfield 92, 3) := by decide +kernel
theorem dX5_layWalked_7 : decode cX5_layWalked 7 = .ok (.iload_n 1, 1) := by decide +kernel
theorem dX5_layWalked_8 : decode cX5_layWalked 8 = .ok (.aaload, 1) := by decide +kernel
theorem dX5_layWalked_9 : decode cX5_layWalked 9 = .ok (.astore_n 2, 1) := by decide +kernel
theorem dX5_layWalked_10 : decode cX5_layWalked 10 = .ok (.aload_n 2, 1) := by decide +kernel
theorem dX5_layWalked_11 : decode cX5_layWalked 11 = .ok (.iconst 0, 1) := by decide +kernel
theorem dX5_layWalked_12 : decode cX5_layWalked 12 = .ok (.aload_n 0, 1) := by decide +kernel
theorem dX5_layWalked_13 : decode cX5_layWalked 13 = .ok (.getfield 10, 3) := by decide +kernel
theorem dX5_layWalked_16 : decode cX5_layWalked 16 = .ok (.getfield 82, 3) := by decide +kernel
theorem dX5_layWalked_19 : decode cX5_layWalked 19 = .ok (.invokevirtual 143, 3) := by decide +kernel
theorem dX5_layWalked_22 : decode cX5_layWalked 22 = .ok (.istore_n 3, 1) := by decide +kernel
theorem dX5_layWalked_23 : decode cX5_layWalked 23 = .ok (.aload_n 0, 1) := by decide +kernel
theorem dX5_layWalked_24 : decode cX5_layWalked 24 = .ok (.getfield 38, 3) := by decide +kernel
theorem dX5_layWalked_27 : decode cX5_layWalked 27 = .ok (.iconst 0, 1) := by decide +kernel
theorem dX5_layWalked_28 : decode cX5_layWalked 28 = .ok (.iconst 0, 1) := by decide +kernel
theorem dX5_layWalked_29 : decode cX5_layWalked 29 = .ok (.iastore, 1) := by decide +kernel
theorem dX5_layWalked_30 : decode cX5_layWalked 30 = .ok (.iconst 1, 1) := by decide +kernel
theorem dX5_layWalked_31 : decode cX5_layWalked 31 = .ok (.istore 4, 2) := by decide +kernel
theorem dX5_layWalked_33 : decode cX5_layWalked 33 = .ok (.iload 4, 2) := by decide +kernel
theorem dX5_layWalked_35 : decode cX5_layWalked 35 = .ok (.sipush 600, 3) := by decide +kernel
theorem dX5_layWalked_38 : decode cX5_layWalked 38 = .ok (.if_icmp .gt 51, 3) := by decide +kernel
theorem dX5_layWalked_41 : decode cX5_layWalked 41 = .ok (.aload_n 2, 1) := by decide +kernel
theorem dX5_layWalked_42 : decode cX5_layWalked 42 = .ok (.iload 4, 2) := by decide +kernel
theorem dX5_layWalked_44 : decode cX5_layWalked 44 = .ok (.aload_n 0, 1) := by decide +kernel
theorem dX5_layWalked_45 : decode cX5_layWalked 45 = .ok (.getfield 10, 3) := by decide +kernel
theorem dX5_layWalked_48 : decode cX5_layWalked 48 = .ok (.getfield 82, 3) := by decide +kernel
theorem dX5_layWalked_51 : decode cX5_layWalked 51 = .ok (.invokevirtual 143, 3) := by decide +kernel
theorem dX5_layWalked_54 : decode cX5_layWalked 54 = .ok (.istore 5, 2) := by decide +kernel
theorem dX5_layWalked_56 : decode cX5_layWalked 56 = .ok (.aload_n 0, 1) := by decide +kernel
theorem dX5_layWalked_57 : decode cX5_layWalked 57 = .ok (.getfield 38, 3) := by decide +kernel
theorem dX5_layWalked_60 : decode cX5_layWalked 60 = .ok (.iload 4, 2) := by decide +kernel
theorem dX5_layWalked_62 : decode cX5_layWalked 62 = .ok (.aload_n 0, 1) := by decide +kernel
theorem dX5_layWalked_63 : decode cX5_layWalked 63 = .ok (.getfield 38, 3) := by decide +kernel
theorem dX5_layWalked_66 : decode cX5_layWalked 66 = .ok (.iload 4, 2) := by decide +kernel
theorem dX5_layWalked_68 : decode cX5_layWalked 68 = .ok (.iconst 1, 1) := by decide +kernel
theorem dX5_layWalked_69 : decode cX5_layWalked 69 = .ok (.isub, 1) := by decide +kernel
theorem dX5_layWalked_70 : decode cX5_layWalked 70 = .ok (.iaload, 1) := by decide +kernel
theorem dX5_layWalked_71 : decode cX5_layWalked 71 = .ok (.iload 5, 2) := by decide +kernel
theorem dX5_layWalked_73 : decode cX5_layWalked 73 = .ok (.iload_n 3, 1) := by decide +kernel
theorem dX5_layWalked_74 : decode cX5_layWalked 74 = .ok (.isub, 1) := by decide +kernel
theorem dX5_layWalked_75 : decode cX5_layWalked 75 = .ok (.invokestatic 146, 3) := by decide +kernel
theorem dX5_layWalked_78 : decode cX5_layWalked 78 = .ok (.iadd, 1) := by decide +kernel
theorem dX5_layWalked_79 : decode cX5_layWalked 79 = .ok (.iastore, 1) := by decide +kernel
theorem dX5_layWalked_80 : decode cX5_layWalked 80 = .ok (.iload 5, 2) := by decide +kernel
theorem dX5_layWalked_82 : decode cX5_layWalked 82 = .ok (.istore_n 3, 1) := by decide +kernel
theorem dX5_layWalked_83 : decode cX5_layWalked 83 = .ok (.iinc 4 1, 3) := by decide +kernel
theorem dX5_layWalked_86 : decode cX5_layWalked 86 = .ok (.goto (-53), 3) := by decide +kernel
theorem dX5_layWalked_89 : decode cX5_layWalked 89 = .ok (.return_, 1) := by decide +kernel
theorem dX5_meet_0 : decode cX5_meet 0 = .ok (.aload_n 0, 1) := by decide +kernel
theorem dX5_meet_1 : decode cX5_meet 1 = .ok (.iload_n 1, 1) := by decide +kernel
theorem dX5_meet_2 : decode cX5_meet 2 = .ok (.iload_n 2, 1) := by decide +kernel
theorem dX5_meet_3 : decode cX5_meet 3 = .ok (.invokevirtual 186, 3) := by decide +kernel
theorem dX5_meet_6 : decode cX5_meet 6 = .ok (.ifCond .eq 12, 3) := by decide +kernel
theorem dX5_meet_9 : decode cX5_meet 9 = .ok (.iload_n 3, 1) := by decide +kernel
theorem dX5_meet_10 : decode cX5_meet 10 = .ok (.ifCond .lt 8, 3) := by decide +kernel
theorem dX5_meet_13 : decode cX5_meet 13 = .ok (.iload_n 3, 1) := by decide +kernel
theorem dX5_meet_14 : decode cX5_meet 14 = .ok (.iconst 3, 1) := by decide +kernel
theorem dX5_meet_15 : decode cX5_meet 15 = .ok (.if_icmp .le 6, 3) := by decide +kernel
theorem dX5_meet_18 : decode cX5_meet 18 = .ok (.bipush (-2), 2) := by decide +kernel
theorem dX5_meet_20 : decode cX5_meet 20 = .ok (.ireturn, 1) := by decide +kernel
theorem dX5_meet_21 : decode cX5_meet 21 = .ok (.aload_n 0, 1) := by decide +kernel
theorem dX5_meet_22 : decode cX5_meet 22 = .ok (.iload_n 1, 1) := by decide +kernel
theorem dX5_meet_23 : decode cX5_meet 23 = .ok (.iload_n 2, 1) := by decide +kernel
theorem dX5_meet_24 : decode cX5_meet 24 = .ok (.invokevirtual 190, 3) := by decide +kernel
theorem dX5_meet_27 : decode cX5_meet 27 = .ok (.iload_n 3, 1) := by decide +kernel
theorem dX5_meet_28 : decode cX5_meet 28 = .ok (.iconst 1, 1) := by decide +kernel
theorem dX5_meet_29 : decode cX5_meet 29 = .ok (.if_icmp .ne 9, 3) := by decide +kernel
theorem dX5_meet_32 : decode cX5_meet 32 = .ok (.aload_n 0, 1) := by decide +kernel
theorem dX5_meet_33 : decode cX5_meet 33 = .ok (.iconst 0, 1) := by decide +kernel
theorem dX5_meet_34 : decode cX5_meet 34 = .ok (.invokevirtual 193, 3) := by decide +kernel
theorem dX5_meet_37 : decode cX5_meet 37 = .ok (.ireturn, 1) := by decide +kernel
theorem dX5_meet_38 : decode cX5_meet 38 = .ok (.iload_n 3, 1) := by decide +kernel
theorem dX5_meet_39 : decode cX5_meet 39 = .ok (.iconst 2, 1) := by decide +kernel
theorem dX5_meet_40 : decode cX5_meet 40 = .ok (.if_icmp .ne 10, 3) := by decide +kernel
theorem dX5_meet_43 : decode cX5_meet 43 = .ok (.aload_n 0, 1) := by decide +kernel
theorem dX5_meet_44 : decode cX5_meet 44 = .ok (.invokevirtual 196, 3) := by decide +kernel
theorem dX5_meet_47 : decode cX5_meet 47 = .ok (.goto 20, 3) := by decide +kernel
theorem dX5_meet_50 : decode cX5_meet 50 = .ok (.iload_n 3, 1) := by decide +kernel
theorem dX5_meet_51 : decode cX5_meet 51 = .ok (.ifCond .ne 10, 3) := by decide +kernel
theorem dX5_meet_54 : decode cX5_meet 54 = .ok (.aload_n 0, 1) := by decide +kernel
theorem dX5_meet_55 : decode cX5_meet 55 = .ok (.invokevirtual 199, 3) := by decide +kernel
theorem dX5_meet_58 : decode cX5_meet 58 = .ok (.goto 9, 3) := by decide +kernel
theorem dX5_meet_61 : decode cX5_meet 61 = .ok (.aload_n 0, 1) := by decide +kernel
theorem dX5_meet_62 : decode cX5_meet 62 = .ok (.invokevirtual 199, 3) := by decide +kernel
theorem dX5_meet_65 : decode cX5_meet 65 = .ok (.iconst 2, 1) := by decide +kernel
theorem dX5_meet_66 : decode cX5_meet 66 = .ok (.irem, 1) := by decide +kernel
theorem dX5_meet_67 : decode cX5_meet 67 = .ok (.ireturn, 1) := by decide +kernel
theorem dX5_meetings_0 : decode cX5_meetings 0 = .ok (.iconst 0, 1) := by decide +kernel
theorem dX5_meetings_1 : decode cX5_meetings 1 = .ok (.istore_n 1, 1) := by decide +kernel
theorem dX5_meetings_2 : decode cX5_meetings 2 = .ok (.iconst 0, 1) := by decide +kernel
theorem dX5_meetings_3 : decode cX5_meetings 3 = .ok (.istore_n 2, 1) := by decide +kernel
theorem dX5_meetings_4 : decode cX5_meetings 4 = .ok (.iload_n 2, 1) := by decide +kernel
theorem dX5_meetings_5 : decode cX5_meetings 5 = .ok (.sipush 600, 3) := by decide +kernel
theorem dX5_meetings_8 : decode cX5_meetings 8 = .ok (.if_icmp .gt 20, 3) := by decide +kernel
theorem dX5_meetings_11 : decode cX5_meetings 11 = .ok (.aload_n 0, 1) := by decide +kernel
theorem dX5_meetings_12 : decode cX5_meetings 12 = .ok (.iload_n 2, 1) := by decide +kernel
theorem dX5_meetings_13 : decode cX5_meetings 13 = .ok (.invokevirtual 202, 3) := by decide +kernel
theorem dX5_meetings_16 : decode cX5_meetings 16 = .ok (.ifCond .eq 6, 3) := by decide +kernel
theorem dX5_meetings_19 : decode cX5_meetings 19 = .ok (.iinc 1 1, 3) := by decide +kernel
theorem dX5_meetings_22 : decode cX5_meetings 22 = .ok (.iinc 2 1, 3) := by decide +kernel
theorem dX5_meetings_25 : decode cX5_meetings 25 = .ok (.goto (-21), 3) := by decide +kernel
theorem dX5_meetings_28 : decode cX5_meetings 28 = .ok (.iload_n 1, 1) := by decide +kernel
theorem dX5_meetings_29 : decode cX5_meetings 29 = .ok (.ireturn, 1) := by decide +kernel
theorem dX5_lastMeeting_0 : decode cX5_lastMeeting 0 = .ok (.sipush 600, 3) := by decide +kernel
theorem dX5_lastMeeting_3 : decode cX5_lastMeeting 3 = .ok (.istore_n 1, 1) := by decide +kernel
theorem dX5_lastMeeting_4 : decode cX5_lastMeeting 4 = .ok (.iload_n 1, 1) := by decide +kernel
theorem dX5_lastMeeting_5 : decode cX5_lastMeeting 5 = .ok (.ifCond .lt 17, 3) := by decide +kernel
theorem dX5_lastMeeting_8 : decode cX5_lastMeeting 8 = .ok (.aload_n 0, 1) := by decide +kernel
theorem dX5_lastMeeting_9 : decode cX5_lastMeeting 9 = .ok (.iload_n 1, 1) := by decide +kernel
theorem dX5_lastMeeting_10 : decode cX5_lastMeeting 10 = .ok (.invokevirtual 202, 3) := by decide +kernel
theorem dX5_lastMeeting_13 : decode cX5_lastMeeting 13 = .ok (.ifCond .ne 9, 3) := by decide +kernel
theorem dX5_lastMeeting_16 : decode cX5_lastMeeting 16 = .ok (.iinc 1 (-1), 3) := by decide +kernel
theorem dX5_lastMeeting_19 : decode cX5_lastMeeting 19 = .ok (.goto (-15), 3) := by decide +kernel
theorem dX5_lastMeeting_22 : decode cX5_lastMeeting 22 = .ok (.iload_n 1, 1) := by decide +kernel
theorem dX5_lastMeeting_23 : decode cX5_lastMeeting 23 = .ok (.ifCond .ge 7, 3) := by decide +kernel
theorem dX5_lastMeeting_26 : decode cX5_lastMeeting 26 = .ok (.iconst (-1), 1) := by decide +kernel
theorem dX5_lastMeeting_27 : decode cX5_lastMeeting 27 = .ok (.goto 4, 3) := by decide +kernel
theorem dX5_lastMeeting_30 : decode cX5_lastMeeting 30 = .ok (.iload_n 1, 1) := by decide +kernel
theorem dX5_lastMeeting_31 : decode cX5_lastMeeting 31 = .ok (.ireturn, 1) := by decide +kernel
theorem dX5_when_0 : decode cX5_when 0 = .ok (.aload_n 0, 1) := by decide +kernel
theorem dX5_when_1 : decode cX5_when 1 = .ok (.iload_n 1, 1) := by decide +kernel
theorem dX5_when_2 : decode cX5_when 2 = .ok (.iload_n 2, 1) := by decide +kernel
theorem dX5_when_3 : decode cX5_when 3 = .ok (.invokevirtual 186, 3) := by decide +kernel
theorem dX5_when_6 : decode cX5_when 6 = .ok (.ifCond .eq 12, 3) := by decide +kernel
theorem dX5_when_9 : decode cX5_when 9 = .ok (.iload_n 3, 1) := by decide +kernel
theorem dX5_when_10 : decode cX5_when 10 = .ok (.ifCond .lt 8, 3) := by decide +kernel
theorem dX5_when_13 : decode cX5_when 13 = .ok (.iload_n 3, 1) := by decide +kernel
theorem dX5_when_14 : decode cX5_when 14 = .ok (.iconst 1, 1) := by decide +kernel
theorem dX5_when_15 : decode cX5_when 15 = .ok (.if_icmp .le 7, 3) := by decide +kernel
theorem dX5_when_18 : decode cX5_when 18 = .ok (.ldc2_w 205, 3) := by decide +kernel
theorem dX5_when_21 : decode cX5_when 21 = .ok (.lreturn, 1) := by decide +kernel
theorem dX5_when_22 : decode cX5_when 22 = .ok (.aload_n 0, 1) := by decide +kernel
theorem dX5_when_23 : decode cX5_when 23 = .ok (.iload_n 1, 1) := by decide +kernel
theorem dX5_when_24 : decode cX5_when 24 = .ok (.iload_n 2, 1) := by decide +kernel
theorem dX5_when_25 : decode cX5_when 25 = .ok (.invokevirtual 190, 3) := by decide +kernel
theorem dX5_when_28 : decode cX5_when 28 = .ok (.aload_n 0, 1) := by decide +kernel
theorem dX5_when_29 : decode cX5_when 29 = .ok (.iconst 0, 1) := by decide +kernel
theorem dX5_when_30 : decode cX5_when 30 = .ok (.invokevirtual 193, 3) := by decide +kernel
theorem dX5_when_33 : decode cX5_when 33 = .ok (.istore 4, 2) := by decide +kernel
theorem dX5_when_35 : decode cX5_when 35 = .ok (.iload 4, 2) := by decide +kernel
theorem dX5_when_37 : decode cX5_when 37 = .ok (.iconst (-1), 1) := by decide +kernel
theorem dX5_when_38 : decode cX5_when 38 = .ok (.if_icmp .ne 7, 3) := by decide +kernel
theorem dX5_when_41 : decode cX5_when 41 = .ok (.ldc2_w 205, 3) := by decide +kernel
theorem dX5_when_44 : decode cX5_when 44 = .ok (.lreturn, 1) := by decide +kernel
theorem dX5_when_45 : decode cX5_when 45 = .ok (.aload_n 0, 1) := by decide +kernel
theorem dX5_when_46 : decode cX5_when 46 = .ok (.iload 4, 2) := by decide +kernel
theorem dX5_when_48 : decode cX5_when 48 = .ok (.iconst 0, 1) := by decide +kernel
theorem dX5_when_49 : decode cX5_when 49 = .ok (.invokevirtual 207, 3) := by decide +kernel
theorem dX5_when_52 : decode cX5_when 52 = .ok (.invokestatic 146, 3) := by decide +kernel
theorem dX5_when_55 : decode cX5_when 55 = .ok (.i2l, 1) := by decide +kernel
theorem dX5_when_56 : decode cX5_when 56 = .ok (.lstore 5, 2) := by decide +kernel
theorem dX5_when_58 : decode cX5_when 58 = .ok (.lload 5, 2) := by decide +kernel
theorem dX5_when_60 : decode cX5_when 60 = .ok (.lconst 0, 1) := by decide +kernel
theorem dX5_when_61 : decode cX5_when 61 = .ok (.lcmp, 1) := by decide +kernel
theorem dX5_when_62 : decode cX5_when 62 = .ok (.ifCond .eq 11, 3) := by decide +kernel
theorem dX5_when_65 : decode cX5_when 65 = .ok (.iload 4, 2) := by decide +kernel
theorem dX5_when_67 : decode cX5_when 67 = .ok (.sipush 600, 3) := by decide +kernel
theorem dX5_when_70 : decode cX5_when 70 = .ok (.if_icmp .lt 15, 3) := by decide +kernel
theorem dX5_when_73 : decode cX5_when 73 = .ok (.iload_n 3, 1) := by decide +kernel
theorem dX5_when_74 : decode cX5_when 74 = .ok (.ifCond .ne 9, 3) := by decide +kernel
theorem dX5_when_77 : decode cX5_when 77 = .ok (.iload 4, 2) := by decide +kernel
theorem dX5_when_79 : decode cX5_when 79 = .ok (.i2l, 1) := by decide +kernel
theorem dX5_when_80 : decode cX5_when 80 = .ok (.goto 4, 3) := by decide +kernel
theorem dX5_when_83 : decode cX5_when 83 = .ok (.lconst 1, 1) := by decide +kernel
theorem dX5_when_84 : decode cX5_when 84 = .ok (.lreturn, 1) := by decide +kernel
theorem dX5_when_85 : decode cX5_when 85 = .ok (.lload 5, 2) := by decide +kernel
theorem dX5_when_87 : decode cX5_when 87 = .ok (.aload_n 0, 1) := by decide +kernel
theorem dX5_when_88 : decode cX5_when 88 = .ok (.iload 4, 2) := by decide +kernel
theorem dX5_when_90 : decode cX5_when 90 = .ok (.iconst 1, 1) := by decide +kernel
theorem dX5_when_91 : decode cX5_when 91 = .ok (.iadd, 1) := by decide +kernel
theorem dX5_when_92 : decode cX5_when 92 = .ok (.iconst 0, 1) := by decide +kernel
theorem dX5_when_93 : decode cX5_when 93 = .ok (.invokevirtual 207, 3) := by decide +kernel
theorem dX5_when_96 : decode cX5_when 96 = .ok (.invokestatic 146, 3) := by decide +kernel
theorem dX5_when_99 : decode cX5_when 99 = .ok (.i2l, 1) := by decide +kernel
theorem dX5_when_100 : decode cX5_when 100 = .ok (.ladd, 1) := by decide +kernel
theorem dX5_when_101 : decode cX5_when 101 = .ok (.lstore 7, 2) := by decide +kernel
theorem dX5_when_103 : decode cX5_when 103 = .ok (.iload 4, 2) := by decide +kernel
theorem dX5_when_105 : decode cX5_when 105 = .ok (.i2l, 1) := by decide +kernel
theorem dX5_when_106 : decode cX5_when 106 = .ok (.lload 7, 2) := by decide +kernel
theorem dX5_when_108 : decode cX5_when 108 = .ok (.lmul, 1) := by decide +kernel
theorem dX5_when_109 : decode cX5_when 109 = .ok (.lload 5, 2) := by decide +kernel
theorem dX5_when_111 : decode cX5_when 111 = .ok (.ladd, 1) := by decide +kernel
theorem dX5_when_112 : decode cX5_when 112 = .ok (.lload 7, 2) := by decide +kernel
theorem dX5_when_114 : decode cX5_when 114 = .ok (.iload_n 3, 1) := by decide +kernel
theorem dX5_when_115 : decode cX5_when 115 = .ok (.invokestatic 210, 3) := by decide +kernel
theorem dX5_when_118 : decode cX5_when 118 = .ok (.lreturn, 1) := by decide +kernel
theorem dX5_sure_0 : decode cX5_sure 0 = .ok (.aload_n 0, 1) := by decide +kernel
theorem dX5_sure_1 : decode cX5_sure 1 = .ok (.iload_n 1, 1) := by decide +kernel
theorem dX5_sure_2 : decode cX5_sure 2 = .ok (.iload_n 2, 1) := by decide +kernel
theorem dX5_sure_3 : decode cX5_sure 3 = .ok (.invokevirtual 186, 3) := by decide +kernel
theorem dX5_sure_6 : decode cX5_sure 6 = .ok (.ifCond .ne 6, 3) := by decide +kernel
theorem dX5_sure_9 : decode cX5_sure 9 = .ok (.bipush (-2), 2) := by decide +kernel
theorem dX5_sure_11 : decode cX5_sure 11 = .ok (.ireturn, 1) := by decide +kernel
theorem dX5_sure_12 : decode cX5_sure 12 = .ok (.aload_n 0, 1) := by decide +kernel
theorem dX5_sure_13 : decode cX5_sure 13 = .ok (.iload_n 1, 1) := by decide +kernel
theorem dX5_sure_14 : decode cX5_sure 14 = .ok (.iload_n 2, 1) := by decide +kernel
theorem dX5_sure_15 : decode cX5_sure 15 = .ok (.invokevirtual 190, 3) := by decide +kernel
theorem dX5_sure_18 : decode cX5_sure 18 = .ok (.iconst 0, 1) := by decide +kernel
theorem dX5_sure_19 : decode cX5_sure 19 = .ok (.istore_n 3, 1) := by decide +kernel
theorem dX5_sure_20 : decode cX5_sure 20 = .ok (.iload_n 3, 1) := by decide +kernel
theorem dX5_sure_21 : decode cX5_sure 21 = .ok (.bipush 120, 2) := by decide +kernel
theorem dX5_sure_23 : decode cX5_sure 23 = .ok (.if_icmp .gt 18, 3) := by decide +kernel
theorem dX5_sure_26 : decode cX5_sure 26 = .ok (.aload_n 0, 1) := by decide +kernel
theorem dX5_sure_27 : decode cX5_sure 27 = .ok (.iload_n 3, 1) := by decide +kernel
theorem dX5_sure_28 : decode cX5_sure 28 = .ok (.invokevirtual 193, 3) := by decide +kernel
theorem dX5_sure_31 : decode cX5_sure 31 = .ok (.iconst (-1), 1) := by decide +kernel
theorem dX5_sure_32 : decode cX5_sure 32 = .ok (.if_icmp .eq 9, 3) := by decide +kernel
theorem dX5_sure_35 : decode cX5_sure 35 = .ok (.iinc 3 1, 3) := by decide +kernel
theorem dX5_sure_38 : decode cX5_sure 38 = .ok (.goto (-18), 3) := by decide +kernel
theorem dX5_sure_41 : decode cX5_sure 41 = .ok (.iload_n 3, 1) := by decide +kernel
theorem dX5_sure_42 : decode cX5_sure 42 = .ok (.ifCond .ne 7, 3) := by decide +kernel
theorem dX5_sure_45 : decode cX5_sure 45 = .ok (.iconst (-1), 1) := by decide +kernel
theorem dX5_sure_46 : decode cX5_sure 46 = .ok (.goto 6, 3) := by decide +kernel
theorem dX5_sure_49 : decode cX5_sure 49 = .ok (.iload_n 3, 1) := by decide +kernel
theorem dX5_sure_50 : decode cX5_sure 50 = .ok (.iconst 1, 1) := by decide +kernel
theorem dX5_sure_51 : decode cX5_sure 51 = .ok (.isub, 1) := by decide +kernel
theorem dX5_sure_52 : decode cX5_sure 52 = .ok (.ireturn, 1) := by decide +kernel
theorem dX5_apart_0 : decode cX5_apart 0 = .ok (.aload_n 0, 1) := by decide +kernel
theorem dX5_apart_1 : decode cX5_apart 1 = .ok (.iload_n 1, 1) := by decide +kernel
theorem dX5_apart_2 : decode cX5_apart 2 = .ok (.iload_n 2, 1) := by decide +kernel
theorem dX5_apart_3 : decode cX5_apart 3 = .ok (.invokevirtual 186, 3) := by decide +kernel
theorem dX5_apart_6 : decode cX5_apart 6 = .ok (.ifCond .eq 12, 3) := by decide +kernel
theorem dX5_apart_9 : decode cX5_apart 9 = .ok (.iload_n 3, 1) := by decide +kernel
theorem dX5_apart_10 : decode cX5_apart 10 = .ok (.ifCond .lt 8, 3) := by decide +kernel
theorem dX5_apart_13 : decode cX5_apart 13 = .ok (.iload_n 3, 1) := by decide +kernel
theorem dX5_apart_14 : decode cX5_apart 14 = .ok (.iconst 2, 1) := by decide +kernel
theorem dX5_apart_15 : decode cX5_apart 15 = .ok (.if_icmp .le 6, 3) := by decide +kernel
theorem dX5_apart_18 : decode cX5_apart 18 = .ok (.bipush (-2), 2) := by decide +kernel
theorem dX5_apart_20 : decode cX5_apart 20 = .ok (.ireturn, 1) := by decide +kernel
theorem dX5_apart_21 : decode cX5_apart 21 = .ok (.aload_n 0, 1) := by decide +kernel
theorem dX5_apart_22 : decode cX5_apart 22 = .ok (.iload_n 1, 1) := by decide +kernel
theorem dX5_apart_23 : decode cX5_apart 23 = .ok (.iload_n 2, 1) := by decide +kernel
theorem dX5_apart_24 : decode cX5_apart 24 = .ok (.invokevirtual 190, 3) := by decide +kernel
theorem dX5_apart_27 : decode cX5_apart 27 = .ok (.iload_n 3, 1) := by decide +kernel
theorem dX5_apart_28 : decode cX5_apart 28 = .ok (.iconst 2, 1) := by decide +kernel
theorem dX5_apart_29 : decode cX5_apart 29 = .ok (.if_icmp .ne 9, 3) := by decide +kernel
theorem dX5_apart_32 : decode cX5_apart 32 = .ok (.aload_n 0, 1) := by decide +kernel
theorem dX5_apart_33 : decode cX5_apart 33 = .ok (.iload_n 1, 1) := by decide +kernel
theorem dX5_apart_34 : decode cX5_apart 34 = .ok (.invokevirtual 214, 3) := by decide +kernel
theorem dX5_apart_37 : decode cX5_apart 37 = .ok (.ireturn, 1) := by decide +kernel
theorem dX5_apart_38 : decode cX5_apart 38 = .ok (.aload_n 0, 1) := by decide +kernel
theorem dX5_apart_39 : decode cX5_apart 39 = .ok (.invokevirtual 217, 3) := by decide +kernel
theorem dX5_apart_42 : decode cX5_apart 42 = .ok (.istore 4, 2) := by decide +kernel
theorem dX5_apart_44 : decode cX5_apart 44 = .ok (.iload_n 3, 1) := by decide +kernel
theorem dX5_apart_45 : decode cX5_apart 45 = .ok (.iconst 1, 1) := by decide +kernel
theorem dX5_apart_46 : decode cX5_apart 46 = .ok (.if_icmp .ne 8, 3) := by decide +kernel
theorem dX5_apart_49 : decode cX5_apart 49 = .ok (.iload 4, 2) := by decide +kernel
theorem dX5_apart_51 : decode cX5_apart 51 = .ok (.goto 13, 3) := by decide +kernel
theorem dX5_apart_54 : decode cX5_apart 54 = .ok (.aload_n 0, 1) := by decide +kernel
theorem dX5_apart_55 : decode cX5_apart 55 = .ok (.iload 4, 2) := by decide +kernel
theorem dX5_apart_57 : decode cX5_apart 57 = .ok (.iconst 0, 1) := by decide +kernel
theorem dX5_apart_58 : decode cX5_apart 58 = .ok (.invokevirtual 207, 3) := by decide +kernel
theorem dX5_apart_61 : decode cX5_apart 61 = .ok (.invokestatic 146, 3) := by decide +kernel
theorem dX5_apart_64 : decode cX5_apart 64 = .ok (.ireturn, 1) := by decide +kernel
theorem dX5_farthestMinute_0 : decode cX5_farthestMinute 0 = .ok (.iconst 0, 1) := by decide +kernel
theorem dX5_farthestMinute_1 : decode cX5_farthestMinute 1 = .ok (.istore_n 1, 1) := by decide +kernel
theorem dX5_farthestMinute_2 : decode cX5_farthestMinute 2 = .ok (.aload_n 0, 1) := by decide +kernel
theorem dX5_farthestMinute_3 : decode cX5_farthestMinute 3 = .ok (.iconst 0, 1) := by decide +kernel
theorem dX5_farthestMinute_4 : decode cX5_farthestMinute 4 = .ok (.iconst 0, 1) := by decide +kernel
theorem dX5_farthestMinute_5 : decode cX5_farthestMinute 5 = .ok (.invokevirtual 207, 3) := by decide +kernel
theorem dX5_farthestMinute_8 : decode cX5_farthestMinute 8 = .ok (.invokestatic 146, 3) := by decide +kernel
theorem dX5_farthestMinute_11 : decode cX5_farthestMinute 11 = .ok (.istore_n 2, 1) := by decide +kernel
theorem dX5_farthestMinute_12 : decode cX5_farthestMinute 12 = .ok (.iconst 1, 1) := by decide +kernel
theorem dX5_farthestMinute_13 : decode cX5_farthestMinute 13 = .ok (.istore_n 3, 1) := by decide +kernel
theorem dX5_farthestMinute_14 : decode cX5_farthestMinute 14 = .ok (.iload_n 3, 1) := by decide +kernel
theorem dX5_farthestMinute_15 : decode cX5_farthestMinute 15 = .ok (.sipush 600, 3) := by decide +kernel
theorem dX5_farthestMinute_18 : decode cX5_farthestMinute 18 = .ok (.if_icmp .gt 31, 3) := by decide +kernel
theorem dX5_farthestMinute_21 : decode cX5_farthestMinute 21 = .ok (.aload_n 0, 1) := by decide +kernel
theorem dX5_farthestMinute_22 : decode cX5_farthestMinute 22 = .ok (.iload_n 3, 1) := by decide +kernel
theorem dX5_farthestMinute_23 : decode cX5_farthestMinute 23 = .ok (.iconst 0, 1) := by decide +kernel
theorem dX5_farthestMinute_24 : decode cX5_farthestMinute 24 = .ok (.invokevirtual 207, 3) := by decide +kernel
theorem dX5_farthestMinute_27 : decode cX5_farthestMinute 27 = .ok (.invokestatic 146, 3) := by decide +kernel
theorem dX5_farthestMinute_30 : decode cX5_farthestMinute 30 = .ok (.istore 4, 2) := by decide +kernel
theorem dX5_farthestMinute_32 : decode cX5_farthestMinute 32 = .ok (.iload 4, 2) := by decide +kernel
theorem dX5_farthestMinute_34 : decode cX5_farthestMinute 34 = .ok (.iload_n 2, 1) := by decide +kernel
theorem dX5_farthestMinute_35 : decode cX5_farthestMinute 35 = .ok (.if_icmp .le 8, 3) := by decide +kernel
theorem dX5_farthestMinute_38 : decode cX5_farthestMinute 38 = .ok (.iload 4, 2) := by decide +kernel
theorem dX5_farthestMinute_40 : decode cX5_farthestMinute 40 = .ok (.istore_n 2, 1) := by decide +kernel
theorem dX5_farthestMinute_41 : decode cX5_farthestMinute 41 = .ok (.iload_n 3, 1) := by decide +kernel
theorem dX5_farthestMinute_42 : decode cX5_farthestMinute 42 = .ok (.istore_n 1, 1) := by decide +kernel
theorem dX5_farthestMinute_43 : decode cX5_farthestMinute 43 = .ok (.iinc 3 1, 3) := by decide +kernel
theorem dX5_farthestMinute_46 : decode cX5_farthestMinute 46 = .ok (.goto (-32), 3) := by decide +kernel
theorem dX5_farthestMinute_49 : decode cX5_farthestMinute 49 = .ok (.iload_n 1, 1) := by decide +kernel
theorem dX5_farthestMinute_50 : decode cX5_farthestMinute 50 = .ok (.ireturn, 1) := by decide +kernel
theorem dX5_nearMinutes_0 : decode cX5_nearMinutes 0 = .ok (.iconst 0, 1) := by decide +kernel
theorem dX5_nearMinutes_1 : decode cX5_nearMinutes 1 = .ok (.istore_n 2, 1) := by decide +kernel
theorem dX5_nearMinutes_2 : decode cX5_nearMinutes 2 = .ok (.iconst 0, 1) := by decide +kernel
theorem dX5_nearMinutes_3 : decode cX5_nearMinutes 3 = .ok (.istore_n 3, 1) := by decide +kernel
theorem dX5_nearMinutes_4 : decode cX5_nearMinutes 4 = .ok (.iload_n 3, 1) := by decide +kernel
theorem dX5_nearMinutes_5 : decode cX5_nearMinutes 5 = .ok (.sipush 600, 3) := by decide +kernel
theorem dX5_nearMinutes_8 : decode cX5_nearMinutes 8 = .ok (.if_icmp .gt 31, 3) := by decide +kernel
theorem dX5_nearMinutes_11 : decode cX5_nearMinutes 11 = .ok (.aload_n 0, 1) := by decide +kernel
theorem dX5_nearMinutes_12 : decode cX5_nearMinutes 12 = .ok (.iload_n 3, 1) := by decide +kernel
theorem dX5_nearMinutes_13 : decode cX5_nearMinutes 13 = .ok (.iconst 0, 1) := by decide +kernel
theorem dX5_nearMinutes_14 : decode cX5_nearMinutes 14 = .ok (.invokevirtual 207, 3) := by decide +kernel
theorem dX5_nearMinutes_17 : decode cX5_nearMinutes 17 = .ok (.invokestatic 146, 3) := by decide +kernel
theorem dX5_nearMinutes_20 : decode cX5_nearMinutes 20 = .ok (.aload_n 0, 1) := by decide +kernel
theorem dX5_nearMinutes_21 : decode cX5_nearMinutes 21 = .ok (.iconst 0, 1) := by decide +kernel
theorem dX5_nearMinutes_22 : decode cX5_nearMinutes 22 = .ok (.iload_n 1, 1) := by decide +kernel
theorem dX5_nearMinutes_23 : decode cX5_nearMinutes 23 = .ok (.iload_n 3, 1) := by decide +kernel
theorem dX5_nearMinutes_24 : decode cX5_nearMinutes 24 = .ok (.invokevirtual 164, 3) := by decide +kernel
theorem dX5_nearMinutes_27 : decode cX5_nearMinutes 27 = .ok (.if_icmp .gt 6, 3) := by decide +kernel
theorem dX5_nearMinutes_30 : decode cX5_nearMinutes 30 = .ok (.iinc 2 1, 3) := by decide +kernel
theorem dX5_nearMinutes_33 : decode cX5_nearMinutes 33 = .ok (.iinc 3 1, 3) := by decide +kernel
theorem dX5_nearMinutes_36 : decode cX5_nearMinutes 36 = .ok (.goto (-32), 3) := by decide +kernel
theorem dX5_nearMinutes_39 : decode cX5_nearMinutes 39 = .ok (.iload_n 2, 1) := by decide +kernel
theorem dX5_nearMinutes_40 : decode cX5_nearMinutes 40 = .ok (.ireturn, 1) := by decide +kernel
theorem dX5_areTwo_0 : decode cX5_areTwo 0 = .ok (.aload_n 0, 1) := by decide +kernel
theorem dX5_areTwo_1 : decode cX5_areTwo 1 = .ok (.getfield 10, 3) := by decide +kernel
theorem dX5_areTwo_4 : decode cX5_areTwo 4 = .ok (.iload_n 1, 1) := by decide +kernel
theorem dX5_areTwo_5 : decode cX5_areTwo 5 = .ok (.invokevirtual 85, 3) := by decide +kernel
theorem dX5_areTwo_8 : decode cX5_areTwo 8 = .ok (.ifCond .eq 23, 3) := by decide +kernel
theorem dX5_areTwo_11 : decode cX5_areTwo 11 = .ok (.aload_n 0, 1) := by decide +kernel
theorem dX5_areTwo_12 : decode cX5_areTwo 12 = .ok (.getfield 10, 3) := by decide +kernel
theorem dX5_areTwo_15 : decode cX5_areTwo 15 = .ok (.iload_n 2, 1) := by decide +kernel
theorem dX5_areTwo_16 : decode cX5_areTwo 16 = .ok (.invokevirtual 85, 3) := by decide +kernel
theorem dX5_areTwo_19 : decode cX5_areTwo 19 = .ok (.ifCond .eq 12, 3) := by decide +kernel
theorem dX5_areTwo_22 : decode cX5_areTwo 22 = .ok (.iload_n 1, 1) := by decide +kernel
theorem dX5_areTwo_23 : decode cX5_areTwo 23 = .ok (.iload_n 2, 1) := by decide +kernel
theorem dX5_areTwo_24 : decode cX5_areTwo 24 = .ok (.if_icmp .eq 7, 3) := by decide +kernel
theorem dX5_areTwo_27 : decode cX5_areTwo 27 = .ok (.iconst 1, 1) := by decide +kernel
theorem dX5_areTwo_28 : decode cX5_areTwo 28 = .ok (.goto 4, 3) := by decide +kernel
theorem dX5_areTwo_31 : decode cX5_areTwo 31 = .ok (.iconst 0, 1) := by decide +kernel
theorem dX5_areTwo_32 : decode cX5_areTwo 32 = .ok (.ireturn, 1) := by decide +kernel
theorem dX5_layTwo_0 : decode cX5_layTwo 0 = .ok (.aload_n 0, 1) := by decide +kernel
theorem dX5_layTwo_1 : decode cX5_layTwo 1 = .ok (.getfield 10, 3) := by decide +kernel
theorem dX5_layTwo_4 : decode cX5_layTwo 4 = .ok (.getfield 92, 3) := by decide +kernel
theorem dX5_layTwo_7 : decode cX5_layTwo 7 = .ok (.iload_n 1, 1) := by decide +kernel
theorem dX5_layTwo_8 : decode cX5_layTwo 8 = .ok (.aaload, 1) := by decide +kernel
theorem dX5_layTwo_9 : decode cX5_layTwo 9 = .ok (.aload_n 0, 1) := by decide +kernel
theorem dX5_layTwo_10 : decode cX5_layTwo 10 = .ok (.getfield 38, 3) := by decide +kernel
theorem dX5_layTwo_13 : decode cX5_layTwo 13 = .ok (.aload_n 0, 1) := by decide +kernel
theorem dX5_layTwo_14 : decode cX5_layTwo 14 = .ok (.getfield 10, 3) := by decide +kernel
theorem dX5_layTwo_17 : decode cX5_layTwo 17 = .ok (.getfield 82, 3) := by decide +kernel
theorem dX5_layTwo_20 : decode cX5_layTwo 20 = .ok (.invokevirtual 220, 3) := by decide +kernel
theorem dX5_layTwo_23 : decode cX5_layTwo 23 = .ok (.aload_n 0, 1) := by decide +kernel
theorem dX5_layTwo_24 : decode cX5_layTwo 24 = .ok (.getfield 10, 3) := by decide +kernel
theorem dX5_layTwo_27 : decode cX5_layTwo 27 = .ok (.getfield 92, 3) := by decide +kernel
theorem dX5_layTwo_30 : decode cX5_layTwo 30 = .ok (.iload_n 2, 1) := by decide +kernel
theorem dX5_layTwo_31 : decode cX5_layTwo 31 = .ok (.aaload, 1) := by decide +kernel
theorem dX5_layTwo_32 : decode cX5_layTwo 32 = .ok (.aload_n 0, 1) := by decide +kernel
theorem dX5_layTwo_33 : decode cX5_layTwo 33 = .ok (.getfield 42, 3) := by decide +kernel
theorem dX5_layTwo_36 : decode cX5_layTwo 36 = .ok (.aload_n 0, 1) := by decide +kernel
theorem dX5_layTwo_37 : decode cX5_layTwo 37 = .ok (.getfield 10, 3) := by decide +kernel
theorem dX5_layTwo_40 : decode cX5_layTwo 40 = .ok (.getfield 82, 3) := by decide +kernel
theorem dX5_layTwo_43 : decode cX5_layTwo 43 = .ok (.invokevirtual 220, 3) := by decide +kernel
theorem dX5_layTwo_46 : decode cX5_layTwo 46 = .ok (.return_, 1) := by decide +kernel
theorem dX5_gap_0 : decode cX5_gap 0 = .ok (.aload_n 0, 1) := by decide +kernel
theorem dX5_gap_1 : decode cX5_gap 1 = .ok (.getfield 38, 3) := by decide +kernel
theorem dX5_gap_4 : decode cX5_gap 4 = .ok (.iconst 0, 1) := by decide +kernel
theorem dX5_gap_5 : decode cX5_gap 5 = .ok (.iload_n 1, 1) := by decide +kernel
theorem dX5_gap_6 : decode cX5_gap 6 = .ok (.iload_n 2, 1) := by decide +kernel
theorem dX5_gap_7 : decode cX5_gap 7 = .ok (.isub, 1) := by decide +kernel
theorem dX5_gap_8 : decode cX5_gap 8 = .ok (.invokestatic 224, 3) := by decide +kernel
theorem dX5_gap_11 : decode cX5_gap 11 = .ok (.iaload, 1) := by decide +kernel
theorem dX5_gap_12 : decode cX5_gap 12 = .ok (.aload_n 0, 1) := by decide +kernel
theorem dX5_gap_13 : decode cX5_gap 13 = .ok (.getfield 42, 3) := by decide +kernel
theorem dX5_gap_16 : decode cX5_gap 16 = .ok (.iload_n 1, 1) := by decide +kernel
theorem dX5_gap_17 : decode cX5_gap 17 = .ok (.iaload, 1) := by decide +kernel
theorem dX5_gap_18 : decode cX5_gap 18 = .ok (.isub, 1) := by decide +kernel
theorem dX5_gap_19 : decode cX5_gap 19 = .ok (.ireturn, 1) := by decide +kernel
theorem dX5_meetIn_0 : decode cX5_meetIn 0 = .ok (.aload_n 0, 1) := by decide +kernel
theorem dX5_meetIn_1 : decode cX5_meetIn 1 = .ok (.iload_n 1, 1) := by decide +kernel
theorem dX5_meetIn_2 : decode cX5_meetIn 2 = .ok (.iconst 0, 1) := by decide +kernel
theorem dX5_meetIn_3 : decode cX5_meetIn 3 = .ok (.invokevirtual 207, 3) := by decide +kernel
theorem dX5_meetIn_6 : decode cX5_meetIn 6 = .ok (.istore_n 2, 1) := by decide +kernel
theorem dX5_meetIn_7 : decode cX5_meetIn 7 = .ok (.iload_n 2, 1) := by decide +kernel
theorem dX5_meetIn_8 : decode cX5_meetIn 8 = .ok (.ifCond .ne 5, 3) := by decide +kernel
theorem dX5_meetIn_11 : decode cX5_meetIn 11 = .ok (.iconst 1, 1) := by decide +kernel
theorem dX5_meetIn_12 : decode cX5_meetIn 12 = .ok (.ireturn, 1) := by decide +kernel
theorem dX5_meetIn_13 : decode cX5_meetIn 13 = .ok (.iload_n 1, 1) := by decide +kernel
theorem dX5_meetIn_14 : decode cX5_meetIn 14 = .ok (.sipush 600, 3) := by decide +kernel
theorem dX5_meetIn_17 : decode cX5_meetIn 17 = .ok (.if_icmp .ge 24, 3) := by decide +kernel
theorem dX5_meetIn_20 : decode cX5_meetIn 20 = .ok (.iload_n 2, 1) := by decide +kernel
theorem dX5_meetIn_21 : decode cX5_meetIn 21 = .ok (.i2l, 1) := by decide +kernel
theorem dX5_meetIn_22 : decode cX5_meetIn 22 = .ok (.aload_n 0, 1) := by decide +kernel
theorem dX5_meetIn_23 : decode cX5_meetIn 23 = .ok (.iload_n 1, 1) := by decide +kernel
theorem dX5_meetIn_24 : decode cX5_meetIn 24 = .ok (.iconst 1, 1) := by decide +kernel
theorem dX5_meetIn_25 : decode cX5_meetIn 25 = .ok (.iadd, 1) := by decide +kernel
theorem dX5_meetIn_26 : decode cX5_meetIn 26 = .ok (.iconst 0, 1) := by decide +kernel
theorem dX5_meetIn_27 : decode cX5_meetIn 27 = .ok (.invokevirtual 207, 3) := by decide +kernel
theorem dX5_meetIn_30 : decode cX5_meetIn 30 = .ok (.i2l, 1) := by decide +kernel
theorem dX5_meetIn_31 : decode cX5_meetIn 31 = .ok (.invokestatic 174, 3) := by decide +kernel
theorem dX5_meetIn_34 : decode cX5_meetIn 34 = .ok (.ifCond .eq 7, 3) := by decide +kernel
theorem dX5_meetIn_37 : decode cX5_meetIn 37 = .ok (.iconst 1, 1) := by decide +kernel
theorem dX5_meetIn_38 : decode cX5_meetIn 38 = .ok (.goto 4, 3) := by decide +kernel
theorem dX5_meetIn_41 : decode cX5_meetIn 41 = .ok (.iconst 0, 1) := by decide +kernel
theorem dX5_meetIn_42 : decode cX5_meetIn 42 = .ok (.ireturn, 1) := by decide +kernel
theorem dX5_firstMeeting_0 : decode cX5_firstMeeting 0 = .ok (.aload_n 0, 1) := by decide +kernel
theorem dX5_firstMeeting_1 : decode cX5_firstMeeting 1 = .ok (.iconst 0, 1) := by decide +kernel
theorem dX5_firstMeeting_2 : decode cX5_firstMeeting 2 = .ok (.iload_n 1, 1) := by decide +kernel
theorem dX5_firstMeeting_3 : decode cX5_firstMeeting 3 = .ok (.invokevirtual 207, 3) := by decide +kernel
theorem dX5_firstMeeting_6 : decode cX5_firstMeeting 6 = .ok (.istore_n 2, 1) := by decide +kernel
theorem dX5_firstMeeting_7 : decode cX5_firstMeeting 7 = .ok (.iconst 0, 1) := by decide +kernel
theorem dX5_firstMeeting_8 : decode cX5_firstMeeting 8 = .ok (.istore_n 3, 1) := by decide +kernel
theorem dX5_firstMeeting_9 : decode cX5_firstMeeting 9 = .ok (.iload_n 3, 1) := by decide +kernel
theorem dX5_firstMeeting_10 : decode cX5_firstMeeting 10 = .ok (.sipush 600, 3) := by decide +kernel
theorem dX5_firstMeeting_13 : decode cX5_firstMeeting 13 = .ok (.if_icmp .ge 39, 3) := by decide +kernel
theorem dX5_firstMeeting_16 : decode cX5_firstMeeting 16 = .ok (.aload_n 0, 1) := by decide +kernel
theorem dX5_firstMeeting_17 : decode cX5_firstMeeting 17 = .ok (.iload_n 3, 1) := by decide +kernel
theorem dX5_firstMeeting_18 : decode cX5_firstMeeting 18 = .ok (.iconst 1, 1) := by decide +kernel
theorem dX5_firstMeeting_19 : decode cX5_firstMeeting 19 = .ok (.iadd, 1) := by decide +kernel
theorem dX5_firstMeeting_20 : decode cX5_firstMeeting 20 = .ok (.iload_n 1, 1) := by decide +kernel
theorem dX5_firstMeeting_21 : decode cX5_firstMeeting 21 = .ok (.invokevirtual 207, 3) := by decide +kernel
theorem dX5_firstMeeting_24 : decode cX5_firstMeeting 24 = .ok (.istore 4, 2) := by decide +kernel
theorem dX5_firstMeeting_26 : decode cX5_firstMeeting 26 = .ok (.iload_n 2, 1) := by decide +kernel
theorem dX5_firstMeeting_27 : decode cX5_firstMeeting 27 = .ok (.ifCond .eq 14, 3) := by decide +kernel
theorem dX5_firstMeeting_30 : decode cX5_firstMeeting 30 = .ok (.iload_n 2, 1) := by decide +kernel
theorem dX5_firstMeeting_31 : decode cX5_firstMeeting 31 = .ok (.i2l, 1) := by decide +kernel
theorem dX5_firstMeeting_32 : decode cX5_firstMeeting 32 = .ok (.iload 4, 2) := by decide +kernel
theorem dX5_firstMeeting_34 : decode cX5_firstMeeting 34 = .ok (.i2l, 1) := by decide +kernel
theorem dX5_firstMeeting_35 : decode cX5_firstMeeting 35 = .ok (.invokestatic 174, 3) := by decide +kernel
theorem dX5_firstMeeting_38 : decode cX5_firstMeeting 38 = .ok (.ifCond .eq 5, 3) := by decide +kernel
theorem dX5_firstMeeting_41 : decode cX5_firstMeeting 41 = .ok (.iload_n 3, 1) := by decide +kernel
theorem dX5_firstMeeting_42 : decode cX5_firstMeeting 42 = .ok (.ireturn, 1) := by decide +kernel
theorem dX5_firstMeeting_43 : decode cX5_firstMeeting 43 = .ok (.iload 4, 2) := by decide +kernel
theorem dX5_firstMeeting_45 : decode cX5_firstMeeting 45 = .ok (.istore_n 2, 1) := by decide +kernel
theorem dX5_firstMeeting_46 : decode cX5_firstMeeting 46 = .ok (.iinc 3 1, 3) := by decide +kernel
theorem dX5_firstMeeting_49 : decode cX5_firstMeeting 49 = .ok (.goto (-40), 3) := by decide +kernel
theorem dX5_firstMeeting_52 : decode cX5_firstMeeting 52 = .ok (.iload_n 2, 1) := by decide +kernel
theorem dX5_firstMeeting_53 : decode cX5_firstMeeting 53 = .ok (.ifCond .ne 9, 3) := by decide +kernel
theorem dX5_firstMeeting_56 : decode cX5_firstMeeting 56 = .ok (.sipush 600, 3) := by decide +kernel
theorem dX5_firstMeeting_59 : decode cX5_firstMeeting 59 = .ok (.goto 4, 3) := by decide +kernel
theorem dX5_firstMeeting_62 : decode cX5_firstMeeting 62 = .ok (.iconst (-1), 1) := by decide +kernel
theorem dX5_firstMeeting_63 : decode cX5_firstMeeting 63 = .ok (.ireturn, 1) := by decide +kernel
theorem dX5_fits_0 : decode cX5_fits 0 = .ok (.iload_n 1, 1) := by decide +kernel
theorem dX5_fits_1 : decode cX5_fits 1 = .ok (.invokestatic 227, 3) := by decide +kernel
theorem dX5_fits_4 : decode cX5_fits 4 = .ok (.ifCond .ne 6, 3) := by decide +kernel
theorem dX5_fits_7 : decode cX5_fits 7 = .ok (.bipush (-2), 2) := by decide +kernel
theorem dX5_fits_9 : decode cX5_fits 9 = .ok (.ireturn, 1) := by decide +kernel
theorem dX5_fits_10 : decode cX5_fits 10 = .ok (.aload_n 0, 1) := by decide +kernel
theorem dX5_fits_11 : decode cX5_fits 11 = .ok (.getfield 34, 3) := by decide +kernel
theorem dX5_fits_14 : decode cX5_fits 14 = .ok (.iload_n 1, 1) := by decide +kernel
theorem dX5_fits_15 : decode cX5_fits 15 = .ok (.aaload, 1) := by decide +kernel
theorem dX5_fits_16 : decode cX5_fits 16 = .ok (.astore_n 2, 1) := by decide +kernel
theorem dX5_fits_17 : decode cX5_fits 17 = .ok (.aload_n 2, 1) := by decide +kernel
theorem dX5_fits_18 : decode cX5_fits 18 = .ok (.invokevirtual 230, 3) := by decide +kernel
theorem dX5_fits_21 : decode cX5_fits 21 = .ok (.ifCond .eq 6, 3) := by decide +kernel
theorem dX5_fits_24 : decode cX5_fits 24 = .ok (.bipush (-11), 2) := by decide +kernel
theorem dX5_fits_26 : decode cX5_fits 26 = .ok (.ireturn, 1) := by decide +kernel
theorem dX5_fits_27 : decode cX5_fits 27 = .ok (.aload_n 2, 1) := by decide +kernel
theorem dX5_fits_28 : decode cX5_fits 28 = .ok (.invokestatic 234, 3) := by decide +kernel
theorem dX5_fits_31 : decode cX5_fits 31 = .ok (.ifCond .ne 6, 3) := by decide +kernel
theorem dX5_fits_34 : decode cX5_fits 34 = .ok (.bipush (-2), 2) := by decide +kernel
theorem dX5_fits_36 : decode cX5_fits 36 = .ok (.ireturn, 1) := by decide +kernel
theorem dX5_fits_37 : decode cX5_fits 37 = .ok (.iconst 0, 1) := by decide +kernel
theorem dX5_fits_38 : decode cX5_fits 38 = .ok (.istore_n 3, 1) := by decide +kernel
theorem dX5_fits_39 : decode cX5_fits 39 = .ok (.iconst 0, 1) := by decide +kernel
theorem dX5_fits_40 : decode cX5_fits 40 = .ok (.istore 4, 2) := by decide +kernel
theorem dX5_fits_42 : decode cX5_fits 42 = .ok (.iload 4, 2) := by decide +kernel
theorem dX5_fits_44 : decode cX5_fits 44 = .ok (.aload_n 0, 1) := by decide +kernel
theorem dX5_fits_45 : decode cX5_fits 45 = .ok (.getfield 10, 3) := by decide +kernel
theorem dX5_fits_48 : decode cX5_fits 48 = .ok (.getfield 102, 3) := by decide +kernel
theorem dX5_fits_51 : decode cX5_fits 51 = .ok (.if_icmp .ge 26, 3) := by decide +kernel
theorem dX5_fits_54 : decode cX5_fits 54 = .ok (.aload_n 0, 1) := by decide +kernel
theorem dX5_fits_55 : decode cX5_fits 55 = .ok (.aload_n 2, 1) := by decide +kernel
theorem dX5_fits_56 : decode cX5_fits 56 = .ok (.iload 4, 2) := by decide +kernel
theorem dX5_fits_58 : decode cX5_fits 58 = .ok (.invokevirtual 238, 3) := by decide +kernel
theorem dX5_fits_61 : decode cX5_fits 61 = .ok (.ifCond .eq 10, 3) := by decide +kernel
theorem dX5_fits_64 : decode cX5_fits 64 = .ok (.iload_n 3, 1) := by decide +kernel
theorem dX5_fits_65 : decode cX5_fits 65 = .ok (.iconst 1, 1) := by decide +kernel
theorem dX5_fits_66 : decode cX5_fits 66 = .ok (.iload 4, 2) := by decide +kernel
theorem dX5_fits_68 : decode cX5_fits 68 = .ok (.ishl, 1) := by decide +kernel
theorem dX5_fits_69 : decode cX5_fits 69 = .ok (.ior, 1) := by decide +kernel
theorem dX5_fits_70 : decode cX5_fits 70 = .ok (.istore_n 3, 1) := by decide +kernel
theorem dX5_fits_71 : decode cX5_fits 71 = .ok (.iinc 4 1, 3) := by decide +kernel
theorem dX5_fits_74 : decode cX5_fits 74 = .ok (.goto (-32), 3) := by decide +kernel
theorem dX5_fits_77 : decode cX5_fits 77 = .ok (.iload_n 3, 1) := by decide +kernel
theorem dX5_fits_78 : decode cX5_fits 78 = .ok (.ireturn, 1) := by decide +kernel
theorem dX5_fitsByRule_0 : decode cX5_fitsByRule 0 = .ok (.iconst 0, 1) := by decide +kernel
theorem dX5_fitsByRule_1 : decode cX5_fitsByRule 1 = .ok (.istore_n 3, 1) := by decide +kernel
theorem dX5_fitsByRule_2 : decode cX5_fitsByRule 2 = .ok (.iload_n 3, 1) := by decide +kernel
theorem dX5_fitsByRule_3 : decode cX5_fitsByRule 3 = .ok (.iconst 2, 1) := by decide +kernel
theorem dX5_fitsByRule_4 : decode cX5_fitsByRule 4 = .ok (.iadd, 1) := by decide +kernel
theorem dX5_fitsByRule_5 : decode cX5_fitsByRule 5 = .ok (.aload_n 1, 1) := by decide +kernel
theorem dX5_fitsByRule_6 : decode cX5_fitsByRule 6 = .ok (.getfield 242, 3) := by decide +kernel
theorem dX5_fitsByRule_9 : decode cX5_fitsByRule 9 = .ok (.if_icmp .ge 37, 3) := by decide +kernel
theorem dX5_fitsByRule_12 : decode cX5_fitsByRule 12 = .ok (.aload_n 0, 1) := by decide +kernel
theorem dX5_fitsByRule_13 : decode cX5_fitsByRule 13 = .ok (.iconst 1, 1) := by decide +kernel
theorem dX5_fitsByRule_14 : decode cX5_fitsByRule 14 = .ok (.iload_n 2, 1) := by decide +kernel
theorem dX5_fitsByRule_15 : decode cX5_fitsByRule 15 = .ok (.aload_n 1, 1) := by decide +kernel
theorem dX5_fitsByRule_16 : decode cX5_fitsByRule 16 = .ok (.getfield 243, 3) := by decide +kernel
theorem dX5_fitsByRule_19 : decode cX5_fitsByRule 19 = .ok (.iload_n 3, 1) := by decide +kernel
theorem dX5_fitsByRule_20 : decode cX5_fitsByRule 20 = .ok (.iaload, 1) := by decide +kernel
theorem dX5_fitsByRule_21 : decode cX5_fitsByRule 21 = .ok (.invokevirtual 164, 3) := by decide +kernel
theorem dX5_fitsByRule_24 : decode cX5_fitsByRule 24 = .ok (.istore 4, 2) := by decide +kernel
theorem dX5_fitsByRule_26 : decode cX5_fitsByRule 26 = .ok (.aload_n 0, 1) := by decide +kernel
theorem dX5_fitsByRule_27 : decode cX5_fitsByRule 27 = .ok (.aload_n 1, 1) := by decide +kernel
theorem dX5_fitsByRule_28 : decode cX5_fitsByRule 28 = .ok (.iload_n 3, 1) := by decide +kernel
theorem dX5_fitsByRule_29 : decode cX5_fitsByRule 29 = .ok (.iload_n 2, 1) := by decide +kernel
theorem dX5_fitsByRule_30 : decode cX5_fitsByRule 30 = .ok (.iload 4, 2) := by decide +kernel
theorem dX5_fitsByRule_32 : decode cX5_fitsByRule 32 = .ok (.invokevirtual 246, 3) := by decide +kernel
theorem dX5_fitsByRule_35 : decode cX5_fitsByRule 35 = .ok (.ifCond .ne 5, 3) := by decide +kernel
theorem dX5_fitsByRule_38 : decode cX5_fitsByRule 38 = .ok (.iconst 0, 1) := by decide +kernel
theorem dX5_fitsByRule_39 : decode cX5_fitsByRule 39 = .ok (.ireturn, 1) := by decide +kernel
theorem dX5_fitsByRule_40 : decode cX5_fitsByRule 40 = .ok (.iinc 3 3, 3) := by decide +kernel
theorem dX5_fitsByRule_43 : decode cX5_fitsByRule 43 = .ok (.goto (-41), 3) := by decide +kernel
theorem dX5_fitsByRule_46 : decode cX5_fitsByRule 46 = .ok (.iconst 1, 1) := by decide +kernel
theorem dX5_fitsByRule_47 : decode cX5_fitsByRule 47 = .ok (.ireturn, 1) := by decide +kernel
theorem dX5_wrong_0 : decode cX5_wrong 0 = .ok (.iload_n 1, 1) := by decide +kernel
theorem dX5_wrong_1 : decode cX5_wrong 1 = .ok (.invokestatic 227, 3) := by decide +kernel
theorem dX5_wrong_4 : decode cX5_wrong 4 = .ok (.ifCond .eq 23, 3) := by decide +kernel
theorem dX5_wrong_7 : decode cX5_wrong 7 = .ok (.aload_n 0, 1) := by decide +kernel
theorem dX5_wrong_8 : decode cX5_wrong 8 = .ok (.getfield 10, 3) := by decide +kernel
theorem dX5_wrong_11 : decode cX5_wrong 11 = .ok (.iload_n 2, 1) := by decide +kernel
theorem dX5_wrong_12 : decode cX5_wrong 12 = .ok (.invokevirtual 85, 3) := by decide +kernel
theorem dX5_wrong_15 : decode cX5_wrong 15 = .ok (.ifCond .eq 12, 3) := by decide +kernel
theorem dX5_wrong_18 : decode cX5_wrong 18 = .ok (.iload_n 3, 1) := by decide +kernel
theorem dX5_wrong_19 : decode cX5_wrong 19 = .ok (.ifCond .lt 8, 3) := by decide +kernel
theorem dX5_wrong_22 : decode cX5_wrong 22 = .ok (.iload_n 3, 1) := by decide +kernel
theorem dX5_wrong_23 : decode cX5_wrong 23 = .ok (.iconst 1, 1) := by decide +kernel
theorem dX5_wrong_24 : decode cX5_wrong 24 = .ok (.if_icmp .le 7, 3) := by decide +kernel
theorem dX5_wrong_27 : decode cX5_wrong 27 = .ok (.sipush (-1000), 3) := by decide +kernel
theorem dX5_wrong_30 : decode cX5_wrong 30 = .ok (.ireturn, 1) := by decide +kernel
theorem dX5_wrong_31 : decode cX5_wrong 31 = .ok (.aload_n 0, 1) := by decide +kernel
theorem dX5_wrong_32 : decode cX5_wrong 32 = .ok (.getfield 34, 3) := by decide +kernel
theorem dX5_wrong_35 : decode cX5_wrong 35 = .ok (.iload_n 1, 1) := by decide +kernel
theorem dX5_wrong_36 : decode cX5_wrong 36 = .ok (.aaload, 1) := by decide +kernel
theorem dX5_wrong_37 : decode cX5_wrong 37 = .ok (.astore 4, 2) := by decide +kernel
theorem dX5_wrong_39 : decode cX5_wrong 39 = .ok (.aload 4, 2) := by decide +kernel
theorem dX5_wrong_41 : decode cX5_wrong 41 = .ok (.invokevirtual 230, 3) := by decide +kernel
theorem dX5_wrong_44 : decode cX5_wrong 44 = .ok (.ifCond .ne 11, 3) := by decide +kernel
theorem dX5_wrong_47 : decode cX5_wrong 47 = .ok (.aload 4, 2) := by decide +kernel
theorem dX5_wrong_49 : decode cX5_wrong 49 = .ok (.invokestatic 234, 3) := by decide +kernel
theorem dX5_wrong_52 : decode cX5_wrong 52 = .ok (.ifCond .ne 7, 3) := by decide +kernel
theorem dX5_wrong_55 : decode cX5_wrong 55 = .ok (.sipush (-1000), 3) := by decide +kernel
theorem dX5_wrong_58 : decode cX5_wrong 58 = .ok (.ireturn, 1) := by decide +kernel
theorem dX5_wrong_59 : decode cX5_wrong 59 = .ok (.iload_n 3, 1) := by decide +kernel
theorem dX5_wrong_60 : decode cX5_wrong 60 = .ok (.ifCond .ne 13, 3) := by decide +kernel
theorem dX5_wrong_63 : decode cX5_wrong 63 = .ok (.aload_n 0, 1) := by decide +kernel
theorem dX5_wrong_64 : decode cX5_wrong 64 = .ok (.aload 4, 2) := by decide +kernel
theorem dX5_wrong_66 : decode cX5_wrong 66 = .ok (.iload_n 2, 1) := by decide +kernel
theorem dX5_wrong_67 : decode cX5_wrong 67 = .ok (.invokevirtual 250, 3) := by decide +kernel
theorem dX5_wrong_70 : decode cX5_wrong 70 = .ok (.goto 10, 3) := by decide +kernel
theorem dX5_wrong_73 : decode cX5_wrong 73 = .ok (.aload_n 0, 1) := by decide +kernel
theorem dX5_wrong_74 : decode cX5_wrong 74 = .ok (.aload 4, 2) := by decide +kernel
theorem dX5_wrong_76 : decode cX5_wrong 76 = .ok (.iload_n 2, 1) := by decide +kernel
theorem dX5_wrong_77 : decode cX5_wrong 77 = .ok (.invokevirtual 254, 3) := by decide +kernel
theorem dX5_wrong_80 : decode cX5_wrong 80 = .ok (.ireturn, 1) := by decide +kernel
theorem dX5_clocks_0 : decode cX5_clocks 0 = .ok (.iconst 0, 1) := by decide +kernel
theorem dX5_clocks_1 : decode cX5_clocks 1 = .ok (.istore_n 3, 1) := by decide +kernel
theorem dX5_clocks_2 : decode cX5_clocks 2 = .ok (.bipush (-60), 2) := by decide +kernel
theorem dX5_clocks_4 : decode cX5_clocks 4 = .ok (.istore 4, 2) := by decide +kernel
theorem dX5_clocks_6 : decode cX5_clocks 6 = .ok (.iload 4, 2) := by decide +kernel
theorem dX5_clocks_8 : decode cX5_clocks 8 = .ok (.bipush 60, 2) := by decide +kernel
theorem dX5_clocks_10 : decode cX5_clocks 10 = .ok (.if_icmp .gt 23, 3) := by decide +kernel
theorem dX5_clocks_13 : decode cX5_clocks 13 = .ok (.aload_n 0, 1) := by decide +kernel
theorem dX5_clocks_14 : decode cX5_clocks 14 = .ok (.aload_n 1, 1) := by decide +kernel
theorem dX5_clocks_15 : decode cX5_clocks 15 = .ok (.iload_n 2, 1) := by decide +kernel
theorem dX5_clocks_16 : decode cX5_clocks 16 = .ok (.iload 4, 2) := by decide +kernel
theorem dX5_clocks_18 : decode cX5_clocks 18 = .ok (.invokevirtual 257, 3) := by decide +kernel
theorem dX5_clocks_21 : decode cX5_clocks 21 = .ok (.ifCond .eq 6, 3) := by decide +kernel
theorem dX5_clocks_24 : decode cX5_clocks 24 = .ok (.iinc 3 1, 3) := by decide +kernel
theorem dX5_clocks_27 : decode cX5_clocks 27 = .ok (.iinc 4 1, 3) := by decide +kernel
theorem dX5_clocks_30 : decode cX5_clocks 30 = .ok (.goto (-24), 3) := by decide +kernel
theorem dX5_clocks_33 : decode cX5_clocks 33 = .ok (.iload_n 3, 1) := by decide +kernel
theorem dX5_clocks_34 : decode cX5_clocks 34 = .ok (.ireturn, 1) := by decide +kernel
theorem dX5_nearestClock_0 : decode cX5_nearestClock 0 = .ok (.iconst 0, 1) := by decide +kernel
theorem dX5_nearestClock_1 : decode cX5_nearestClock 1 = .ok (.istore_n 3, 1) := by decide +kernel
theorem dX5_nearestClock_2 : decode cX5_nearestClock 2 = .ok (.iload_n 3, 1) := by decide +kernel
theorem dX5_nearestClock_3 : decode cX5_nearestClock 3 = .ok (.bipush 60, 2) := by decide +kernel
theorem dX5_nearestClock_5 : decode cX5_nearestClock 5 = .ok (.if_icmp .gt 35, 3) := by decide +kernel
theorem dX5_nearestClock_8 : decode cX5_nearestClock 8 = .ok (.aload_n 0, 1) := by decide +kernel
theorem dX5_nearestClock_9 : decode cX5_nearestClock 9 = .ok (.aload_n 1, 1) := by decide +kernel
theorem dX5_nearestClock_10 : decode cX5_nearestClock 10 = .ok (.iload_n 2, 1) := by decide +kernel
theorem dX5_nearestClock_11 : decode cX5_nearestClock 11 = .ok (.iload_n 3, 1) := by decide +kernel
theorem dX5_nearestClock_12 : decode cX5_nearestClock 12 = .ok (.ineg, 1) := by decide +kernel
theorem dX5_nearestClock_13 : decode cX5_nearestClock 13 = .ok (.invokevirtual 257, 3) := by decide +kernel
theorem dX5_nearestClock_16 : decode cX5_nearestClock 16 = .ok (.ifCond .eq 6, 3) := by decide +kernel
theorem dX5_nearestClock_19 : decode cX5_nearestClock 19 = .ok (.iload_n 3, 1) := by decide +kernel
theorem dX5_nearestClock_20 : decode cX5_nearestClock 20 = .ok (.ineg, 1) := by decide +kernel
theorem dX5_nearestClock_21 : decode cX5_nearestClock 21 = .ok (.ireturn, 1) := by decide +kernel
theorem dX5_nearestClock_22 : decode cX5_nearestClock 22 = .ok (.aload_n 0, 1) := by decide +kernel
theorem dX5_nearestClock_23 : decode cX5_nearestClock 23 = .ok (.aload_n 1, 1) := by decide +kernel
theorem dX5_nearestClock_24 : decode cX5_nearestClock 24 = .ok (.iload_n 2, 1) := by decide +kernel
theorem dX5_nearestClock_25 : decode cX5_nearestClock 25 = .ok (.iload_n 3, 1) := by decide +kernel
theorem dX5_nearestClock_26 : decode cX5_nearestClock 26 = .ok (.invokevirtual 257, 3) := by decide +kernel
theorem dX5_nearestClock_29 : decode cX5_nearestClock 29 = .ok (.ifCond .eq 5, 3) := by decide +kernel
theorem dX5_nearestClock_32 : decode cX5_nearestClock 32 = .ok (.iload_n 3, 1) := by decide +kernel
theorem dX5_nearestClock_33 : decode cX5_nearestClock 33 = .ok (.ireturn, 1) := by decide +kernel
theorem dX5_nearestClock_34 : decode cX5_nearestClock 34 = .ok (.iinc 3 1, 3) := by decide +kernel
theorem dX5_nearestClock_37 : decode cX5_nearestClock 37 = .ok (.goto (-35), 3) := by decide +kernel
theorem dX5_nearestClock_40 : decode cX5_nearestClock 40 = .ok (.bipush 99, 2) := by decide +kernel
theorem dX5_nearestClock_42 : decode cX5_nearestClock 42 = .ok (.ireturn, 1) := by decide +kernel
theorem dX5_fitsBy_0 : decode cX5_fitsBy 0 = .ok (.iconst 0, 1) := by decide +kernel
theorem dX5_fitsBy_1 : decode cX5_fitsBy 1 = .ok (.istore 4, 2) := by decide +kernel
theorem dX5_fitsBy_3 : decode cX5_fitsBy 3 = .ok (.iload 4, 2) := by decide +kernel
theorem dX5_fitsBy_5 : decode cX5_fitsBy 5 = .ok (.iconst 2, 1) := by decide +kernel
theorem dX5_fitsBy_6 : decode cX5_fitsBy 6 = .ok (.iadd, 1) := by decide +kernel
theorem dX5_fitsBy_7 : decode cX5_fitsBy 7 = .ok (.aload_n 1, 1) := by decide +kernel
theorem dX5_fitsBy_8 : decode cX5_fitsBy 8 = .ok (.getfield 242, 3) := by decide +kernel
theorem dX5_fitsBy_11 : decode cX5_fitsBy 11 = .ok (.if_icmp .ge 23, 3) := by decide +kernel
theorem dX5_fitsBy_14 : decode cX5_fitsBy 14 = .ok (.aload_n 0, 1) := by decide +kernel
theorem dX5_fitsBy_15 : decode cX5_fitsBy 15 = .ok (.aload_n 1, 1) := by decide +kernel
theorem dX5_fitsBy_16 : decode cX5_fitsBy 16 = .ok (.iload 4, 2) := by decide +kernel
theorem dX5_fitsBy_18 : decode cX5_fitsBy 18 = .ok (.iload_n 2, 1) := by decide +kernel
theorem dX5_fitsBy_19 : decode cX5_fitsBy 19 = .ok (.iload_n 3, 1) := by decide +kernel
theorem dX5_fitsBy_20 : decode cX5_fitsBy 20 = .ok (.invokevirtual 246, 3) := by decide +kernel
theorem dX5_fitsBy_23 : decode cX5_fitsBy 23 = .ok (.ifCond .ne 5, 3) := by decide +kernel
theorem dX5_fitsBy_26 : decode cX5_fitsBy 26 = .ok (.iconst 0, 1) := by decide +kernel
theorem dX5_fitsBy_27 : decode cX5_fitsBy 27 = .ok (.ireturn, 1) := by decide +kernel
theorem dX5_fitsBy_28 : decode cX5_fitsBy 28 = .ok (.iinc 4 3, 3) := by decide +kernel
theorem dX5_fitsBy_31 : decode cX5_fitsBy 31 = .ok (.goto (-28), 3) := by decide +kernel
theorem dX5_fitsBy_34 : decode cX5_fitsBy 34 = .ok (.iconst 1, 1) := by decide +kernel
theorem dX5_fitsBy_35 : decode cX5_fitsBy 35 = .ok (.ireturn, 1) := by decide +kernel
theorem dX5_agrees_0 : decode cX5_agrees 0 = .ok (.iconst 0, 1) := by decide +kernel
theorem dX5_agrees_1 : decode cX5_agrees 1 = .ok (.aload_n 1, 1) := by decide +kernel
theorem dX5_agrees_2 : decode cX5_agrees 2 = .ok (.getfield 243, 3) := by decide +kernel
theorem dX5_agrees_5 : decode cX5_agrees 5 = .ok (.iload_n 2, 1) := by decide +kernel
theorem dX5_agrees_6 : decode cX5_agrees 6 = .ok (.iaload, 1) := by decide +kernel
theorem dX5_agrees_7 : decode cX5_agrees 7 = .ok (.iload 4, 2) := by decide +kernel
theorem dX5_agrees_9 : decode cX5_agrees 9 = .ok (.iadd, 1) := by decide +kernel
theorem dX5_agrees_10 : decode cX5_agrees 10 = .ok (.sipush 600, 3) := by decide +kernel
theorem dX5_agrees_13 : decode cX5_agrees 13 = .ok (.invokestatic 161, 3) := by decide +kernel
theorem dX5_agrees_16 : decode cX5_agrees 16 = .ok (.istore 5, 2) := by decide +kernel
theorem dX5_agrees_18 : decode cX5_agrees 18 = .ok (.ldc2_w 261, 3) := by decide +kernel
theorem dX5_agrees_21 : decode cX5_agrees 21 = .ok (.aload_n 1, 1) := by decide +kernel
theorem dX5_agrees_22 : decode cX5_agrees 22 = .ok (.getfield 243, 3) := by decide +kernel
theorem dX5_agrees_25 : decode cX5_agrees 25 = .ok (.iload_n 2, 1) := by decide +kernel
theorem dX5_agrees_26 : decode cX5_agrees 26 = .ok (.iconst 1, 1) := by decide +kernel
theorem dX5_agrees_27 : decode cX5_agrees 27 = .ok (.iadd, 1) := by decide +kernel
theorem dX5_agrees_28 : decode cX5_agrees 28 = .ok (.iaload, 1) := by decide +kernel
theorem dX5_agrees_29 : decode cX5_agrees 29 = .ok (.i2l, 1) := by decide +kernel
theorem dX5_agrees_30 : decode cX5_agrees 30 = .ok (.lmul, 1) := by decide +kernel
theorem dX5_agrees_31 : decode cX5_agrees 31 = .ok (.lstore 6, 2) := by decide +kernel
theorem dX5_agrees_33 : decode cX5_agrees 33 = .ok (.aload_n 0, 1) := by decide +kernel
theorem dX5_agrees_34 : decode cX5_agrees 34 = .ok (.getfield 10, 3) := by decide +kernel
theorem dX5_agrees_37 : decode cX5_agrees 37 = .ok (.getfield 92, 3) := by decide +kernel
theorem dX5_agrees_40 : decode cX5_agrees 40 = .ok (.iload_n 3, 1) := by decide +kernel
theorem dX5_agrees_41 : decode cX5_agrees 41 = .ok (.aaload, 1) := by decide +kernel
theorem dX5_agrees_42 : decode cX5_agrees 42 = .ok (.iload 5, 2) := by decide +kernel
theorem dX5_agrees_44 : decode cX5_agrees 44 = .ok (.aload_n 0, 1) := by decide +kernel
theorem dX5_agrees_45 : decode cX5_agrees 45 = .ok (.getfield 10, 3) := by decide +kernel
theorem dX5_agrees_48 : decode cX5_agrees 48 = .ok (.getfield 82, 3) := by decide +kernel
theorem dX5_agrees_51 : decode cX5_agrees 51 = .ok (.invokevirtual 143, 3) := by decide +kernel
theorem dX5_agrees_54 : decode cX5_agrees 54 = .ok (.i2l, 1) := by decide +kernel
theorem dX5_agrees_55 : decode cX5_agrees 55 = .ok (.lload 6, 2) := by decide +kernel
theorem dX5_agrees_57 : decode cX5_agrees 57 = .ok (.lsub, 1) := by decide +kernel
theorem dX5_agrees_58 : decode cX5_agrees 58 = .ok (.invokestatic 263, 3) := by decide +kernel
theorem dX5_agrees_61 : decode cX5_agrees 61 = .ok (.aload_n 1, 1) := by decide +kernel
theorem dX5_agrees_62 : decode cX5_agrees 62 = .ok (.getfield 243, 3) := by decide +kernel
theorem dX5_agrees_65 : decode cX5_agrees 65 = .ok (.iload_n 2, 1) := by decide +kernel
theorem dX5_agrees_66 : decode cX5_agrees 66 = .ok (.iconst 2, 1) := by decide +kernel
theorem dX5_agrees_67 : decode cX5_agrees 67 = .ok (.iadd, 1) := by decide +kernel
theorem dX5_agrees_68 : decode cX5_agrees 68 = .ok (.iaload, 1) := by decide +kernel
theorem dX5_agrees_69 : decode cX5_agrees 69 = .ok (.i2l, 1) := by decide +kernel
theorem dX5_agrees_70 : decode cX5_agrees 70 = .ok (.lcmp, 1) := by decide +kernel
theorem dX5_agrees_71 : decode cX5_agrees 71 = .ok (.ifCond .gt 7, 3) := by decide +kernel
theorem dX5_agrees_74 : decode cX5_agrees 74 = .ok (.iconst 1, 1) := by decide +kernel
theorem dX5_agrees_75 : decode cX5_agrees 75 = .ok (.goto 4, 3) := by decide +kernel
theorem dX5_agrees_78 : decode cX5_agrees 78 = .ok (.iconst 0, 1) := by decide +kernel
theorem dX5_agrees_79 : decode cX5_agrees 79 = .ok (.ireturn, 1) := by decide +kernel
theorem dX5_areNotes_0 : decode cX5_areNotes 0 = .ok (.aload_n 0, 1) := by decide +kernel
theorem dX5_areNotes_1 : decode cX5_areNotes 1 = .ok (.getfield 242, 3) := by decide +kernel
theorem dX5_areNotes_4 : decode cX5_areNotes 4 = .ok (.iconst 3, 1) := by decide +kernel
theorem dX5_areNotes_5 : decode cX5_areNotes 5 = .ok (.irem, 1) := by decide +kernel
theorem dX5_areNotes_6 : decode cX5_areNotes 6 = .ok (.ifCond .eq 5, 3) := by decide +kernel
theorem dX5_areNotes_9 : decode cX5_areNotes 9 = .ok (.iconst 0, 1) := by decide +kernel
theorem dX5_areNotes_10 : decode cX5_areNotes 10 = .ok (.ireturn, 1) := by decide +kernel
theorem dX5_areNotes_11 : decode cX5_areNotes 11 = .ok (.iconst 0, 1) := by decide +kernel
theorem dX5_areNotes_12 : decode cX5_areNotes 12 = .ok (.istore_n 1, 1) := by decide +kernel
theorem dX5_areNotes_13 : decode cX5_areNotes 13 = .ok (.iload_n 1, 1) := by decide +kernel
theorem dX5_areNotes_14 : decode cX5_areNotes 14 = .ok (.aload_n 0, 1) := by decide +kernel
theorem dX5_areNotes_15 : decode cX5_areNotes 15 = .ok (.getfield 242, 3) := by decide +kernel
theorem dX5_areNotes_18 : decode cX5_areNotes 18 = .ok (.if_icmp .ge 23, 3) := by decide +kernel
theorem dX5_areNotes_21 : decode cX5_areNotes 21 = .ok (.aload_n 0, 1) := by decide +kernel
theorem dX5_areNotes_22 : decode cX5_areNotes 22 = .ok (.getfield 243, 3) := by decide +kernel
theorem dX5_areNotes_25 : decode cX5_areNotes 25 = .ok (.iload_n 1, 1) := by decide +kernel
theorem dX5_areNotes_26 : decode cX5_areNotes 26 = .ok (.iaload, 1) := by decide +kernel
theorem dX5_areNotes_27 : decode cX5_areNotes 27 = .ok (.invokestatic 113, 3) := by decide +kernel
theorem dX5_areNotes_30 : decode cX5_areNotes 30 = .ok (.ifCond .ne 5, 3) := by decide +kernel
theorem dX5_areNotes_33 : decode cX5_areNotes 33 = .ok (.iconst 0, 1) := by decide +kernel
theorem dX5_areNotes_34 : decode cX5_areNotes 34 = .ok (.ireturn, 1) := by decide +kernel
theorem dX5_areNotes_35 : decode cX5_areNotes 35 = .ok (.iinc 1 3, 3) := by decide +kernel
theorem dX5_areNotes_38 : decode cX5_areNotes 38 = .ok (.goto (-25), 3) := by decide +kernel
theorem dX5_areNotes_41 : decode cX5_areNotes 41 = .ok (.iconst 1, 1) := by decide +kernel
theorem dX5_areNotes_42 : decode cX5_areNotes 42 = .ok (.ireturn, 1) := by decide +kernel
theorem dX5_posts_0 : decode cX5_posts 0 = .ok (.iload_n 1, 1) := by decide +kernel
theorem dX5_posts_1 : decode cX5_posts 1 = .ok (.ifCond .lt 8, 3) := by decide +kernel
theorem dX5_posts_4 : decode cX5_posts 4 = .ok (.iload_n 1, 1) := by decide +kernel
theorem dX5_posts_5 : decode cX5_posts 5 = .ok (.iconst 1, 1) := by decide +kernel
theorem dX5_posts_6 : decode cX5_posts 6 = .ok (.if_icmp .le 6, 3) := by decide +kernel
theorem dX5_posts_9 : decode cX5_posts 9 = .ok (.bipush (-2), 2) := by decide +kernel
theorem dX5_posts_11 : decode cX5_posts 11 = .ok (.ireturn, 1) := by decide +kernel
theorem dX5_posts_12 : decode cX5_posts 12 = .ok (.aload_n 0, 1) := by decide +kernel
theorem dX5_posts_13 : decode cX5_posts 13 = .ok (.aload_n 0, 1) := by decide +kernel
theorem dX5_posts_14 : decode cX5_posts 14 = .ok (.invokevirtual 266, 3) := by decide +kernel
theorem dX5_posts_17 : decode cX5_posts 17 = .ok (.invokevirtual 269, 3) := by decide +kernel
theorem dX5_posts_20 : decode cX5_posts 20 = .ok (.istore_n 2, 1) := by decide +kernel
theorem dX5_posts_21 : decode cX5_posts 21 = .ok (.iload_n 1, 1) := by decide +kernel
theorem dX5_posts_22 : decode cX5_posts 22 = .ok (.ifCond .eq 8, 3) := by decide +kernel
theorem dX5_posts_25 : decode cX5_posts 25 = .ok (.iload_n 2, 1) := by decide +kernel
theorem dX5_posts_26 : decode cX5_posts 26 = .ok (.iconst (-1), 1) := by decide +kernel
theorem dX5_posts_27 : decode cX5_posts 27 = .ok (.if_icmp .ne 7, 3) := by decide +kernel
theorem dX5_posts_30 : decode cX5_posts 30 = .ok (.iload_n 2, 1) := by decide +kernel
