theorem dX5_posts_31 : decode cX5_posts 31 = .ok (.goto 7, 3) := by decide +kernel
theorem dX5_posts_34 : decode cX5_posts 34 = .ok (.iload_n 2, 1) := by decide +kernel
theorem dX5_posts_35 : decode cX5_posts 35 = .ok (.invokestatic 272, 3) := by decide +kernel
theorem dX5_posts_38 : decode cX5_posts 38 = .ok (.ireturn, 1) := by decide +kernel
theorem dX5_layUnlike_0 : decode cX5_layUnlike 0 = .ok (.iconst 0, 1) := by decide +kernel
theorem dX5_layUnlike_1 : decode cX5_layUnlike 1 = .ok (.istore_n 1, 1) := by decide +kernel
theorem dX5_layUnlike_2 : decode cX5_layUnlike 2 = .ok (.iconst 0, 1) := by decide +kernel
theorem dX5_layUnlike_3 : decode cX5_layUnlike 3 = .ok (.istore_n 2, 1) := by decide +kernel
theorem dX5_layUnlike_4 : decode cX5_layUnlike 4 = .ok (.iload_n 2, 1) := by decide +kernel
theorem dX5_layUnlike_5 : decode cX5_layUnlike 5 = .ok (.aload_n 0, 1) := by decide +kernel
theorem dX5_layUnlike_6 : decode cX5_layUnlike 6 = .ok (.getfield 10, 3) := by decide +kernel
theorem dX5_layUnlike_9 : decode cX5_layUnlike 9 = .ok (.getfield 102, 3) := by decide +kernel
theorem dX5_layUnlike_12 : decode cX5_layUnlike 12 = .ok (.if_icmp .ge 59, 3) := by decide +kernel
theorem dX5_layUnlike_15 : decode cX5_layUnlike 15 = .ok (.iconst 0, 1) := by decide +kernel
theorem dX5_layUnlike_16 : decode cX5_layUnlike 16 = .ok (.istore_n 3, 1) := by decide +kernel
theorem dX5_layUnlike_17 : decode cX5_layUnlike 17 = .ok (.iload_n 3, 1) := by decide +kernel
theorem dX5_layUnlike_18 : decode cX5_layUnlike 18 = .ok (.iload_n 2, 1) := by decide +kernel
theorem dX5_layUnlike_19 : decode cX5_layUnlike 19 = .ok (.if_icmp .ge 46, 3) := by decide +kernel
theorem dX5_layUnlike_22 : decode cX5_layUnlike 22 = .ok (.iload_n 1, 1) := by decide +kernel
theorem dX5_layUnlike_23 : decode cX5_layUnlike 23 = .ok (.bipush 15, 2) := by decide +kernel
theorem dX5_layUnlike_25 : decode cX5_layUnlike 25 = .ok (.if_icmp .ge 40, 3) := by decide +kernel
theorem dX5_layUnlike_28 : decode cX5_layUnlike 28 = .ok (.aload_n 0, 1) := by decide +kernel
theorem dX5_layUnlike_29 : decode cX5_layUnlike 29 = .ok (.getfield 51, 3) := by decide +kernel
theorem dX5_layUnlike_32 : decode cX5_layUnlike 32 = .ok (.iload_n 1, 1) := by decide +kernel
theorem dX5_layUnlike_33 : decode cX5_layUnlike 33 = .ok (.aload_n 0, 1) := by decide +kernel
theorem dX5_layUnlike_34 : decode cX5_layUnlike 34 = .ok (.aload_n 0, 1) := by decide +kernel
theorem dX5_layUnlike_35 : decode cX5_layUnlike 35 = .ok (.getfield 10, 3) := by decide +kernel
theorem dX5_layUnlike_38 : decode cX5_layUnlike 38 = .ok (.getfield 92, 3) := by decide +kernel
theorem dX5_layUnlike_41 : decode cX5_layUnlike 41 = .ok (.iload_n 2, 1) := by decide +kernel
theorem dX5_layUnlike_42 : decode cX5_layUnlike 42 = .ok (.aaload, 1) := by decide +kernel
theorem dX5_layUnlike_43 : decode cX5_layUnlike 43 = .ok (.aload_n 0, 1) := by decide +kernel
theorem dX5_layUnlike_44 : decode cX5_layUnlike 44 = .ok (.getfield 10, 3) := by decide +kernel
theorem dX5_layUnlike_47 : decode cX5_layUnlike 47 = .ok (.getfield 92, 3) := by decide +kernel
theorem dX5_layUnlike_50 : decode cX5_layUnlike 50 = .ok (.iload_n 3, 1) := by decide +kernel
theorem dX5_layUnlike_51 : decode cX5_layUnlike 51 = .ok (.aaload, 1) := by decide +kernel
theorem dX5_layUnlike_52 : decode cX5_layUnlike 52 = .ok (.invokevirtual 277, 3) := by decide +kernel
theorem dX5_layUnlike_55 : decode cX5_layUnlike 55 = .ok (.iastore, 1) := by decide +kernel
theorem dX5_layUnlike_56 : decode cX5_layUnlike 56 = .ok (.iinc 1 1, 3) := by decide +kernel
theorem dX5_layUnlike_59 : decode cX5_layUnlike 59 = .ok (.iinc 3 1, 3) := by decide +kernel
theorem dX5_layUnlike_62 : decode cX5_layUnlike 62 = .ok (.goto (-45), 3) := by decide +kernel
theorem dX5_layUnlike_65 : decode cX5_layUnlike 65 = .ok (.iinc 2 1, 3) := by decide +kernel
theorem dX5_layUnlike_68 : decode cX5_layUnlike 68 = .ok (.goto (-64), 3) := by decide +kernel
theorem dX5_layUnlike_71 : decode cX5_layUnlike 71 = .ok (.iload_n 1, 1) := by decide +kernel
theorem dX5_layUnlike_72 : decode cX5_layUnlike 72 = .ok (.ireturn, 1) := by decide +kernel
theorem dX5_unlikePosts_0 : decode cX5_unlikePosts 0 = .ok (.iconst 0, 1) := by decide +kernel
theorem dX5_unlikePosts_1 : decode cX5_unlikePosts 1 = .ok (.istore_n 3, 1) := by decide +kernel
theorem dX5_unlikePosts_2 : decode cX5_unlikePosts 2 = .ok (.iconst 0, 1) := by decide +kernel
theorem dX5_unlikePosts_3 : decode cX5_unlikePosts 3 = .ok (.istore 4, 2) := by decide +kernel
theorem dX5_unlikePosts_5 : decode cX5_unlikePosts 5 = .ok (.iload 4, 2) := by decide +kernel
theorem dX5_unlikePosts_7 : decode cX5_unlikePosts 7 = .ok (.bipush 11, 2) := by decide +kernel
theorem dX5_unlikePosts_9 : decode cX5_unlikePosts 9 = .ok (.if_icmp .ge 52, 3) := by decide +kernel
theorem dX5_unlikePosts_12 : decode cX5_unlikePosts 12 = .ok (.bipush 60, 2) := by decide +kernel
theorem dX5_unlikePosts_14 : decode cX5_unlikePosts 14 = .ok (.iload 4, 2) := by decide +kernel
theorem dX5_unlikePosts_16 : decode cX5_unlikePosts 16 = .ok (.imul, 1) := by decide +kernel
theorem dX5_unlikePosts_17 : decode cX5_unlikePosts 17 = .ok (.istore 5, 2) := by decide +kernel
theorem dX5_unlikePosts_19 : decode cX5_unlikePosts 19 = .ok (.aload_n 1, 1) := by decide +kernel
theorem dX5_unlikePosts_20 : decode cX5_unlikePosts 20 = .ok (.iload 5, 2) := by decide +kernel
theorem dX5_unlikePosts_22 : decode cX5_unlikePosts 22 = .ok (.aload_n 0, 1) := by decide +kernel
theorem dX5_unlikePosts_23 : decode cX5_unlikePosts 23 = .ok (.getfield 10, 3) := by decide +kernel
theorem dX5_unlikePosts_26 : decode cX5_unlikePosts 26 = .ok (.getfield 82, 3) := by decide +kernel
theorem dX5_unlikePosts_29 : decode cX5_unlikePosts 29 = .ok (.invokevirtual 143, 3) := by decide +kernel
theorem dX5_unlikePosts_32 : decode cX5_unlikePosts 32 = .ok (.aload_n 2, 1) := by decide +kernel
theorem dX5_unlikePosts_33 : decode cX5_unlikePosts 33 = .ok (.iload 5, 2) := by decide +kernel
theorem dX5_unlikePosts_35 : decode cX5_unlikePosts 35 = .ok (.aload_n 0, 1) := by decide +kernel
theorem dX5_unlikePosts_36 : decode cX5_unlikePosts 36 = .ok (.getfield 10, 3) := by decide +kernel
theorem dX5_unlikePosts_39 : decode cX5_unlikePosts 39 = .ok (.getfield 82, 3) := by decide +kernel
theorem dX5_unlikePosts_42 : decode cX5_unlikePosts 42 = .ok (.invokevirtual 143, 3) := by decide +kernel
theorem dX5_unlikePosts_45 : decode cX5_unlikePosts 45 = .ok (.if_icmp .eq 10, 3) := by decide +kernel
theorem dX5_unlikePosts_48 : decode cX5_unlikePosts 48 = .ok (.iload_n 3, 1) := by decide +kernel
theorem dX5_unlikePosts_49 : decode cX5_unlikePosts 49 = .ok (.iconst 1, 1) := by decide +kernel
theorem dX5_unlikePosts_50 : decode cX5_unlikePosts 50 = .ok (.iload 4, 2) := by decide +kernel
theorem dX5_unlikePosts_52 : decode cX5_unlikePosts 52 = .ok (.ishl, 1) := by decide +kernel
theorem dX5_unlikePosts_53 : decode cX5_unlikePosts 53 = .ok (.ior, 1) := by decide +kernel
theorem dX5_unlikePosts_54 : decode cX5_unlikePosts 54 = .ok (.istore_n 3, 1) := by decide +kernel
theorem dX5_unlikePosts_55 : decode cX5_unlikePosts 55 = .ok (.iinc 4 1, 3) := by decide +kernel
theorem dX5_unlikePosts_58 : decode cX5_unlikePosts 58 = .ok (.goto (-53), 3) := by decide +kernel
theorem dX5_unlikePosts_61 : decode cX5_unlikePosts 61 = .ok (.iload_n 3, 1) := by decide +kernel
theorem dX5_unlikePosts_62 : decode cX5_unlikePosts 62 = .ok (.ireturn, 1) := by decide +kernel
theorem dX5_fewestPosts_0 : decode cX5_fewestPosts 0 = .ok (.iconst (-1), 1) := by decide +kernel
theorem dX5_fewestPosts_1 : decode cX5_fewestPosts 1 = .ok (.istore_n 2, 1) := by decide +kernel
theorem dX5_fewestPosts_2 : decode cX5_fewestPosts 2 = .ok (.bipush 12, 2) := by decide +kernel
theorem dX5_fewestPosts_4 : decode cX5_fewestPosts 4 = .ok (.istore_n 3, 1) := by decide +kernel
theorem dX5_fewestPosts_5 : decode cX5_fewestPosts 5 = .ok (.iconst 0, 1) := by decide +kernel
theorem dX5_fewestPosts_6 : decode cX5_fewestPosts 6 = .ok (.istore 4, 2) := by decide +kernel
theorem dX5_fewestPosts_8 : decode cX5_fewestPosts 8 = .ok (.iload 4, 2) := by decide +kernel
theorem dX5_fewestPosts_10 : decode cX5_fewestPosts 10 = .ok (.sipush 2048, 3) := by decide +kernel
theorem dX5_fewestPosts_13 : decode cX5_fewestPosts 13 = .ok (.if_icmp .ge 38, 3) := by decide +kernel
theorem dX5_fewestPosts_16 : decode cX5_fewestPosts 16 = .ok (.iload 4, 2) := by decide +kernel
theorem dX5_fewestPosts_18 : decode cX5_fewestPosts 18 = .ok (.invokestatic 272, 3) := by decide +kernel
theorem dX5_fewestPosts_21 : decode cX5_fewestPosts 21 = .ok (.istore 5, 2) := by decide +kernel
theorem dX5_fewestPosts_23 : decode cX5_fewestPosts 23 = .ok (.iload 5, 2) := by decide +kernel
theorem dX5_fewestPosts_25 : decode cX5_fewestPosts 25 = .ok (.iload_n 3, 1) := by decide +kernel
theorem dX5_fewestPosts_26 : decode cX5_fewestPosts 26 = .ok (.if_icmp .ge 19, 3) := by decide +kernel
theorem dX5_fewestPosts_29 : decode cX5_fewestPosts 29 = .ok (.aload_n 0, 1) := by decide +kernel
theorem dX5_fewestPosts_30 : decode cX5_fewestPosts 30 = .ok (.iload 4, 2) := by decide +kernel
theorem dX5_fewestPosts_32 : decode cX5_fewestPosts 32 = .ok (.iload_n 1, 1) := by decide +kernel
theorem dX5_fewestPosts_33 : decode cX5_fewestPosts 33 = .ok (.invokevirtual 281, 3) := by decide +kernel
theorem dX5_fewestPosts_36 : decode cX5_fewestPosts 36 = .ok (.ifCond .eq 9, 3) := by decide +kernel
theorem dX5_fewestPosts_39 : decode cX5_fewestPosts 39 = .ok (.iload 4, 2) := by decide +kernel
theorem dX5_fewestPosts_41 : decode cX5_fewestPosts 41 = .ok (.istore_n 2, 1) := by decide +kernel
theorem dX5_fewestPosts_42 : decode cX5_fewestPosts 42 = .ok (.iload 5, 2) := by decide +kernel
theorem dX5_fewestPosts_44 : decode cX5_fewestPosts 44 = .ok (.istore_n 3, 1) := by decide +kernel
theorem dX5_fewestPosts_45 : decode cX5_fewestPosts 45 = .ok (.iinc 4 1, 3) := by decide +kernel
theorem dX5_fewestPosts_48 : decode cX5_fewestPosts 48 = .ok (.goto (-40), 3) := by decide +kernel
theorem dX5_fewestPosts_51 : decode cX5_fewestPosts 51 = .ok (.iload_n 2, 1) := by decide +kernel
theorem dX5_fewestPosts_52 : decode cX5_fewestPosts 52 = .ok (.ireturn, 1) := by decide +kernel
theorem dX5_tellsAllApart_0 : decode cX5_tellsAllApart 0 = .ok (.iconst 0, 1) := by decide +kernel
theorem dX5_tellsAllApart_1 : decode cX5_tellsAllApart 1 = .ok (.istore_n 3, 1) := by decide +kernel
theorem dX5_tellsAllApart_2 : decode cX5_tellsAllApart 2 = .ok (.iload_n 3, 1) := by decide +kernel
theorem dX5_tellsAllApart_3 : decode cX5_tellsAllApart 3 = .ok (.iload_n 2, 1) := by decide +kernel
theorem dX5_tellsAllApart_4 : decode cX5_tellsAllApart 4 = .ok (.if_icmp .ge 22, 3) := by decide +kernel
theorem dX5_tellsAllApart_7 : decode cX5_tellsAllApart 7 = .ok (.iload_n 1, 1) := by decide +kernel
theorem dX5_tellsAllApart_8 : decode cX5_tellsAllApart 8 = .ok (.aload_n 0, 1) := by decide +kernel
theorem dX5_tellsAllApart_9 : decode cX5_tellsAllApart 9 = .ok (.getfield 51, 3) := by decide +kernel
theorem dX5_tellsAllApart_12 : decode cX5_tellsAllApart 12 = .ok (.iload_n 3, 1) := by decide +kernel
theorem dX5_tellsAllApart_13 : decode cX5_tellsAllApart 13 = .ok (.iaload, 1) := by decide +kernel
theorem dX5_tellsAllApart_14 : decode cX5_tellsAllApart 14 = .ok (.iand, 1) := by decide +kernel
theorem dX5_tellsAllApart_15 : decode cX5_tellsAllApart 15 = .ok (.ifCond .ne 5, 3) := by decide +kernel
theorem dX5_tellsAllApart_18 : decode cX5_tellsAllApart 18 = .ok (.iconst 0, 1) := by decide +kernel
theorem dX5_tellsAllApart_19 : decode cX5_tellsAllApart 19 = .ok (.ireturn, 1) := by decide +kernel
theorem dX5_tellsAllApart_20 : decode cX5_tellsAllApart 20 = .ok (.iinc 3 1, 3) := by decide +kernel
theorem dX5_tellsAllApart_23 : decode cX5_tellsAllApart 23 = .ok (.goto (-21), 3) := by decide +kernel
theorem dX5_tellsAllApart_26 : decode cX5_tellsAllApart 26 = .ok (.iconst 1, 1) := by decide +kernel
theorem dX5_tellsAllApart_27 : decode cX5_tellsAllApart 27 = .ok (.ireturn, 1) := by decide +kernel
theorem dX5_beads_0 : decode cX5_beads 0 = .ok (.iload_n 1, 1) := by decide +kernel
theorem dX5_beads_1 : decode cX5_beads 1 = .ok (.invokestatic 227, 3) := by decide +kernel
theorem dX5_beads_4 : decode cX5_beads 4 = .ok (.ifCond .ne 6, 3) := by decide +kernel
theorem dX5_beads_7 : decode cX5_beads 7 = .ok (.bipush (-2), 2) := by decide +kernel
theorem dX5_beads_9 : decode cX5_beads 9 = .ok (.ireturn, 1) := by decide +kernel
theorem dX5_beads_10 : decode cX5_beads 10 = .ok (.aload_n 0, 1) := by decide +kernel
theorem dX5_beads_11 : decode cX5_beads 11 = .ok (.getfield 34, 3) := by decide +kernel
theorem dX5_beads_14 : decode cX5_beads 14 = .ok (.iload_n 1, 1) := by decide +kernel
theorem dX5_beads_15 : decode cX5_beads 15 = .ok (.aaload, 1) := by decide +kernel
theorem dX5_beads_16 : decode cX5_beads 16 = .ok (.astore_n 2, 1) := by decide +kernel
theorem dX5_beads_17 : decode cX5_beads 17 = .ok (.aload_n 2, 1) := by decide +kernel
theorem dX5_beads_18 : decode cX5_beads 18 = .ok (.invokevirtual 230, 3) := by decide +kernel
theorem dX5_beads_21 : decode cX5_beads 21 = .ok (.ifCond .eq 6, 3) := by decide +kernel
theorem dX5_beads_24 : decode cX5_beads 24 = .ok (.bipush (-11), 2) := by decide +kernel
theorem dX5_beads_26 : decode cX5_beads 26 = .ok (.ireturn, 1) := by decide +kernel
theorem dX5_beads_27 : decode cX5_beads 27 = .ok (.aload_n 2, 1) := by decide +kernel
theorem dX5_beads_28 : decode cX5_beads 28 = .ok (.getfield 242, 3) := by decide +kernel
theorem dX5_beads_31 : decode cX5_beads 31 = .ok (.iconst 2, 1) := by decide +kernel
theorem dX5_beads_32 : decode cX5_beads 32 = .ok (.irem, 1) := by decide +kernel
theorem dX5_beads_33 : decode cX5_beads 33 = .ok (.ifCond .eq 6, 3) := by decide +kernel
theorem dX5_beads_36 : decode cX5_beads 36 = .ok (.bipush (-2), 2) := by decide +kernel
theorem dX5_beads_38 : decode cX5_beads 38 = .ok (.ireturn, 1) := by decide +kernel
theorem dX5_beads_39 : decode cX5_beads 39 = .ok (.aload_n 2, 1) := by decide +kernel
theorem dX5_beads_40 : decode cX5_beads 40 = .ok (.iconst 0, 1) := by decide +kernel
theorem dX5_beads_41 : decode cX5_beads 41 = .ok (.aload_n 2, 1) := by decide +kernel
theorem dX5_beads_42 : decode cX5_beads 42 = .ok (.getfield 242, 3) := by decide +kernel
theorem dX5_beads_45 : decode cX5_beads 45 = .ok (.invokevirtual 284, 3) := by decide +kernel
theorem dX5_beads_48 : decode cX5_beads 48 = .ok (.iconst 2, 1) := by decide +kernel
theorem dX5_beads_49 : decode cX5_beads 49 = .ok (.idiv, 1) := by decide +kernel
theorem dX5_beads_50 : decode cX5_beads 50 = .ok (.istore_n 3, 1) := by decide +kernel
theorem dX5_beads_51 : decode cX5_beads 51 = .ok (.iconst 0, 1) := by decide +kernel
theorem dX5_beads_52 : decode cX5_beads 52 = .ok (.istore 4, 2) := by decide +kernel
theorem dX5_beads_54 : decode cX5_beads 54 = .ok (.iload 4, 2) := by decide +kernel
theorem dX5_beads_56 : decode cX5_beads 56 = .ok (.aload_n 2, 1) := by decide +kernel
theorem dX5_beads_57 : decode cX5_beads 57 = .ok (.getfield 242, 3) := by decide +kernel
theorem dX5_beads_60 : decode cX5_beads 60 = .ok (.if_icmp .ge 28, 3) := by decide +kernel
theorem dX5_beads_63 : decode cX5_beads 63 = .ok (.aload_n 2, 1) := by decide +kernel
theorem dX5_beads_64 : decode cX5_beads 64 = .ok (.iload 4, 2) := by decide +kernel
theorem dX5_beads_66 : decode cX5_beads 66 = .ok (.aload_n 2, 1) := by decide +kernel
theorem dX5_beads_67 : decode cX5_beads 67 = .ok (.getfield 242, 3) := by decide +kernel
theorem dX5_beads_70 : decode cX5_beads 70 = .ok (.iconst 2, 1) := by decide +kernel
theorem dX5_beads_71 : decode cX5_beads 71 = .ok (.idiv, 1) := by decide +kernel
theorem dX5_beads_72 : decode cX5_beads 72 = .ok (.invokevirtual 284, 3) := by decide +kernel
theorem dX5_beads_75 : decode cX5_beads 75 = .ok (.iload_n 3, 1) := by decide +kernel
theorem dX5_beads_76 : decode cX5_beads 76 = .ok (.if_icmp .ne 6, 3) := by decide +kernel
theorem dX5_beads_79 : decode cX5_beads 79 = .ok (.iload 4, 2) := by decide +kernel
theorem dX5_beads_81 : decode cX5_beads 81 = .ok (.ireturn, 1) := by decide +kernel
theorem dX5_beads_82 : decode cX5_beads 82 = .ok (.iinc 4 1, 3) := by decide +kernel
theorem dX5_beads_85 : decode cX5_beads 85 = .ok (.goto (-31), 3) := by decide +kernel
theorem dX5_beads_88 : decode cX5_beads 88 = .ok (.iconst (-1), 1) := by decide +kernel
theorem dX5_beads_89 : decode cX5_beads 89 = .ok (.ireturn, 1) := by decide +kernel
theorem dX5_heat_0 : decode cX5_heat 0 = .ok (.iload_n 1, 1) := by decide +kernel
theorem dX5_heat_1 : decode cX5_heat 1 = .ok (.invokestatic 227, 3) := by decide +kernel
theorem dX5_heat_4 : decode cX5_heat 4 = .ok (.ifCond .ne 6, 3) := by decide +kernel
theorem dX5_heat_7 : decode cX5_heat 7 = .ok (.bipush (-2), 2) := by decide +kernel
theorem dX5_heat_9 : decode cX5_heat 9 = .ok (.ireturn, 1) := by decide +kernel
theorem dX5_heat_10 : decode cX5_heat 10 = .ok (.aload_n 0, 1) := by decide +kernel
theorem dX5_heat_11 : decode cX5_heat 11 = .ok (.getfield 34, 3) := by decide +kernel
theorem dX5_heat_14 : decode cX5_heat 14 = .ok (.iload_n 1, 1) := by decide +kernel
theorem dX5_heat_15 : decode cX5_heat 15 = .ok (.aaload, 1) := by decide +kernel
theorem dX5_heat_16 : decode cX5_heat 16 = .ok (.astore_n 2, 1) := by decide +kernel
theorem dX5_heat_17 : decode cX5_heat 17 = .ok (.aload_n 2, 1) := by decide +kernel
theorem dX5_heat_18 : decode cX5_heat 18 = .ok (.invokevirtual 230, 3) := by decide +kernel
theorem dX5_heat_21 : decode cX5_heat 21 = .ok (.ifCond .eq 6, 3) := by decide +kernel
theorem dX5_heat_24 : decode cX5_heat 24 = .ok (.bipush (-11), 2) := by decide +kernel
theorem dX5_heat_26 : decode cX5_heat 26 = .ok (.ireturn, 1) := by decide +kernel
theorem dX5_heat_27 : decode cX5_heat 27 = .ok (.aload_n 2, 1) := by decide +kernel
theorem dX5_heat_28 : decode cX5_heat 28 = .ok (.getfield 242, 3) := by decide +kernel
theorem dX5_heat_31 : decode cX5_heat 31 = .ok (.iconst 2, 1) := by decide +kernel
theorem dX5_heat_32 : decode cX5_heat 32 = .ok (.irem, 1) := by decide +kernel
theorem dX5_heat_33 : decode cX5_heat 33 = .ok (.ifCond .ne 10, 3) := by decide +kernel
theorem dX5_heat_36 : decode cX5_heat 36 = .ok (.aload_n 2, 1) := by decide +kernel
theorem dX5_heat_37 : decode cX5_heat 37 = .ok (.getfield 242, 3) := by decide +kernel
theorem dX5_heat_40 : decode cX5_heat 40 = .ok (.ifCond .ne 6, 3) := by decide +kernel
theorem dX5_heat_43 : decode cX5_heat 43 = .ok (.bipush (-2), 2) := by decide +kernel
theorem dX5_heat_45 : decode cX5_heat 45 = .ok (.ireturn, 1) := by decide +kernel
theorem dX5_heat_46 : decode cX5_heat 46 = .ok (.iconst 0, 1) := by decide +kernel
theorem dX5_heat_47 : decode cX5_heat 47 = .ok (.istore_n 3, 1) := by decide +kernel
theorem dX5_heat_48 : decode cX5_heat 48 = .ok (.iload_n 3, 1) := by decide +kernel
theorem dX5_heat_49 : decode cX5_heat 49 = .ok (.aload_n 2, 1) := by decide +kernel
theorem dX5_heat_50 : decode cX5_heat 50 = .ok (.getfield 242, 3) := by decide +kernel
theorem dX5_heat_53 : decode cX5_heat 53 = .ok (.if_icmp .ge 40, 3) := by decide +kernel
theorem dX5_heat_56 : decode cX5_heat 56 = .ok (.aload_n 2, 1) := by decide +kernel
theorem dX5_heat_57 : decode cX5_heat 57 = .ok (.iload_n 3, 1) := by decide +kernel
theorem dX5_heat_58 : decode cX5_heat 58 = .ok (.invokevirtual 287, 3) := by decide +kernel
theorem dX5_heat_61 : decode cX5_heat 61 = .ok (.lstore 4, 2) := by decide +kernel
theorem dX5_heat_63 : decode cX5_heat 63 = .ok (.lload 4, 2) := by decide +kernel
theorem dX5_heat_65 : decode cX5_heat 65 = .ok (.lconst 0, 1) := by decide +kernel
theorem dX5_heat_66 : decode cX5_heat 66 = .ok (.lcmp, 1) := by decide +kernel
theorem dX5_heat_67 : decode cX5_heat 67 = .ok (.ifCond .eq 18, 3) := by decide +kernel
theorem dX5_heat_70 : decode cX5_heat 70 = .ok (.lload 4, 2) := by decide +kernel
theorem dX5_heat_72 : decode cX5_heat 72 = .ok (.aload_n 2, 1) := by decide +kernel
theorem dX5_heat_73 : decode cX5_heat 73 = .ok (.iload_n 3, 1) := by decide +kernel
theorem dX5_heat_74 : decode cX5_heat 74 = .ok (.iconst 1, 1) := by decide +kernel
theorem dX5_heat_75 : decode cX5_heat 75 = .ok (.iadd, 1) := by decide +kernel
theorem dX5_heat_76 : decode cX5_heat 76 = .ok (.invokevirtual 287, 3) := by decide +kernel
theorem dX5_heat_79 : decode cX5_heat 79 = .ok (.invokestatic 174, 3) := by decide +kernel
theorem dX5_heat_82 : decode cX5_heat 82 = .ok (.ifCond .eq 5, 3) := by decide +kernel
theorem dX5_heat_85 : decode cX5_heat 85 = .ok (.iload_n 3, 1) := by decide +kernel
theorem dX5_heat_86 : decode cX5_heat 86 = .ok (.ireturn, 1) := by decide +kernel
theorem dX5_heat_87 : decode cX5_heat 87 = .ok (.iinc 3 1, 3) := by decide +kernel
theorem dX5_heat_90 : decode cX5_heat 90 = .ok (.goto (-42), 3) := by decide +kernel
theorem dX5_heat_93 : decode cX5_heat 93 = .ok (.iconst (-1), 1) := by decide +kernel
theorem dX5_heat_94 : decode cX5_heat 94 = .ok (.ireturn, 1) := by decide +kernel
theorem dX5_drawn_0 : decode cX5_drawn 0 = .ok (.iload_n 2, 1) := by decide +kernel
theorem dX5_drawn_1 : decode cX5_drawn 1 = .ok (.iconst 1, 1) := by decide +kernel
theorem dX5_drawn_2 : decode cX5_drawn 2 = .ok (.if_icmp .lt 20, 3) := by decide +kernel
theorem dX5_drawn_5 : decode cX5_drawn 5 = .ok (.iload_n 2, 1) := by decide +kernel
theorem dX5_drawn_6 : decode cX5_drawn 6 = .ok (.bipush 8, 2) := by decide +kernel
theorem dX5_drawn_8 : decode cX5_drawn 8 = .ok (.if_icmp .gt 14, 3) := by decide +kernel
theorem dX5_drawn_11 : decode cX5_drawn 11 = .ok (.aload_n 0, 1) := by decide +kernel
theorem dX5_drawn_12 : decode cX5_drawn 12 = .ok (.getfield 10, 3) := by decide +kernel
theorem dX5_drawn_15 : decode cX5_drawn 15 = .ok (.iload_n 3, 1) := by decide +kernel
theorem dX5_drawn_16 : decode cX5_drawn 16 = .ok (.invokevirtual 85, 3) := by decide +kernel
theorem dX5_drawn_19 : decode cX5_drawn 19 = .ok (.ifCond .ne 6, 3) := by decide +kernel
theorem dX5_drawn_22 : decode cX5_drawn 22 = .ok (.bipush (-2), 2) := by decide +kernel
theorem dX5_drawn_24 : decode cX5_drawn 24 = .ok (.ireturn, 1) := by decide +kernel
theorem dX5_drawn_25 : decode cX5_drawn 25 = .ok (.aload_n 0, 1) := by decide +kernel
theorem dX5_drawn_26 : decode cX5_drawn 26 = .ok (.getfield 10, 3) := by decide +kernel
theorem dX5_drawn_29 : decode cX5_drawn 29 = .ok (.getfield 92, 3) := by decide +kernel
theorem dX5_drawn_32 : decode cX5_drawn 32 = .ok (.iload_n 3, 1) := by decide +kernel
theorem dX5_drawn_33 : decode cX5_drawn 33 = .ok (.aaload, 1) := by decide +kernel
theorem dX5_drawn_34 : decode cX5_drawn 34 = .ok (.aload_n 0, 1) := by decide +kernel
theorem dX5_drawn_35 : decode cX5_drawn 35 = .ok (.getfield 38, 3) := by decide +kernel
theorem dX5_drawn_38 : decode cX5_drawn 38 = .ok (.aload_n 0, 1) := by decide +kernel
theorem dX5_drawn_39 : decode cX5_drawn 39 = .ok (.getfield 10, 3) := by decide +kernel
theorem dX5_drawn_42 : decode cX5_drawn 42 = .ok (.getfield 82, 3) := by decide +kernel
theorem dX5_drawn_45 : decode cX5_drawn 45 = .ok (.invokevirtual 220, 3) := by decide +kernel
theorem dX5_drawn_48 : decode cX5_drawn 48 = .ok (.aload_n 0, 1) := by decide +kernel
theorem dX5_drawn_49 : decode cX5_drawn 49 = .ok (.iload_n 1, 1) := by decide +kernel
theorem dX5_drawn_50 : decode cX5_drawn 50 = .ok (.iload_n 2, 1) := by decide +kernel
theorem dX5_drawn_51 : decode cX5_drawn 51 = .ok (.invokevirtual 291, 3) := by decide +kernel
theorem dX5_drawn_54 : decode cX5_drawn 54 = .ok (.ireturn, 1) := by decide +kernel
theorem dX5_meetsDrawn_0 : decode cX5_meetsDrawn 0 = .ok (.iload_n 2, 1) := by decide +kernel
theorem dX5_meetsDrawn_1 : decode cX5_meetsDrawn 1 = .ok (.iconst 1, 1) := by decide +kernel
theorem dX5_meetsDrawn_2 : decode cX5_meetsDrawn 2 = .ok (.if_icmp .ge 5, 3) := by decide +kernel
theorem dX5_meetsDrawn_5 : decode cX5_meetsDrawn 5 = .ok (.iconst (-1), 1) := by decide +kernel
theorem dX5_meetsDrawn_6 : decode cX5_meetsDrawn 6 = .ok (.ireturn, 1) := by decide +kernel
theorem dX5_meetsDrawn_7 : decode cX5_meetsDrawn 7 = .ok (.aload_n 0, 1) := by decide +kernel
theorem dX5_meetsDrawn_8 : decode cX5_meetsDrawn 8 = .ok (.getfield 57, 3) := by decide +kernel
theorem dX5_meetsDrawn_11 : decode cX5_meetsDrawn 11 = .ok (.iconst 0, 1) := by decide +kernel
theorem dX5_meetsDrawn_12 : decode cX5_meetsDrawn 12 = .ok (.iconst 0, 1) := by decide +kernel
theorem dX5_meetsDrawn_13 : decode cX5_meetsDrawn 13 = .ok (.invokevirtual 105, 3) := by decide +kernel
theorem dX5_meetsDrawn_16 : decode cX5_meetsDrawn 16 = .ok (.iload_n 1, 1) := by decide +kernel
theorem dX5_meetsDrawn_17 : decode cX5_meetsDrawn 17 = .ok (.istore_n 3, 1) := by decide +kernel
theorem dX5_meetsDrawn_18 : decode cX5_meetsDrawn 18 = .ok (.iconst 0, 1) := by decide +kernel
theorem dX5_meetsDrawn_19 : decode cX5_meetsDrawn 19 = .ok (.istore 4, 2) := by decide +kernel
theorem dX5_meetsDrawn_21 : decode cX5_meetsDrawn 21 = .ok (.iload 4, 2) := by decide +kernel
theorem dX5_meetsDrawn_23 : decode cX5_meetsDrawn 23 = .ok (.iload_n 2, 1) := by decide +kernel
theorem dX5_meetsDrawn_24 : decode cX5_meetsDrawn 24 = .ok (.if_icmp .ge 50, 3) := by decide +kernel
theorem dX5_meetsDrawn_27 : decode cX5_meetsDrawn 27 = .ok (.iload_n 3, 1) := by decide +kernel
theorem dX5_meetsDrawn_28 : decode cX5_meetsDrawn 28 = .ok (.ldc_w 294, 3) := by decide +kernel
theorem dX5_meetsDrawn_31 : decode cX5_meetsDrawn 31 = .ok (.imul, 1) := by decide +kernel
theorem dX5_meetsDrawn_32 : decode cX5_meetsDrawn 32 = .ok (.sipush 12345, 3) := by decide +kernel
theorem dX5_meetsDrawn_35 : decode cX5_meetsDrawn 35 = .ok (.iadd, 1) := by decide +kernel
theorem dX5_meetsDrawn_36 : decode cX5_meetsDrawn 36 = .ok (.istore_n 3, 1) := by decide +kernel
theorem dX5_meetsDrawn_37 : decode cX5_meetsDrawn 37 = .ok (.aload_n 0, 1) := by decide +kernel
theorem dX5_meetsDrawn_38 : decode cX5_meetsDrawn 38 = .ok (.getfield 57, 3) := by decide +kernel
theorem dX5_meetsDrawn_41 : decode cX5_meetsDrawn 41 = .ok (.sipush 600, 3) := by decide +kernel
theorem dX5_meetsDrawn_44 : decode cX5_meetsDrawn 44 = .ok (.iload 4, 2) := by decide +kernel
theorem dX5_meetsDrawn_46 : decode cX5_meetsDrawn 46 = .ok (.imul, 1) := by decide +kernel
theorem dX5_meetsDrawn_47 : decode cX5_meetsDrawn 47 = .ok (.iload_n 2, 1) := by decide +kernel
theorem dX5_meetsDrawn_48 : decode cX5_meetsDrawn 48 = .ok (.idiv, 1) := by decide +kernel
theorem dX5_meetsDrawn_49 : decode cX5_meetsDrawn 49 = .ok (.iload_n 3, 1) := by decide +kernel
theorem dX5_meetsDrawn_50 : decode cX5_meetsDrawn 50 = .ok (.bipush 9, 2) := by decide +kernel
theorem dX5_meetsDrawn_52 : decode cX5_meetsDrawn 52 = .ok (.iushr, 1) := by decide +kernel
theorem dX5_meetsDrawn_53 : decode cX5_meetsDrawn 53 = .ok (.aload_n 0, 1) := by decide +kernel
theorem dX5_meetsDrawn_54 : decode cX5_meetsDrawn 54 = .ok (.getfield 10, 3) := by decide +kernel
theorem dX5_meetsDrawn_57 : decode cX5_meetsDrawn 57 = .ok (.getfield 82, 3) := by decide +kernel
theorem dX5_meetsDrawn_60 : decode cX5_meetsDrawn 60 = .ok (.iconst 1, 1) := by decide +kernel
theorem dX5_meetsDrawn_61 : decode cX5_meetsDrawn 61 = .ok (.iadd, 1) := by decide +kernel
theorem dX5_meetsDrawn_62 : decode cX5_meetsDrawn 62 = .ok (.invokestatic 295, 3) := by decide +kernel
theorem dX5_meetsDrawn_65 : decode cX5_meetsDrawn 65 = .ok (.invokevirtual 120, 3) := by decide +kernel
theorem dX5_meetsDrawn_68 : decode cX5_meetsDrawn 68 = .ok (.iinc 4 1, 3) := by decide +kernel
theorem dX5_meetsDrawn_71 : decode cX5_meetsDrawn 71 = .ok (.goto (-50), 3) := by decide +kernel
theorem dX5_meetsDrawn_74 : decode cX5_meetsDrawn 74 = .ok (.aload_n 0, 1) := by decide +kernel
theorem dX5_meetsDrawn_75 : decode cX5_meetsDrawn 75 = .ok (.getfield 57, 3) := by decide +kernel
theorem dX5_meetsDrawn_78 : decode cX5_meetsDrawn 78 = .ok (.aload_n 0, 1) := by decide +kernel
theorem dX5_meetsDrawn_79 : decode cX5_meetsDrawn 79 = .ok (.getfield 42, 3) := by decide +kernel
theorem dX5_meetsDrawn_82 : decode cX5_meetsDrawn 82 = .ok (.aload_n 0, 1) := by decide +kernel
theorem dX5_meetsDrawn_83 : decode cX5_meetsDrawn 83 = .ok (.getfield 10, 3) := by decide +kernel
theorem dX5_meetsDrawn_86 : decode cX5_meetsDrawn 86 = .ok (.getfield 82, 3) := by decide +kernel
theorem dX5_meetsDrawn_89 : decode cX5_meetsDrawn 89 = .ok (.invokevirtual 220, 3) := by decide +kernel
theorem dX5_meetsDrawn_92 : decode cX5_meetsDrawn 92 = .ok (.aload_n 0, 1) := by decide +kernel
theorem dX5_meetsDrawn_93 : decode cX5_meetsDrawn 93 = .ok (.iconst 0, 1) := by decide +kernel
theorem dX5_meetsDrawn_94 : decode cX5_meetsDrawn 94 = .ok (.invokevirtual 193, 3) := by decide +kernel
theorem dX5_meetsDrawn_97 : decode cX5_meetsDrawn 97 = .ok (.ireturn, 1) := by decide +kernel
theorem dX5_chance_0 : decode cX5_chance 0 = .ok (.aload_n 0, 1) := by decide +kernel
theorem dX5_chance_1 : decode cX5_chance 1 = .ok (.getfield 10, 3) := by decide +kernel
theorem dX5_chance_4 : decode cX5_chance 4 = .ok (.iload_n 3, 1) := by decide +kernel
theorem dX5_chance_5 : decode cX5_chance 5 = .ok (.invokevirtual 85, 3) := by decide +kernel
theorem dX5_chance_8 : decode cX5_chance 8 = .ok (.ifCond .eq 25, 3) := by decide +kernel
theorem dX5_chance_11 : decode cX5_chance 11 = .ok (.iload_n 2, 1) := by decide +kernel
theorem dX5_chance_12 : decode cX5_chance 12 = .ok (.iconst 1, 1) := by decide +kernel
theorem dX5_chance_13 : decode cX5_chance 13 = .ok (.if_icmp .lt 20, 3) := by decide +kernel
theorem dX5_chance_16 : decode cX5_chance 16 = .ok (.iload_n 2, 1) := by decide +kernel
theorem dX5_chance_17 : decode cX5_chance 17 = .ok (.bipush 20, 2) := by decide +kernel
theorem dX5_chance_19 : decode cX5_chance 19 = .ok (.if_icmp .gt 14, 3) := by decide +kernel
theorem dX5_chance_22 : decode cX5_chance 22 = .ok (.iload 4, 2) := by decide +kernel
theorem dX5_chance_24 : decode cX5_chance 24 = .ok (.ifCond .lt 9, 3) := by decide +kernel
theorem dX5_chance_27 : decode cX5_chance 27 = .ok (.iload 4, 2) := by decide +kernel
theorem dX5_chance_29 : decode cX5_chance 29 = .ok (.iconst 1, 1) := by decide +kernel
theorem dX5_chance_30 : decode cX5_chance 30 = .ok (.if_icmp .le 7, 3) := by decide +kernel
theorem dX5_chance_33 : decode cX5_chance 33 = .ok (.ldc2_w 205, 3) := by decide +kernel
theorem dX5_chance_36 : decode cX5_chance 36 = .ok (.lreturn, 1) := by decide +kernel
theorem dX5_chance_37 : decode cX5_chance 37 = .ok (.aload_n 0, 1) := by decide +kernel
theorem dX5_chance_38 : decode cX5_chance 38 = .ok (.getfield 10, 3) := by decide +kernel
theorem dX5_chance_41 : decode cX5_chance 41 = .ok (.getfield 92, 3) := by decide +kernel
theorem dX5_chance_44 : decode cX5_chance 44 = .ok (.iload_n 3, 1) := by decide +kernel
theorem dX5_chance_45 : decode cX5_chance 45 = .ok (.aaload, 1) := by decide +kernel
theorem dX5_chance_46 : decode cX5_chance 46 = .ok (.aload_n 0, 1) := by decide +kernel
theorem dX5_chance_47 : decode cX5_chance 47 = .ok (.getfield 38, 3) := by decide +kernel
theorem dX5_chance_50 : decode cX5_chance 50 = .ok (.aload_n 0, 1) := by decide +kernel
theorem dX5_chance_51 : decode cX5_chance 51 = .ok (.getfield 10, 3) := by decide +kernel
theorem dX5_chance_54 : decode cX5_chance 54 = .ok (.getfield 82, 3) := by decide +kernel
theorem dX5_chance_57 : decode cX5_chance 57 = .ok (.invokevirtual 220, 3) := by decide +kernel
theorem dX5_chance_60 : decode cX5_chance 60 = .ok (.iconst 0, 1) := by decide +kernel
theorem dX5_chance_61 : decode cX5_chance 61 = .ok (.istore 5, 2) := by decide +kernel
theorem dX5_chance_63 : decode cX5_chance 63 = .ok (.iconst 0, 1) := by decide +kernel
theorem dX5_chance_64 : decode cX5_chance 64 = .ok (.istore 6, 2) := by decide +kernel
theorem dX5_chance_66 : decode cX5_chance 66 = .ok (.iload 6, 2) := by decide +kernel
theorem dX5_chance_68 : decode cX5_chance 68 = .ok (.iload_n 2, 1) := by decide +kernel
theorem dX5_chance_69 : decode cX5_chance 69 = .ok (.if_icmp .ge 25, 3) := by decide +kernel
theorem dX5_chance_72 : decode cX5_chance 72 = .ok (.aload_n 0, 1) := by decide +kernel
theorem dX5_chance_73 : decode cX5_chance 73 = .ok (.iload_n 1, 1) := by decide +kernel
theorem dX5_chance_74 : decode cX5_chance 74 = .ok (.iload 6, 2) := by decide +kernel
theorem dX5_chance_76 : decode cX5_chance 76 = .ok (.iadd, 1) := by decide +kernel
theorem dX5_chance_77 : decode cX5_chance 77 = .ok (.iconst 4, 1) := by decide +kernel
theorem dX5_chance_78 : decode cX5_chance 78 = .ok (.invokevirtual 291, 3) := by decide +kernel
theorem dX5_chance_81 : decode cX5_chance 81 = .ok (.iconst (-1), 1) := by decide +kernel
theorem dX5_chance_82 : decode cX5_chance 82 = .ok (.if_icmp .eq 6, 3) := by decide +kernel
theorem dX5_chance_85 : decode cX5_chance 85 = .ok (.iinc 5 1, 3) := by decide +kernel
theorem dX5_chance_88 : decode cX5_chance 88 = .ok (.iinc 6 1, 3) := by decide +kernel
theorem dX5_chance_91 : decode cX5_chance 91 = .ok (.goto (-25), 3) := by decide +kernel
theorem dX5_chance_94 : decode cX5_chance 94 = .ok (.iload 5, 2) := by decide +kernel
theorem dX5_chance_96 : decode cX5_chance 96 = .ok (.i2l, 1) := by decide +kernel
theorem dX5_chance_97 : decode cX5_chance 97 = .ok (.iload_n 2, 1) := by decide +kernel
theorem dX5_chance_98 : decode cX5_chance 98 = .ok (.i2l, 1) := by decide +kernel
theorem dX5_chance_99 : decode cX5_chance 99 = .ok (.iload 4, 2) := by decide +kernel
theorem dX5_chance_101 : decode cX5_chance 101 = .ok (.invokestatic 210, 3) := by decide +kernel
theorem dX5_chance_104 : decode cX5_chance 104 = .ok (.lreturn, 1) := by decide +kernel
theorem dX5_image_0 : decode cX5_image 0 = .ok (.aload_n 0, 1) := by decide +kernel
theorem dX5_image_1 : decode cX5_image 1 = .ok (.getfield 16, 3) := by decide +kernel
theorem dX5_image_4 : decode cX5_image 4 = .ok (.aload_n 0, 1) := by decide +kernel
theorem dX5_image_5 : decode cX5_image 5 = .ok (.getfield 10, 3) := by decide +kernel
theorem dX5_image_8 : decode cX5_image 8 = .ok (.invokevirtual 298, 3) := by decide +kernel
theorem dX5_image_11 : decode cX5_image 11 = .ok (.aload_n 0, 1) := by decide +kernel
theorem dX5_image_12 : decode cX5_image 12 = .ok (.iconst 1, 1) := by decide +kernel
theorem dX5_image_13 : decode cX5_image 13 = .ok (.putfield 302, 3) := by decide +kernel
theorem dX5_image_16 : decode cX5_image 16 = .ok (.aload_n 0, 1) := by decide +kernel
theorem dX5_image_17 : decode cX5_image 17 = .ok (.getfield 10, 3) := by decide +kernel
theorem dX5_image_20 : decode cX5_image 20 = .ok (.getfield 102, 3) := by decide +kernel
theorem dX5_image_23 : decode cX5_image 23 = .ok (.ireturn, 1) := by decide +kernel
theorem dX5_back_0 : decode cX5_back 0 = .ok (.aload_n 0, 1) := by decide +kernel
theorem dX5_back_1 : decode cX5_back 1 = .ok (.getfield 302, 3) := by decide +kernel
theorem dX5_back_4 : decode cX5_back 4 = .ok (.ifCond .ne 6, 3) := by decide +kernel
theorem dX5_back_7 : decode cX5_back 7 = .ok (.bipush (-3), 2) := by decide +kernel
theorem dX5_back_9 : decode cX5_back 9 = .ok (.ireturn, 1) := by decide +kernel
theorem dX5_back_10 : decode cX5_back 10 = .ok (.aload_n 0, 1) := by decide +kernel
theorem dX5_back_11 : decode cX5_back 11 = .ok (.getfield 10, 3) := by decide +kernel
theorem dX5_back_14 : decode cX5_back 14 = .ok (.aload_n 0, 1) := by decide +kernel
theorem dX5_back_15 : decode cX5_back 15 = .ok (.getfield 16, 3) := by decide +kernel
theorem dX5_back_18 : decode cX5_back 18 = .ok (.invokevirtual 298, 3) := by decide +kernel
theorem dX5_back_21 : decode cX5_back 21 = .ok (.aload_n 0, 1) := by decide +kernel
theorem dX5_back_22 : decode cX5_back 22 = .ok (.getfield 10, 3) := by decide +kernel
theorem dX5_back_25 : decode cX5_back 25 = .ok (.getfield 102, 3) := by decide +kernel
theorem dX5_back_28 : decode cX5_back 28 = .ok (.ireturn, 1) := by decide +kernel
theorem dX5_count_0 : decode cX5_count 0 = .ok (.iload_n 1, 1) := by decide +kernel
theorem dX5_count_1 : decode cX5_count 1 = .ok (.tableswitch 84 0 5 #[39, 47, 55, 63, 68, 76], 39) := by decide +kernel
theorem dX5_count_40 : decode cX5_count 40 = .ok (.aload_n 0, 1) := by decide +kernel
theorem dX5_count_41 : decode cX5_count 41 = .ok (.getfield 10, 3) := by decide +kernel
theorem dX5_count_44 : decode cX5_count 44 = .ok (.getfield 102, 3) := by decide +kernel
theorem dX5_count_47 : decode cX5_count 47 = .ok (.ireturn, 1) := by decide +kernel
theorem dX5_count_48 : decode cX5_count 48 = .ok (.aload_n 0, 1) := by decide +kernel
theorem dX5_count_49 : decode cX5_count 49 = .ok (.getfield 10, 3) := by decide +kernel
theorem dX5_count_52 : decode cX5_count 52 = .ok (.getfield 82, 3) := by decide +kernel
theorem dX5_count_55 : decode cX5_count 55 = .ok (.ireturn, 1) := by decide +kernel
theorem dX5_count_56 : decode cX5_count 56 = .ok (.aload_n 0, 1) := by decide +kernel
theorem dX5_count_57 : decode cX5_count 57 = .ok (.getfield 10, 3) := by decide +kernel
theorem dX5_count_60 : decode cX5_count 60 = .ok (.invokevirtual 306, 3) := by decide +kernel
theorem dX5_count_63 : decode cX5_count 63 = .ok (.ireturn, 1) := by decide +kernel
theorem dX5_count_64 : decode cX5_count 64 = .ok (.aload_n 0, 1) := by decide +kernel
theorem dX5_count_65 : decode cX5_count 65 = .ok (.getfield 66, 3) := by decide +kernel
theorem dX5_count_68 : decode cX5_count 68 = .ok (.ireturn, 1) := by decide +kernel
theorem dX5_count_69 : decode cX5_count 69 = .ok (.aload_n 0, 1) := by decide +kernel
theorem dX5_count_70 : decode cX5_count 70 = .ok (.getfield 22, 3) := by decide +kernel
theorem dX5_count_73 : decode cX5_count 73 = .ok (.getfield 132, 3) := by decide +kernel
theorem dX5_count_76 : decode cX5_count 76 = .ok (.ireturn, 1) := by decide +kernel
theorem dX5_count_77 : decode cX5_count 77 = .ok (.aload_n 0, 1) := by decide +kernel
theorem dX5_count_78 : decode cX5_count 78 = .ok (.getfield 10, 3) := by decide +kernel
theorem dX5_count_81 : decode cX5_count 81 = .ok (.getfield 140, 3) := by decide +kernel
theorem dX5_count_84 : decode cX5_count 84 = .ok (.ireturn, 1) := by decide +kernel
theorem dX5_count_85 : decode cX5_count 85 = .ok (.bipush (-2), 2) := by decide +kernel
theorem dX5_count_87 : decode cX5_count 87 = .ok (.ireturn, 1) := by decide +kernel
theorem dX5_sheet_0 : decode cX5_sheet 0 = .ok (.iload_n 1, 1) := by decide +kernel
theorem dX5_sheet_1 : decode cX5_sheet 1 = .ok (.invokestatic 227, 3) := by decide +kernel
theorem dX5_sheet_4 : decode cX5_sheet 4 = .ok (.ifCond .ne 6, 3) := by decide +kernel
theorem dX5_sheet_7 : decode cX5_sheet 7 = .ok (.bipush (-2), 2) := by decide +kernel
theorem dX5_sheet_9 : decode cX5_sheet 9 = .ok (.ireturn, 1) := by decide +kernel
theorem dX5_sheet_10 : decode cX5_sheet 10 = .ok (.iload_n 2, 1) := by decide +kernel
theorem dX5_sheet_11 : decode cX5_sheet 11 = .ok (.iconst (-1), 1) := by decide +kernel
theorem dX5_sheet_12 : decode cX5_sheet 12 = .ok (.if_icmp .ne 16, 3) := by decide +kernel
theorem dX5_sheet_15 : decode cX5_sheet 15 = .ok (.aload_n 0, 1) := by decide +kernel
theorem dX5_sheet_16 : decode cX5_sheet 16 = .ok (.getfield 34, 3) := by decide +kernel
theorem dX5_sheet_19 : decode cX5_sheet 19 = .ok (.iload_n 1, 1) := by decide +kernel
theorem dX5_sheet_20 : decode cX5_sheet 20 = .ok (.aaload, 1) := by decide +kernel
theorem dX5_sheet_21 : decode cX5_sheet 21 = .ok (.iconst (-1), 1) := by decide +kernel
theorem dX5_sheet_22 : decode cX5_sheet 22 = .ok (.iconst 0, 1) := by decide +kernel
theorem dX5_sheet_23 : decode cX5_sheet 23 = .ok (.invokevirtual 309, 3) := by decide +kernel
theorem dX5_sheet_26 : decode cX5_sheet 26 = .ok (.iconst 1, 1) := by decide +kernel
theorem dX5_sheet_27 : decode cX5_sheet 27 = .ok (.ireturn, 1) := by decide +kernel
theorem dX5_sheet_28 : decode cX5_sheet 28 = .ok (.iload_n 2, 1) := by decide +kernel
theorem dX5_sheet_29 : decode cX5_sheet 29 = .ok (.invokestatic 310, 3) := by decide +kernel
theorem dX5_sheet_32 : decode cX5_sheet 32 = .ok (.ifCond .eq 9, 3) := by decide +kernel
theorem dX5_sheet_35 : decode cX5_sheet 35 = .ok (.iload_n 3, 1) := by decide +kernel
theorem dX5_sheet_36 : decode cX5_sheet 36 = .ok (.bipush 40, 2) := by decide +kernel
theorem dX5_sheet_38 : decode cX5_sheet 38 = .ok (.if_icmp .le 6, 3) := by decide +kernel
theorem dX5_sheet_41 : decode cX5_sheet 41 = .ok (.bipush (-2), 2) := by decide +kernel
theorem dX5_sheet_43 : decode cX5_sheet 43 = .ok (.ireturn, 1) := by decide +kernel
theorem dX5_sheet_44 : decode cX5_sheet 44 = .ok (.iload_n 3, 1) := by decide +kernel
theorem dX5_sheet_45 : decode cX5_sheet 45 = .ok (.ifCond .ge 6, 3) := by decide +kernel
theorem dX5_sheet_48 : decode cX5_sheet 48 = .ok (.bipush (-14), 2) := by decide +kernel
theorem dX5_sheet_50 : decode cX5_sheet 50 = .ok (.ireturn, 1) := by decide +kernel
theorem dX5_sheet_51 : decode cX5_sheet 51 = .ok (.aload_n 0, 1) := by decide +kernel
theorem dX5_sheet_52 : decode cX5_sheet 52 = .ok (.getfield 34, 3) := by decide +kernel
theorem dX5_sheet_55 : decode cX5_sheet 55 = .ok (.iload_n 1, 1) := by decide +kernel
theorem dX5_sheet_56 : decode cX5_sheet 56 = .ok (.aaload, 1) := by decide +kernel
theorem dX5_sheet_57 : decode cX5_sheet 57 = .ok (.iload_n 2, 1) := by decide +kernel
theorem dX5_sheet_58 : decode cX5_sheet 58 = .ok (.iload_n 3, 1) := by decide +kernel
theorem dX5_sheet_59 : decode cX5_sheet 59 = .ok (.invokevirtual 309, 3) := by decide +kernel
theorem dX5_sheet_62 : decode cX5_sheet 62 = .ok (.iconst 1, 1) := by decide +kernel
theorem dX5_sheet_63 : decode cX5_sheet 63 = .ok (.ireturn, 1) := by decide +kernel
theorem dX5_cell_0 : decode cX5_cell 0 = .ok (.iload_n 1, 1) := by decide +kernel
theorem dX5_cell_1 : decode cX5_cell 1 = .ok (.invokestatic 227, 3) := by decide +kernel
theorem dX5_cell_4 : decode cX5_cell 4 = .ok (.ifCond .ne 6, 3) := by decide +kernel
theorem dX5_cell_7 : decode cX5_cell 7 = .ok (.bipush (-2), 2) := by decide +kernel
theorem dX5_cell_9 : decode cX5_cell 9 = .ok (.ireturn, 1) := by decide +kernel
theorem dX5_cell_10 : decode cX5_cell 10 = .ok (.aload_n 0, 1) := by decide +kernel
theorem dX5_cell_11 : decode cX5_cell 11 = .ok (.getfield 34, 3) := by decide +kernel
theorem dX5_cell_14 : decode cX5_cell 14 = .ok (.iload_n 1, 1) := by decide +kernel
theorem dX5_cell_15 : decode cX5_cell 15 = .ok (.aaload, 1) := by decide +kernel
theorem dX5_cell_16 : decode cX5_cell 16 = .ok (.invokevirtual 230, 3) := by decide +kernel
theorem dX5_cell_19 : decode cX5_cell 19 = .ok (.ifCond .eq 6, 3) := by decide +kernel
theorem dX5_cell_22 : decode cX5_cell 22 = .ok (.bipush (-11), 2) := by decide +kernel
theorem dX5_cell_24 : decode cX5_cell 24 = .ok (.ireturn, 1) := by decide +kernel
theorem dX5_cell_25 : decode cX5_cell 25 = .ok (.aload_n 0, 1) := by decide +kernel
theorem dX5_cell_26 : decode cX5_cell 26 = .ok (.getfield 34, 3) := by decide +kernel
theorem dX5_cell_29 : decode cX5_cell 29 = .ok (.iload_n 1, 1) := by decide +kernel
theorem dX5_cell_30 : decode cX5_cell 30 = .ok (.aaload, 1) := by decide +kernel
theorem dX5_cell_31 : decode cX5_cell 31 = .ok (.iload_n 2, 1) := by decide +kernel
theorem dX5_cell_32 : decode cX5_cell 32 = .ok (.iconst 1, 1) := by decide +kernel
theorem dX5_cell_33 : decode cX5_cell 33 = .ok (.invokevirtual 313, 3) := by decide +kernel
theorem dX5_cell_36 : decode cX5_cell 36 = .ok (.ifCond .ne 6, 3) := by decide +kernel
theorem dX5_cell_39 : decode cX5_cell 39 = .ok (.bipush (-12), 2) := by decide +kernel
theorem dX5_cell_41 : decode cX5_cell 41 = .ok (.ireturn, 1) := by decide +kernel
theorem dX5_cell_42 : decode cX5_cell 42 = .ok (.aload_n 0, 1) := by decide +kernel
theorem dX5_cell_43 : decode cX5_cell 43 = .ok (.getfield 34, 3) := by decide +kernel
theorem dX5_cell_46 : decode cX5_cell 46 = .ok (.iload_n 1, 1) := by decide +kernel
theorem dX5_cell_47 : decode cX5_cell 47 = .ok (.aaload, 1) := by decide +kernel
theorem dX5_cell_48 : decode cX5_cell 48 = .ok (.iload_n 2, 1) := by decide +kernel
theorem dX5_cell_49 : decode cX5_cell 49 = .ok (.iload_n 3, 1) := by decide +kernel
theorem dX5_cell_50 : decode cX5_cell 50 = .ok (.invokevirtual 316, 3) := by decide +kernel
theorem dX5_cell_53 : decode cX5_cell 53 = .ok (.iconst 1, 1) := by decide +kernel
theorem dX5_cell_54 : decode cX5_cell 54 = .ok (.ireturn, 1) := by decide +kernel
theorem dX5_copy_0 : decode cX5_copy 0 = .ok (.iload_n 1, 1) := by decide +kernel
theorem dX5_copy_1 : decode cX5_copy 1 = .ok (.invokestatic 227, 3) := by decide +kernel
theorem dX5_copy_4 : decode cX5_copy 4 = .ok (.ifCond .eq 10, 3) := by decide +kernel
theorem dX5_copy_7 : decode cX5_copy 7 = .ok (.iload_n 3, 1) := by decide +kernel
theorem dX5_copy_8 : decode cX5_copy 8 = .ok (.invokestatic 227, 3) := by decide +kernel
theorem dX5_copy_11 : decode cX5_copy 11 = .ok (.ifCond .ne 6, 3) := by decide +kernel
theorem dX5_copy_14 : decode cX5_copy 14 = .ok (.bipush (-2), 2) := by decide +kernel
theorem dX5_copy_16 : decode cX5_copy 16 = .ok (.ireturn, 1) := by decide +kernel
theorem dX5_copy_17 : decode cX5_copy 17 = .ok (.aload_n 0, 1) := by decide +kernel
theorem dX5_copy_18 : decode cX5_copy 18 = .ok (.getfield 34, 3) := by decide +kernel
theorem dX5_copy_21 : decode cX5_copy 21 = .ok (.iload_n 1, 1) := by decide +kernel
theorem dX5_copy_22 : decode cX5_copy 22 = .ok (.aaload, 1) := by decide +kernel
theorem dX5_copy_23 : decode cX5_copy 23 = .ok (.astore 6, 2) := by decide +kernel
theorem dX5_copy_25 : decode cX5_copy 25 = .ok (.aload_n 0, 1) := by decide +kernel
theorem dX5_copy_26 : decode cX5_copy 26 = .ok (.getfield 34, 3) := by decide +kernel
theorem dX5_copy_29 : decode cX5_copy 29 = .ok (.iload_n 3, 1) := by decide +kernel
theorem dX5_copy_30 : decode cX5_copy 30 = .ok (.aaload, 1) := by decide +kernel
theorem dX5_copy_31 : decode cX5_copy 31 = .ok (.astore 7, 2) := by decide +kernel
theorem dX5_copy_33 : decode cX5_copy 33 = .ok (.aload 6, 2) := by decide +kernel
theorem dX5_copy_35 : decode cX5_copy 35 = .ok (.invokevirtual 230, 3) := by decide +kernel
theorem dX5_copy_38 : decode cX5_copy 38 = .ok (.ifCond .ne 11, 3) := by decide +kernel
theorem dX5_copy_41 : decode cX5_copy 41 = .ok (.aload 7, 2) := by decide +kernel
theorem dX5_copy_43 : decode cX5_copy 43 = .ok (.invokevirtual 230, 3) := by decide +kernel
theorem dX5_copy_46 : decode cX5_copy 46 = .ok (.ifCond .eq 6, 3) := by decide +kernel
theorem dX5_copy_49 : decode cX5_copy 49 = .ok (.bipush (-11), 2) := by decide +kernel
theorem dX5_copy_51 : decode cX5_copy 51 = .ok (.ireturn, 1) := by decide +kernel
theorem dX5_copy_52 : decode cX5_copy 52 = .ok (.aload 6, 2) := by decide +kernel
theorem dX5_copy_54 : decode cX5_copy 54 = .ok (.getfield 319, 3) := by decide +kernel
theorem dX5_copy_57 : decode cX5_copy 57 = .ok (.aload 7, 2) := by decide +kernel
theorem dX5_copy_59 : decode cX5_copy 59 = .ok (.getfield 319, 3) := by decide +kernel
theorem dX5_copy_62 : decode cX5_copy 62 = .ok (.if_icmp .eq 6, 3) := by decide +kernel
theorem dX5_copy_65 : decode cX5_copy 65 = .ok (.bipush (-13), 2) := by decide +kernel
theorem dX5_copy_67 : decode cX5_copy 67 = .ok (.ireturn, 1) := by decide +kernel
theorem dX5_copy_68 : decode cX5_copy 68 = .ok (.aload 6, 2) := by decide +kernel
theorem dX5_copy_70 : decode cX5_copy 70 = .ok (.iload_n 2, 1) := by decide +kernel
theorem dX5_copy_71 : decode cX5_copy 71 = .ok (.iload 5, 2) := by decide +kernel
theorem dX5_copy_73 : decode cX5_copy 73 = .ok (.invokevirtual 313, 3) := by decide +kernel
theorem dX5_copy_76 : decode cX5_copy 76 = .ok (.ifCond .eq 15, 3) := by decide +kernel
theorem dX5_copy_79 : decode cX5_copy 79 = .ok (.aload 7, 2) := by decide +kernel
theorem dX5_copy_81 : decode cX5_copy 81 = .ok (.iload 4, 2) := by decide +kernel
theorem dX5_copy_83 : decode cX5_copy 83 = .ok (.iload 5, 2) := by decide +kernel
theorem dX5_copy_85 : decode cX5_copy 85 = .ok (.invokevirtual 313, 3) := by decide +kernel
theorem dX5_copy_88 : decode cX5_copy 88 = .ok (.ifCond .ne 6, 3) := by decide +kernel
theorem dX5_copy_91 : decode cX5_copy 91 = .ok (.bipush (-12), 2) := by decide +kernel
theorem dX5_copy_93 : decode cX5_copy 93 = .ok (.ireturn, 1) := by decide +kernel
theorem dX5_copy_94 : decode cX5_copy 94 = .ok (.aload 6, 2) := by decide +kernel
theorem dX5_copy_96 : decode cX5_copy 96 = .ok (.getfield 243, 3) := by decide +kernel
theorem dX5_copy_99 : decode cX5_copy 99 = .ok (.iload_n 2, 1) := by decide +kernel
theorem dX5_copy_100 : decode cX5_copy 100 = .ok (.aload 7, 2) := by decide +kernel
theorem dX5_copy_102 : decode cX5_copy 102 = .ok (.getfield 243, 3) := by decide +kernel
theorem dX5_copy_105 : decode cX5_copy 105 = .ok (.iload 4, 2) := by decide +kernel
theorem dX5_copy_107 : decode cX5_copy 107 = .ok (.iload 5, 2) := by decide +kernel
theorem dX5_copy_109 : decode cX5_copy 109 = .ok (.invokestatic 322, 3) := by decide +kernel
theorem dX5_copy_112 : decode cX5_copy 112 = .ok (.iload 5, 2) := by decide +kernel
theorem dX5_copy_114 : decode cX5_copy 114 = .ok (.ireturn, 1) := by decide +kernel
theorem dX5_points_0 : decode cX5_points 0 = .ok (.iload_n 1, 1) := by decide +kernel
theorem dX5_points_1 : decode cX5_points 1 = .ok (.invokestatic 227, 3) := by decide +kernel
theorem dX5_points_4 : decode cX5_points 4 = .ok (.ifCond .eq 22, 3) := by decide +kernel
theorem dX5_points_7 : decode cX5_points 7 = .ok (.iload_n 2, 1) := by decide +kernel
theorem dX5_points_8 : decode cX5_points 8 = .ok (.invokestatic 310, 3) := by decide +kernel
theorem dX5_points_11 : decode cX5_points 11 = .ok (.ifCond .eq 15, 3) := by decide +kernel
theorem dX5_points_14 : decode cX5_points 14 = .ok (.iload 4, 2) := by decide +kernel
theorem dX5_points_16 : decode cX5_points 16 = .ok (.ifCond .lt 10, 3) := by decide +kernel
theorem dX5_points_19 : decode cX5_points 19 = .ok (.iload 4, 2) := by decide +kernel
theorem dX5_points_21 : decode cX5_points 21 = .ok (.bipush 13, 2) := by decide +kernel
theorem dX5_points_23 : decode cX5_points 23 = .ok (.if_icmp .le 6, 3) := by decide +kernel
theorem dX5_points_26 : decode cX5_points 26 = .ok (.bipush (-2), 2) := by decide +kernel
theorem dX5_points_28 : decode cX5_points 28 = .ok (.ireturn, 1) := by decide +kernel
theorem dX5_points_29 : decode cX5_points 29 = .ok (.aload_n 0, 1) := by decide +kernel
theorem dX5_points_30 : decode cX5_points 30 = .ok (.getfield 34, 3) := by decide +kernel
theorem dX5_points_33 : decode cX5_points 33 = .ok (.iload_n 1, 1) := by decide +kernel
theorem dX5_points_34 : decode cX5_points 34 = .ok (.aaload, 1) := by decide +kernel
theorem dX5_points_35 : decode cX5_points 35 = .ok (.astore 5, 2) := by decide +kernel
theorem dX5_points_37 : decode cX5_points 37 = .ok (.aload 5, 2) := by decide +kernel
theorem dX5_points_39 : decode cX5_points 39 = .ok (.invokevirtual 230, 3) := by decide +kernel
theorem dX5_points_42 : decode cX5_points 42 = .ok (.ifCond .ne 15, 3) := by decide +kernel
theorem dX5_points_45 : decode cX5_points 45 = .ok (.aload 5, 2) := by decide +kernel
theorem dX5_points_47 : decode cX5_points 47 = .ok (.getfield 319, 3) := by decide +kernel
theorem dX5_points_50 : decode cX5_points 50 = .ok (.iload_n 2, 1) := by decide +kernel
theorem dX5_points_51 : decode cX5_points 51 = .ok (.if_icmp .eq 6, 3) := by decide +kernel
theorem dX5_points_54 : decode cX5_points 54 = .ok (.bipush (-13), 2) := by decide +kernel
theorem dX5_points_56 : decode cX5_points 56 = .ok (.ireturn, 1) := by decide +kernel
theorem dX5_points_57 : decode cX5_points 57 = .ok (.aload 5, 2) := by decide +kernel
theorem dX5_points_59 : decode cX5_points 59 = .ok (.invokevirtual 230, 3) := by decide +kernel
theorem dX5_points_62 : decode cX5_points 62 = .ok (.ifCond .eq 6, 3) := by decide +kernel
theorem dX5_points_65 : decode cX5_points 65 = .ok (.bipush (-11), 2) := by decide +kernel
theorem dX5_points_67 : decode cX5_points 67 = .ok (.ireturn, 1) := by decide +kernel
theorem dX5_points_68 : decode cX5_points 68 = .ok (.iconst 0, 1) := by decide +kernel
theorem dX5_points_69 : decode cX5_points 69 = .ok (.istore 6, 2) := by decide +kernel
theorem dX5_points_71 : decode cX5_points 71 = .ok (.iconst 0, 1) := by decide +kernel
theorem dX5_points_72 : decode cX5_points 72 = .ok (.istore 7, 2) := by decide +kernel
theorem dX5_points_74 : decode cX5_points 74 = .ok (.iload 7, 2) := by decide +kernel
theorem dX5_points_76 : decode cX5_points 76 = .ok (.iload 4, 2) := by decide +kernel
theorem dX5_points_78 : decode cX5_points 78 = .ok (.if_icmp .ge 69, 3) := by decide +kernel
theorem dX5_points_81 : decode cX5_points 81 = .ok (.iload_n 3, 1) := by decide +kernel
theorem dX5_points_82 : decode cX5_points 82 = .ok (.iconst 3, 1) := by decide +kernel
theorem dX5_points_83 : decode cX5_points 83 = .ok (.iload 7, 2) := by decide +kernel
theorem dX5_points_85 : decode cX5_points 85 = .ok (.imul, 1) := by decide +kernel
theorem dX5_points_86 : decode cX5_points 86 = .ok (.iadd, 1) := by decide +kernel
theorem dX5_points_87 : decode cX5_points 87 = .ok (.istore 8, 2) := by decide +kernel
theorem dX5_points_89 : decode cX5_points 89 = .ok (.aload 5, 2) := by decide +kernel
theorem dX5_points_91 : decode cX5_points 91 = .ok (.iload 8, 2) := by decide +kernel
theorem dX5_points_93 : decode cX5_points 93 = .ok (.iconst 3, 1) := by decide +kernel
theorem dX5_points_94 : decode cX5_points 94 = .ok (.invokevirtual 313, 3) := by decide +kernel
theorem dX5_points_97 : decode cX5_points 97 = .ok (.ifCond .ne 6, 3) := by decide +kernel
theorem dX5_points_100 : decode cX5_points 100 = .ok (.bipush (-12), 2) := by decide +kernel
theorem dX5_points_102 : decode cX5_points 102 = .ok (.ireturn, 1) := by decide +kernel
theorem dX5_points_103 : decode cX5_points 103 = .ok (.aload_n 0, 1) := by decide +kernel
theorem dX5_points_104 : decode cX5_points 104 = .ok (.aload 5, 2) := by decide +kernel
theorem dX5_points_106 : decode cX5_points 106 = .ok (.getfield 243, 3) := by decide +kernel
theorem dX5_points_109 : decode cX5_points 109 = .ok (.iload 8, 2) := by decide +kernel
theorem dX5_points_111 : decode cX5_points 111 = .ok (.iaload, 1) := by decide +kernel
theorem dX5_points_112 : decode cX5_points 112 = .ok (.aload 5, 2) := by decide +kernel
theorem dX5_points_114 : decode cX5_points 114 = .ok (.getfield 243, 3) := by decide +kernel
theorem dX5_points_117 : decode cX5_points 117 = .ok (.iload 8, 2) := by decide +kernel
theorem dX5_points_119 : decode cX5_points 119 = .ok (.iconst 1, 1) := by decide +kernel
theorem dX5_points_120 : decode cX5_points 120 = .ok (.iadd, 1) := by decide +kernel
theorem dX5_points_121 : decode cX5_points 121 = .ok (.iaload, 1) := by decide +kernel
theorem dX5_points_122 : decode cX5_points 122 = .ok (.aload 5, 2) := by decide +kernel
theorem dX5_points_124 : decode cX5_points 124 = .ok (.getfield 243, 3) := by decide +kernel
theorem dX5_points_127 : decode cX5_points 127 = .ok (.iload 8, 2) := by decide +kernel
theorem dX5_points_129 : decode cX5_points 129 = .ok (.iconst 2, 1) := by decide +kernel
theorem dX5_points_130 : decode cX5_points 130 = .ok (.iadd, 1) := by decide +kernel
theorem dX5_points_131 : decode cX5_points 131 = .ok (.iaload, 1) := by decide +kernel
theorem dX5_points_132 : decode cX5_points 132 = .ok (.invokevirtual 109, 3) := by decide +kernel
theorem dX5_points_135 : decode cX5_points 135 = .ok (.ifCond .le 6, 3) := by decide +kernel
theorem dX5_points_138 : decode cX5_points 138 = .ok (.iinc 6 1, 3) := by decide +kernel
theorem dX5_points_141 : decode cX5_points 141 = .ok (.iinc 7 1, 3) := by decide +kernel
theorem dX5_points_144 : decode cX5_points 144 = .ok (.goto (-70), 3) := by decide +kernel
theorem dX5_points_147 : decode cX5_points 147 = .ok (.iload 6, 2) := by decide +kernel
theorem dX5_points_149 : decode cX5_points 149 = .ok (.ireturn, 1) := by decide +kernel
theorem dX5_taken_0 : decode cX5_taken 0 = .ok (.iload_n 2, 1) := by decide +kernel
theorem dX5_taken_1 : decode cX5_taken 1 = .ok (.invokestatic 99, 3) := by decide +kernel
theorem dX5_taken_4 : decode cX5_taken 4 = .ok (.ifCond .ne 6, 3) := by decide +kernel
theorem dX5_taken_7 : decode cX5_taken 7 = .ok (.bipush (-2), 2) := by decide +kernel
theorem dX5_taken_9 : decode cX5_taken 9 = .ok (.ireturn, 1) := by decide +kernel
theorem dX5_taken_10 : decode cX5_taken 10 = .ok (.aload_n 0, 1) := by decide +kernel
theorem dX5_taken_11 : decode cX5_taken 11 = .ok (.getfield 10, 3) := by decide +kernel
theorem dX5_taken_14 : decode cX5_taken 14 = .ok (.iload_n 1, 1) := by decide +kernel
theorem dX5_taken_15 : decode cX5_taken 15 = .ok (.invokevirtual 85, 3) := by decide +kernel
theorem dX5_taken_18 : decode cX5_taken 18 = .ok (.ifCond .ne 6, 3) := by decide +kernel
theorem dX5_taken_21 : decode cX5_taken 21 = .ok (.bipush (-11), 2) := by decide +kernel
theorem dX5_taken_23 : decode cX5_taken 23 = .ok (.ireturn, 1) := by decide +kernel
theorem dX5_taken_24 : decode cX5_taken 24 = .ok (.aload_n 0, 1) := by decide +kernel
theorem dX5_taken_25 : decode cX5_taken 25 = .ok (.getfield 10, 3) := by decide +kernel
theorem dX5_taken_28 : decode cX5_taken 28 = .ok (.getfield 92, 3) := by decide +kernel
theorem dX5_taken_31 : decode cX5_taken 31 = .ok (.iload_n 1, 1) := by decide +kernel
theorem dX5_taken_32 : decode cX5_taken 32 = .ok (.aaload, 1) := by decide +kernel
theorem dX5_taken_33 : decode cX5_taken 33 = .ok (.getfield 123, 3) := by decide +kernel
theorem dX5_taken_36 : decode cX5_taken 36 = .ok (.iload_n 2, 1) := by decide +kernel
theorem dX5_taken_37 : decode cX5_taken 37 = .ok (.invokestatic 328, 3) := by decide +kernel
theorem dX5_taken_40 : decode cX5_taken 40 = .ok (.ifCond .eq 18, 3) := by decide +kernel
theorem dX5_taken_43 : decode cX5_taken 43 = .ok (.aload_n 0, 1) := by decide +kernel
theorem dX5_taken_44 : decode cX5_taken 44 = .ok (.getfield 10, 3) := by decide +kernel
theorem dX5_taken_47 : decode cX5_taken 47 = .ok (.getfield 92, 3) := by decide +kernel
theorem dX5_taken_50 : decode cX5_taken 50 = .ok (.iload_n 1, 1) := by decide +kernel
theorem dX5_taken_51 : decode cX5_taken 51 = .ok (.aaload, 1) := by decide +kernel
theorem dX5_taken_52 : decode cX5_taken 52 = .ok (.getfield 96, 3) := by decide +kernel
theorem dX5_taken_55 : decode cX5_taken 55 = .ok (.goto 5, 3) := by decide +kernel
theorem dX5_taken_58 : decode cX5_taken 58 = .ok (.bipush (-13), 2) := by decide +kernel
theorem dX5_taken_60 : decode cX5_taken 60 = .ok (.ireturn, 1) := by decide +kernel
theorem dX5_isUnder_0 : decode cX5_isUnder 0 = .ok (.iload_n 0, 1) := by decide +kernel
theorem dX5_isUnder_1 : decode cX5_isUnder 1 = .ok (.istore_n 2, 1) := by decide +kernel
theorem dX5_isUnder_2 : decode cX5_isUnder 2 = .ok (.iconst 0, 1) := by decide +kernel
theorem dX5_isUnder_3 : decode cX5_isUnder 3 = .ok (.istore_n 3, 1) := by decide +kernel
theorem dX5_isUnder_4 : decode cX5_isUnder 4 = .ok (.iload_n 3, 1) := by decide +kernel
theorem dX5_isUnder_5 : decode cX5_isUnder 5 = .ok (.bipush 6, 2) := by decide +kernel
theorem dX5_isUnder_7 : decode cX5_isUnder 7 = .ok (.if_icmp .ge 29, 3) := by decide +kernel
theorem dX5_isUnder_10 : decode cX5_isUnder 10 = .ok (.iload_n 2, 1) := by decide +kernel
theorem dX5_isUnder_11 : decode cX5_isUnder 11 = .ok (.invokestatic 99, 3) := by decide +kernel
theorem dX5_isUnder_14 : decode cX5_isUnder 14 = .ok (.ifCond .eq 22, 3) := by decide +kernel
theorem dX5_isUnder_17 : decode cX5_isUnder 17 = .ok (.iload_n 2, 1) := by decide +kernel
theorem dX5_isUnder_18 : decode cX5_isUnder 18 = .ok (.iload_n 1, 1) := by decide +kernel
theorem dX5_isUnder_19 : decode cX5_isUnder 19 = .ok (.if_icmp .ne 5, 3) := by decide +kernel
theorem dX5_isUnder_22 : decode cX5_isUnder 22 = .ok (.iconst 1, 1) := by decide +kernel
theorem dX5_isUnder_23 : decode cX5_isUnder 23 = .ok (.ireturn, 1) := by decide +kernel
theorem dX5_isUnder_24 : decode cX5_isUnder 24 = .ok (.getstatic 331, 3) := by decide +kernel
theorem dX5_isUnder_27 : decode cX5_isUnder 27 = .ok (.iload_n 2, 1) := by decide +kernel
theorem dX5_isUnder_28 : decode cX5_isUnder 28 = .ok (.iaload, 1) := by decide +kernel
theorem dX5_isUnder_29 : decode cX5_isUnder 29 = .ok (.istore_n 2, 1) := by decide +kernel
theorem dX5_isUnder_30 : decode cX5_isUnder 30 = .ok (.iinc 3 1, 3) := by decide +kernel
theorem dX5_isUnder_33 : decode cX5_isUnder 33 = .ok (.goto (-29), 3) := by decide +kernel
theorem dX5_isUnder_36 : decode cX5_isUnder 36 = .ok (.iconst 0, 1) := by decide +kernel
theorem dX5_isUnder_37 : decode cX5_isUnder 37 = .ok (.ireturn, 1) := by decide +kernel
theorem dX5_isMinute_0 : decode cX5_isMinute 0 = .ok (.iload_n 0, 1) := by decide +kernel
theorem dX5_isMinute_1 : decode cX5_isMinute 1 = .ok (.ifCond .lt 14, 3) := by decide +kernel
theorem dX5_isMinute_4 : decode cX5_isMinute 4 = .ok (.iload_n 0, 1) := by decide +kernel
theorem dX5_isMinute_5 : decode cX5_isMinute 5 = .ok (.sipush 600, 3) := by decide +kernel
theorem dX5_isMinute_8 : decode cX5_isMinute 8 = .ok (.if_icmp .gt 7, 3) := by decide +kernel
theorem dX5_isMinute_11 : decode cX5_isMinute 11 = .ok (.iconst 1, 1) := by decide +kernel
theorem dX5_isMinute_12 : decode cX5_isMinute 12 = .ok (.goto 4, 3) := by decide +kernel
theorem dX5_isMinute_15 : decode cX5_isMinute 15 = .ok (.iconst 0, 1) := by decide +kernel
theorem dX5_isMinute_16 : decode cX5_isMinute 16 = .ok (.ireturn, 1) := by decide +kernel
theorem dX5_isKind_0 : decode cX5_isKind 0 = .ok (.iload_n 0, 1) := by decide +kernel
theorem dX5_isKind_1 : decode cX5_isKind 1 = .ok (.ifCond .lt 13, 3) := by decide +kernel
theorem dX5_isKind_4 : decode cX5_isKind 4 = .ok (.iload_n 0, 1) := by decide +kernel
theorem dX5_isKind_5 : decode cX5_isKind 5 = .ok (.bipush 6, 2) := by decide +kernel
theorem dX5_isKind_7 : decode cX5_isKind 7 = .ok (.if_icmp .ge 7, 3) := by decide +kernel
theorem dX5_isKind_10 : decode cX5_isKind 10 = .ok (.iconst 1, 1) := by decide +kernel
theorem dX5_isKind_11 : decode cX5_isKind 11 = .ok (.goto 4, 3) := by decide +kernel
theorem dX5_isKind_14 : decode cX5_isKind 14 = .ok (.iconst 0, 1) := by decide +kernel
theorem dX5_isKind_15 : decode cX5_isKind 15 = .ok (.ireturn, 1) := by decide +kernel
theorem dX5_isNumber_0 : decode cX5_isNumber 0 = .ok (.iload_n 0, 1) := by decide +kernel
theorem dX5_isNumber_1 : decode cX5_isNumber 1 = .ok (.ifCond .lt 13, 3) := by decide +kernel
theorem dX5_isNumber_4 : decode cX5_isNumber 4 = .ok (.iload_n 0, 1) := by decide +kernel
theorem dX5_isNumber_5 : decode cX5_isNumber 5 = .ok (.bipush 9, 2) := by decide +kernel
theorem dX5_isNumber_7 : decode cX5_isNumber 7 = .ok (.if_icmp .gt 7, 3) := by decide +kernel
theorem dX5_isNumber_10 : decode cX5_isNumber 10 = .ok (.iconst 1, 1) := by decide +kernel
theorem dX5_isNumber_11 : decode cX5_isNumber 11 = .ok (.goto 4, 3) := by decide +kernel
theorem dX5_isNumber_14 : decode cX5_isNumber 14 = .ok (.iconst 0, 1) := by decide +kernel
theorem dX5_isNumber_15 : decode cX5_isNumber 15 = .ok (.ireturn, 1) := by decide +kernel
theorem dX5_isSheet_0 : decode cX5_isSheet 0 = .ok (.iload_n 0, 1) := by decide +kernel
theorem dX5_isSheet_1 : decode cX5_isSheet 1 = .ok (.ifCond .lt 12, 3) := by decide +kernel
theorem dX5_isSheet_4 : decode cX5_isSheet 4 = .ok (.iload_n 0, 1) := by decide +kernel
theorem dX5_isSheet_5 : decode cX5_isSheet 5 = .ok (.iconst 4, 1) := by decide +kernel
theorem dX5_isSheet_6 : decode cX5_isSheet 6 = .ok (.if_icmp .ge 7, 3) := by decide +kernel
theorem dX5_isSheet_9 : decode cX5_isSheet 9 = .ok (.iconst 1, 1) := by decide +kernel
theorem dX5_isSheet_10 : decode cX5_isSheet 10 = .ok (.goto 4, 3) := by decide +kernel
theorem dX5_isSheet_13 : decode cX5_isSheet 13 = .ok (.iconst 0, 1) := by decide +kernel
theorem dX5_isSheet_14 : decode cX5_isSheet 14 = .ok (.ireturn, 1) := by decide +kernel
theorem dX5_isSort_0 : decode cX5_isSort 0 = .ok (.iload_n 0, 1) := by decide +kernel
theorem dX5_isSort_1 : decode cX5_isSort 1 = .ok (.ifCond .lt 12, 3) := by decide +kernel
theorem dX5_isSort_4 : decode cX5_isSort 4 = .ok (.iload_n 0, 1) := by decide +kernel
theorem dX5_isSort_5 : decode cX5_isSort 5 = .ok (.iconst 3, 1) := by decide +kernel
theorem dX5_isSort_6 : decode cX5_isSort 6 = .ok (.if_icmp .ge 7, 3) := by decide +kernel
theorem dX5_isSort_9 : decode cX5_isSort 9 = .ok (.iconst 1, 1) := by decide +kernel
theorem dX5_isSort_10 : decode cX5_isSort 10 = .ok (.goto 4, 3) := by decide +kernel
theorem dX5_isSort_13 : decode cX5_isSort 13 = .ok (.iconst 0, 1) := by decide +kernel
theorem dX5_isSort_14 : decode cX5_isSort 14 = .ok (.ireturn, 1) := by decide +kernel
theorem dX5_within_0 : decode cX5_within 0 = .ok (.iload_n 0, 1) := by decide +kernel
theorem dX5_within_1 : decode cX5_within 1 = .ok (.iload_n 1, 1) := by decide +kernel
theorem dX5_within_2 : decode cX5_within 2 = .ok (.iload_n 2, 1) := by decide +kernel
theorem dX5_within_3 : decode cX5_within 3 = .ok (.invokestatic 334, 3) := by decide +kernel
theorem dX5_within_6 : decode cX5_within 6 = .ok (.invokestatic 224, 3) := by decide +kernel
theorem dX5_within_9 : decode cX5_within 9 = .ok (.ireturn, 1) := by decide +kernel
theorem dX5_areOpposite_0 : decode cX5_areOpposite 0 = .ok (.lload_n 0, 1) := by decide +kernel
theorem dX5_areOpposite_1 : decode cX5_areOpposite 1 = .ok (.lconst 0, 1) := by decide +kernel
theorem dX5_areOpposite_2 : decode cX5_areOpposite 2 = .ok (.lcmp, 1) := by decide +kernel
theorem dX5_areOpposite_3 : decode cX5_areOpposite 3 = .ok (.ifCond .le 9, 3) := by decide +kernel
theorem dX5_areOpposite_6 : decode cX5_areOpposite 6 = .ok (.lload_n 2, 1) := by decide +kernel
theorem dX5_areOpposite_7 : decode cX5_areOpposite 7 = .ok (.lconst 0, 1) := by decide +kernel
theorem dX5_areOpposite_8 : decode cX5_areOpposite 8 = .ok (.lcmp, 1) := by decide +kernel
theorem dX5_areOpposite_9 : decode cX5_areOpposite 9 = .ok (.ifCond .lt 15, 3) := by decide +kernel
theorem dX5_areOpposite_12 : decode cX5_areOpposite 12 = .ok (.lload_n 0, 1) := by decide +kernel
theorem dX5_areOpposite_13 : decode cX5_areOpposite 13 = .ok (.lconst 0, 1) := by decide +kernel
theorem dX5_areOpposite_14 : decode cX5_areOpposite 14 = .ok (.lcmp, 1) := by decide +kernel
theorem dX5_areOpposite_15 : decode cX5_areOpposite 15 = .ok (.ifCond .ge 13, 3) := by decide +kernel
theorem dX5_areOpposite_18 : decode cX5_areOpposite 18 = .ok (.lload_n 2, 1) := by decide +kernel
theorem dX5_areOpposite_19 : decode cX5_areOpposite 19 = .ok (.lconst 0, 1) := by decide +kernel
theorem dX5_areOpposite_20 : decode cX5_areOpposite 20 = .ok (.lcmp, 1) := by decide +kernel
theorem dX5_areOpposite_21 : decode cX5_areOpposite 21 = .ok (.ifCond .le 7, 3) := by decide +kernel
theorem dX5_areOpposite_24 : decode cX5_areOpposite 24 = .ok (.iconst 1, 1) := by decide +kernel
theorem dX5_areOpposite_25 : decode cX5_areOpposite 25 = .ok (.goto 4, 3) := by decide +kernel
theorem dX5_areOpposite_28 : decode cX5_areOpposite 28 = .ok (.iconst 0, 1) := by decide +kernel
theorem dX5_areOpposite_29 : decode cX5_areOpposite 29 = .ok (.ireturn, 1) := by decide +kernel
theorem dX5_rest_0 : decode cX5_rest 0 = .ok (.iload_n 1, 1) := by decide +kernel
theorem dX5_rest_1 : decode cX5_rest 1 = .ok (.iconst 1, 1) := by decide +kernel
theorem dX5_rest_2 : decode cX5_rest 2 = .ok (.if_icmp .ge 7, 3) := by decide +kernel
theorem dX5_rest_5 : decode cX5_rest 5 = .ok (.iconst 0, 1) := by decide +kernel
theorem dX5_rest_6 : decode cX5_rest 6 = .ok (.goto 6, 3) := by decide +kernel
theorem dX5_rest_9 : decode cX5_rest 9 = .ok (.iload_n 0, 1) := by decide +kernel
theorem dX5_rest_10 : decode cX5_rest 10 = .ok (.iload_n 1, 1) := by decide +kernel
theorem dX5_rest_11 : decode cX5_rest 11 = .ok (.irem, 1) := by decide +kernel
theorem dX5_rest_12 : decode cX5_rest 12 = .ok (.ireturn, 1) := by decide +kernel
theorem dX5_lowest_0 : decode cX5_lowest 0 = .ok (.lload_n 0, 1) := by decide +kernel
theorem dX5_lowest_1 : decode cX5_lowest 1 = .ok (.lload_n 2, 1) := by decide +kernel
theorem dX5_lowest_2 : decode cX5_lowest 2 = .ok (.invokestatic 337, 3) := by decide +kernel
theorem dX5_lowest_5 : decode cX5_lowest 5 = .ok (.lstore 5, 2) := by decide +kernel
theorem dX5_lowest_7 : decode cX5_lowest 7 = .ok (.iload 4, 2) := by decide +kernel
theorem dX5_lowest_9 : decode cX5_lowest 9 = .ok (.ifCond .ne 7, 3) := by decide +kernel
theorem dX5_lowest_12 : decode cX5_lowest 12 = .ok (.lload_n 0, 1) := by decide +kernel
theorem dX5_lowest_13 : decode cX5_lowest 13 = .ok (.goto 4, 3) := by decide +kernel
theorem dX5_lowest_16 : decode cX5_lowest 16 = .ok (.lload_n 2, 1) := by decide +kernel
theorem dX5_lowest_17 : decode cX5_lowest 17 = .ok (.lstore 7, 2) := by decide +kernel
theorem dX5_lowest_19 : decode cX5_lowest 19 = .ok (.lload 5, 2) := by decide +kernel
theorem dX5_lowest_21 : decode cX5_lowest 21 = .ok (.lconst 0, 1) := by decide +kernel
theorem dX5_lowest_22 : decode cX5_lowest 22 = .ok (.lcmp, 1) := by decide +kernel
theorem dX5_lowest_23 : decode cX5_lowest 23 = .ok (.ifCond .ne 8, 3) := by decide +kernel
theorem dX5_lowest_26 : decode cX5_lowest 26 = .ok (.lload 7, 2) := by decide +kernel
theorem dX5_lowest_28 : decode cX5_lowest 28 = .ok (.goto 8, 3) := by decide +kernel
theorem dX5_lowest_31 : decode cX5_lowest 31 = .ok (.lload 7, 2) := by decide +kernel
theorem dX5_lowest_33 : decode cX5_lowest 33 = .ok (.lload 5, 2) := by decide +kernel
theorem dX5_lowest_35 : decode cX5_lowest 35 = .ok (.ldiv, 1) := by decide +kernel
theorem dX5_lowest_36 : decode cX5_lowest 36 = .ok (.lreturn, 1) := by decide +kernel
theorem dX5_commonDivisor_0 : decode cX5_commonDivisor 0 = .ok (.lload_n 0, 1) := by decide +kernel
theorem dX5_commonDivisor_1 : decode cX5_commonDivisor 1 = .ok (.lstore 4, 2) := by decide +kernel
theorem dX5_commonDivisor_3 : decode cX5_commonDivisor 3 = .ok (.lload_n 2, 1) := by decide +kernel
theorem dX5_commonDivisor_4 : decode cX5_commonDivisor 4 = .ok (.lstore 6, 2) := by decide +kernel
theorem dX5_commonDivisor_6 : decode cX5_commonDivisor 6 = .ok (.iconst 0, 1) := by decide +kernel
theorem dX5_commonDivisor_7 : decode cX5_commonDivisor 7 = .ok (.istore 8, 2) := by decide +kernel
theorem dX5_commonDivisor_9 : decode cX5_commonDivisor 9 = .ok (.iload 8, 2) := by decide +kernel
theorem dX5_commonDivisor_11 : decode cX5_commonDivisor 11 = .ok (.sipush 200, 3) := by decide +kernel
theorem dX5_commonDivisor_14 : decode cX5_commonDivisor 14 = .ok (.if_icmp .ge 31, 3) := by decide +kernel
theorem dX5_commonDivisor_17 : decode cX5_commonDivisor 17 = .ok (.lload 6, 2) := by decide +kernel
theorem dX5_commonDivisor_19 : decode cX5_commonDivisor 19 = .ok (.lconst 0, 1) := by decide +kernel
theorem dX5_commonDivisor_20 : decode cX5_commonDivisor 20 = .ok (.lcmp, 1) := by decide +kernel
theorem dX5_commonDivisor_21 : decode cX5_commonDivisor 21 = .ok (.ifCond .eq 24, 3) := by decide +kernel
theorem dX5_commonDivisor_24 : decode cX5_commonDivisor 24 = .ok (.lload 4, 2) := by decide +kernel
theorem dX5_commonDivisor_26 : decode cX5_commonDivisor 26 = .ok (.lload 6, 2) := by decide +kernel
theorem dX5_commonDivisor_28 : decode cX5_commonDivisor 28 = .ok (.lrem, 1) := by decide +kernel
theorem dX5_commonDivisor_29 : decode cX5_commonDivisor 29 = .ok (.lstore 9, 2) := by decide +kernel
theorem dX5_commonDivisor_31 : decode cX5_commonDivisor 31 = .ok (.lload 6, 2) := by decide +kernel
theorem dX5_commonDivisor_33 : decode cX5_commonDivisor 33 = .ok (.lstore 4, 2) := by decide +kernel
theorem dX5_commonDivisor_35 : decode cX5_commonDivisor 35 = .ok (.lload 9, 2) := by decide +kernel
theorem dX5_commonDivisor_37 : decode cX5_commonDivisor 37 = .ok (.lstore 6, 2) := by decide +kernel
theorem dX5_commonDivisor_39 : decode cX5_commonDivisor 39 = .ok (.iinc 8 1, 3) := by decide +kernel
theorem dX5_commonDivisor_42 : decode cX5_commonDivisor 42 = .ok (.goto (-33), 3) := by decide +kernel
theorem dX5_commonDivisor_45 : decode cX5_commonDivisor 45 = .ok (.lload 4, 2) := by decide +kernel
theorem dX5_commonDivisor_47 : decode cX5_commonDivisor 47 = .ok (.lreturn, 1) := by decide +kernel
theorem dX6_in_0 : decode cX6_in 0 = .ok (.lload_n 0, 1) := by decide +kernel
theorem dX6_in_1 : decode cX6_in 1 = .ok (.lload_n 2, 1) := by decide +kernel
theorem dX6_in_2 : decode cX6_in 2 = .ok (.lcmp, 1) := by decide +kernel
theorem dX6_in_3 : decode cX6_in 3 = .ok (.ifCond .lt 14, 3) := by decide +kernel
theorem dX6_in_6 : decode cX6_in 6 = .ok (.lload_n 0, 1) := by decide +kernel
theorem dX6_in_7 : decode cX6_in 7 = .ok (.lload 4, 2) := by decide +kernel
theorem dX6_in_9 : decode cX6_in 9 = .ok (.lcmp, 1) := by decide +kernel
theorem dX6_in_10 : decode cX6_in 10 = .ok (.ifCond .gt 7, 3) := by decide +kernel
theorem dX6_in_13 : decode cX6_in 13 = .ok (.iconst 1, 1) := by decide +kernel
theorem dX6_in_14 : decode cX6_in 14 = .ok (.goto 4, 3) := by decide +kernel
theorem dX6_in_17 : decode cX6_in 17 = .ok (.iconst 0, 1) := by decide +kernel
theorem dX6_in_18 : decode cX6_in 18 = .ok (.ireturn, 1) := by decide +kernel
theorem dX6_within_0 : decode cX6_within 0 = .ok (.iload_n 0, 1) := by decide +kernel
theorem dX6_within_1 : decode cX6_within 1 = .ok (.iload_n 1, 1) := by decide +kernel
theorem dX6_within_2 : decode cX6_within 2 = .ok (.if_icmp .ge 7, 3) := by decide +kernel
theorem dX6_within_5 : decode cX6_within 5 = .ok (.iload_n 1, 1) := by decide +kernel
theorem dX6_within_6 : decode cX6_within 6 = .ok (.goto 13, 3) := by decide +kernel
theorem dX6_within_9 : decode cX6_within 9 = .ok (.iload_n 0, 1) := by decide +kernel
theorem dX6_within_10 : decode cX6_within 10 = .ok (.iload_n 2, 1) := by decide +kernel
theorem dX6_within_11 : decode cX6_within 11 = .ok (.if_icmp .le 7, 3) := by decide +kernel
theorem dX6_within_14 : decode cX6_within 14 = .ok (.iload_n 2, 1) := by decide +kernel
theorem dX6_within_15 : decode cX6_within 15 = .ok (.goto 4, 3) := by decide +kernel
theorem dX6_within_18 : decode cX6_within 18 = .ok (.iload_n 0, 1) := by decide +kernel
theorem dX6_within_19 : decode cX6_within 19 = .ok (.ireturn, 1) := by decide +kernel
theorem dX6_plain_0 : decode cX6_plain 0 = .ok (.lload_n 0, 1) := by decide +kernel
theorem dX6_plain_1 : decode cX6_plain 1 = .ok (.lconst 0, 1) := by decide +kernel
theorem dX6_plain_2 : decode cX6_plain 2 = .ok (.lcmp, 1) := by decide +kernel
theorem dX6_plain_3 : decode cX6_plain 3 = .ok (.ifCond .ge 8, 3) := by decide +kernel
theorem dX6_plain_6 : decode cX6_plain 6 = .ok (.lload_n 0, 1) := by decide +kernel
theorem dX6_plain_7 : decode cX6_plain 7 = .ok (.lneg, 1) := by decide +kernel
theorem dX6_plain_8 : decode cX6_plain 8 = .ok (.goto 4, 3) := by decide +kernel
theorem dX6_plain_11 : decode cX6_plain 11 = .ok (.lload_n 0, 1) := by decide +kernel
theorem dX6_plain_12 : decode cX6_plain 12 = .ok (.lreturn, 1) := by decide +kernel
theorem dX6_init_0 : decode cX6_init 0 = .ok (.aload_n 0, 1) := by decide +kernel
theorem dX6_init_1 : decode cX6_init 1 = .ok (.invokespecial 7, 3) := by decide +kernel
theorem dX6_init_4 : decode cX6_init 4 = .ok (.aload_n 0, 1) := by decide +kernel
theorem dX6_init_5 : decode cX6_init 5 = .ok (.sipush 960, 3) := by decide +kernel
theorem dX6_init_8 : decode cX6_init 8 = .ok (.newarray .int, 2) := by decide +kernel
theorem dX6_init_10 : decode cX6_init 10 = .ok (.putfield 13, 3) := by decide +kernel
theorem dX6_init_13 : decode cX6_init 13 = .ok (.aload_n 0, 1) := by decide +kernel
theorem dX6_init_14 : decode cX6_init 14 = .ok (.bipush 6, 2) := by decide +kernel
theorem dX6_init_16 : decode cX6_init 16 = .ok (.newarray .int, 2) := by decide +kernel
theorem dX6_init_18 : decode cX6_init 18 = .ok (.putfield 17, 3) := by decide +kernel
theorem dX6_init_21 : decode cX6_init 21 = .ok (.aload_n 0, 1) := by decide +kernel
theorem dX6_init_22 : decode cX6_init 22 = .ok (.sipush 160, 3) := by decide +kernel
theorem dX6_init_25 : decode cX6_init 25 = .ok (.newarray .int, 2) := by decide +kernel
theorem dX6_init_27 : decode cX6_init 27 = .ok (.putfield 20, 3) := by decide +kernel
theorem dX6_init_30 : decode cX6_init 30 = .ok (.aload_n 0, 1) := by decide +kernel
theorem dX6_init_31 : decode cX6_init 31 = .ok (.sipush 600, 3) := by decide +kernel
theorem dX6_init_34 : decode cX6_init 34 = .ok (.putfield 23, 3) := by decide +kernel
theorem dX6_init_37 : decode cX6_init 37 = .ok (.aload_n 0, 1) := by decide +kernel
theorem dX6_init_38 : decode cX6_init 38 = .ok (.bipush 6, 2) := by decide +kernel
theorem dX6_init_40 : decode cX6_init 40 = .ok (.newarray .int, 2) := by decide +kernel
theorem dX6_init_42 : decode cX6_init 42 = .ok (.putfield 26, 3) := by decide +kernel
theorem dX6_init_45 : decode cX6_init 45 = .ok (.aload_n 0, 1) := by decide +kernel
theorem dX6_init_46 : decode cX6_init 46 = .ok (.bipush 6, 2) := by decide +kernel
theorem dX6_init_48 : decode cX6_init 48 = .ok (.newarray .int, 2) := by decide +kernel
theorem dX6_init_50 : decode cX6_init 50 = .ok (.putfield 29, 3) := by decide +kernel
theorem dX6_init_53 : decode cX6_init 53 = .ok (.aload_n 0, 1) := by decide +kernel
theorem dX6_init_54 : decode cX6_init 54 = .ok (.bipush 56, 2) := by decide +kernel
theorem dX6_init_56 : decode cX6_init 56 = .ok (.newarray .int, 2) := by decide +kernel
theorem dX6_init_58 : decode cX6_init 58 = .ok (.putfield 32, 3) := by decide +kernel
theorem dX6_init_61 : decode cX6_init 61 = .ok (.aload_n 0, 1) := by decide +kernel
theorem dX6_init_62 : decode cX6_init 62 = .ok (.bipush 56, 2) := by decide +kernel
theorem dX6_init_64 : decode cX6_init 64 = .ok (.newarray .int, 2) := by decide +kernel
theorem dX6_init_66 : decode cX6_init 66 = .ok (.putfield 35, 3) := by decide +kernel
theorem dX6_init_69 : decode cX6_init 69 = .ok (.aload_n 0, 1) := by decide +kernel
theorem dX6_init_70 : decode cX6_init 70 = .ok (.bipush 7, 2) := by decide +kernel
theorem dX6_init_72 : decode cX6_init 72 = .ok (.newarray .int, 2) := by decide +kernel
theorem dX6_init_74 : decode cX6_init 74 = .ok (.putfield 38, 3) := by decide +kernel
theorem dX6_init_77 : decode cX6_init 77 = .ok (.aload_n 0, 1) := by decide +kernel
theorem dX6_init_78 : decode cX6_init 78 = .ok (.sipush 601, 3) := by decide +kernel
theorem dX6_init_81 : decode cX6_init 81 = .ok (.newarray .long, 2) := by decide +kernel
theorem dX6_init_83 : decode cX6_init 83 = .ok (.putfield 41, 3) := by decide +kernel
theorem dX6_init_86 : decode cX6_init 86 = .ok (.aload_n 0, 1) := by decide +kernel
theorem dX6_init_87 : decode cX6_init 87 = .ok (.sipush 601, 3) := by decide +kernel
theorem dX6_init_90 : decode cX6_init 90 = .ok (.newarray .int, 2) := by decide +kernel
theorem dX6_init_92 : decode cX6_init 92 = .ok (.putfield 45, 3) := by decide +kernel
theorem dX6_init_95 : decode cX6_init 95 = .ok (.aload_n 0, 1) := by decide +kernel
theorem dX6_init_96 : decode cX6_init 96 = .ok (.sipush 601, 3) := by decide +kernel
theorem dX6_init_99 : decode cX6_init 99 = .ok (.newarray .int, 2) := by decide +kernel
theorem dX6_init_101 : decode cX6_init 101 = .ok (.putfield 48, 3) := by decide +kernel
theorem dX6_init_104 : decode cX6_init 104 = .ok (.aload_n 0, 1) := by decide +kernel
theorem dX6_init_105 : decode cX6_init 105 = .ok (.bipush 66, 2) := by decide +kernel
theorem dX6_init_107 : decode cX6_init 107 = .ok (.newarray .int, 2) := by decide +kernel
theorem dX6_init_109 : decode cX6_init 109 = .ok (.putfield 51, 3) := by decide +kernel
theorem dX6_init_112 : decode cX6_init 112 = .ok (.aload_n 0, 1) := by decide +kernel
theorem dX6_init_113 : decode cX6_init 113 = .ok (.bipush 6, 2) := by decide +kernel
theorem dX6_init_115 : decode cX6_init 115 = .ok (.newarray .int, 2) := by decide +kernel
theorem dX6_init_117 : decode cX6_init 117 = .ok (.putfield 54, 3) := by decide +kernel
theorem dX6_init_120 : decode cX6_init 120 = .ok (.aload_n 0, 1) := by decide +kernel
theorem dX6_init_121 : decode cX6_init 121 = .ok (.bipush 48, 2) := by decide +kernel
theorem dX6_init_123 : decode cX6_init 123 = .ok (.newarray .int, 2) := by decide +kernel
theorem dX6_init_125 : decode cX6_init 125 = .ok (.putfield 57, 3) := by decide +kernel
theorem dX6_init_128 : decode cX6_init 128 = .ok (.aload_n 0, 1) := by decide +kernel
theorem dX6_init_129 : decode cX6_init 129 = .ok (.bipush 48, 2) := by decide +kernel
theorem dX6_init_131 : decode cX6_init 131 = .ok (.newarray .int, 2) := by decide +kernel
theorem dX6_init_133 : decode cX6_init 133 = .ok (.putfield 60, 3) := by decide +kernel
theorem dX6_init_136 : decode cX6_init 136 = .ok (.aload_n 0, 1) := by decide +kernel
theorem dX6_init_137 : decode cX6_init 137 = .ok (.bipush 6, 2) := by decide +kernel
theorem dX6_init_139 : decode cX6_init 139 = .ok (.newarray .int, 2) := by decide +kernel
theorem dX6_init_141 : decode cX6_init 141 = .ok (.putfield 63, 3) := by decide +kernel
theorem dX6_init_144 : decode cX6_init 144 = .ok (.aload_n 0, 1) := by decide +kernel
