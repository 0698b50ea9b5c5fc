theorem dX0_init_0 : decode cX0_init 0 = .ok (.aload_n 0, 1) := by decide +kernel
theorem dX0_init_1 : decode cX0_init 1 = .ok (.invokespecial 3, 3) := by decide +kernel
theorem dX0_init_4 : decode cX0_init 4 = .ok (.aload_n 0, 1) := by decide +kernel
theorem dX0_init_5 : decode cX0_init 5 = .ok (.sipush 600, 3) := by decide +kernel
theorem dX0_init_8 : decode cX0_init 8 = .ok (.putfield 9, 3) := by decide +kernel
theorem dX0_init_11 : decode cX0_init 11 = .ok (.aload_n 0, 1) := by decide +kernel
theorem dX0_init_12 : decode cX0_init 12 = .ok (.bipush 6, 2) := by decide +kernel
theorem dX0_init_14 : decode cX0_init 14 = .ok (.anewarray 15, 3) := by decide +kernel
theorem dX0_init_17 : decode cX0_init 17 = .ok (.putfield 17, 3) := by decide +kernel
theorem dX0_init_20 : decode cX0_init 20 = .ok (.iconst 0, 1) := by decide +kernel
theorem dX0_init_21 : decode cX0_init 21 = .ok (.istore_n 1, 1) := by decide +kernel
theorem dX0_init_22 : decode cX0_init 22 = .ok (.iload_n 1, 1) := by decide +kernel
theorem dX0_init_23 : decode cX0_init 23 = .ok (.bipush 6, 2) := by decide +kernel
theorem dX0_init_25 : decode cX0_init 25 = .ok (.if_icmp .ge 22, 3) := by decide +kernel
theorem dX0_init_28 : decode cX0_init 28 = .ok (.aload_n 0, 1) := by decide +kernel
theorem dX0_init_29 : decode cX0_init 29 = .ok (.getfield 17, 3) := by decide +kernel
theorem dX0_init_32 : decode cX0_init 32 = .ok (.iload_n 1, 1) := by decide +kernel
theorem dX0_init_33 : decode cX0_init 33 = .ok (.new 15, 3) := by decide +kernel
theorem dX0_init_36 : decode cX0_init 36 = .ok (.dup, 1) := by decide +kernel
theorem dX0_init_37 : decode cX0_init 37 = .ok (.invokespecial 21, 3) := by decide +kernel
theorem dX0_init_40 : decode cX0_init 40 = .ok (.aastore, 1) := by decide +kernel
theorem dX0_init_41 : decode cX0_init 41 = .ok (.iinc 1 1, 3) := by decide +kernel
theorem dX0_init_44 : decode cX0_init 44 = .ok (.goto (-22), 3) := by decide +kernel
theorem dX0_init_47 : decode cX0_init 47 = .ok (.return_, 1) := by decide +kernel
theorem dX0_has_0 : decode cX0_has 0 = .ok (.iload_n 1, 1) := by decide +kernel
theorem dX0_has_1 : decode cX0_has 1 = .ok (.ifCond .lt 15, 3) := by decide +kernel
theorem dX0_has_4 : decode cX0_has 4 = .ok (.iload_n 1, 1) := by decide +kernel
theorem dX0_has_5 : decode cX0_has 5 = .ok (.aload_n 0, 1) := by decide +kernel
theorem dX0_has_6 : decode cX0_has 6 = .ok (.getfield 22, 3) := by decide +kernel
theorem dX0_has_9 : decode cX0_has 9 = .ok (.if_icmp .ge 7, 3) := by decide +kernel
theorem dX0_has_12 : decode cX0_has 12 = .ok (.iconst 1, 1) := by decide +kernel
theorem dX0_has_13 : decode cX0_has 13 = .ok (.goto 4, 3) := by decide +kernel
theorem dX0_has_16 : decode cX0_has 16 = .ok (.iconst 0, 1) := by decide +kernel
theorem dX0_has_17 : decode cX0_has 17 = .ok (.ireturn, 1) := by decide +kernel
theorem dX0_become_0 : decode cX0_become 0 = .ok (.aload_n 0, 1) := by decide +kernel
theorem dX0_become_1 : decode cX0_become 1 = .ok (.aload_n 1, 1) := by decide +kernel
theorem dX0_become_2 : decode cX0_become 2 = .ok (.getfield 9, 3) := by decide +kernel
theorem dX0_become_5 : decode cX0_become 5 = .ok (.putfield 9, 3) := by decide +kernel
theorem dX0_become_8 : decode cX0_become 8 = .ok (.aload_n 0, 1) := by decide +kernel
theorem dX0_become_9 : decode cX0_become 9 = .ok (.aload_n 1, 1) := by decide +kernel
theorem dX0_become_10 : decode cX0_become 10 = .ok (.getfield 22, 3) := by decide +kernel
theorem dX0_become_13 : decode cX0_become 13 = .ok (.putfield 22, 3) := by decide +kernel
theorem dX0_become_16 : decode cX0_become 16 = .ok (.aload_n 0, 1) := by decide +kernel
theorem dX0_become_17 : decode cX0_become 17 = .ok (.aload_n 1, 1) := by decide +kernel
theorem dX0_become_18 : decode cX0_become 18 = .ok (.getfield 25, 3) := by decide +kernel
theorem dX0_become_21 : decode cX0_become 21 = .ok (.putfield 25, 3) := by decide +kernel
theorem dX0_become_24 : decode cX0_become 24 = .ok (.iconst 0, 1) := by decide +kernel
theorem dX0_become_25 : decode cX0_become 25 = .ok (.istore_n 2, 1) := by decide +kernel
theorem dX0_become_26 : decode cX0_become 26 = .ok (.iload_n 2, 1) := by decide +kernel
theorem dX0_become_27 : decode cX0_become 27 = .ok (.aload_n 0, 1) := by decide +kernel
theorem dX0_become_28 : decode cX0_become 28 = .ok (.getfield 22, 3) := by decide +kernel
theorem dX0_become_31 : decode cX0_become 31 = .ok (.if_icmp .ge 24, 3) := by decide +kernel
theorem dX0_become_34 : decode cX0_become 34 = .ok (.aload_n 0, 1) := by decide +kernel
theorem dX0_become_35 : decode cX0_become 35 = .ok (.getfield 17, 3) := by decide +kernel
theorem dX0_become_38 : decode cX0_become 38 = .ok (.iload_n 2, 1) := by decide +kernel
theorem dX0_become_39 : decode cX0_become 39 = .ok (.aaload, 1) := by decide +kernel
theorem dX0_become_40 : decode cX0_become 40 = .ok (.aload_n 1, 1) := by decide +kernel
theorem dX0_become_41 : decode cX0_become 41 = .ok (.getfield 17, 3) := by decide +kernel
theorem dX0_become_44 : decode cX0_become 44 = .ok (.iload_n 2, 1) := by decide +kernel
theorem dX0_become_45 : decode cX0_become 45 = .ok (.aaload, 1) := by decide +kernel
theorem dX0_become_46 : decode cX0_become 46 = .ok (.invokevirtual 28, 3) := by decide +kernel
theorem dX0_become_49 : decode cX0_become 49 = .ok (.iinc 2 1, 3) := by decide +kernel
theorem dX0_become_52 : decode cX0_become 52 = .ok (.goto (-26), 3) := by decide +kernel
theorem dX0_become_55 : decode cX0_become 55 = .ok (.return_, 1) := by decide +kernel
theorem dX0_allPoints_0 : decode cX0_allPoints 0 = .ok (.iconst 0, 1) := by decide +kernel
theorem dX0_allPoints_1 : decode cX0_allPoints 1 = .ok (.istore_n 1, 1) := by decide +kernel
theorem dX0_allPoints_2 : decode cX0_allPoints 2 = .ok (.iconst 0, 1) := by decide +kernel
theorem dX0_allPoints_3 : decode cX0_allPoints 3 = .ok (.istore_n 2, 1) := by decide +kernel
theorem dX0_allPoints_4 : decode cX0_allPoints 4 = .ok (.iload_n 2, 1) := by decide +kernel
theorem dX0_allPoints_5 : decode cX0_allPoints 5 = .ok (.aload_n 0, 1) := by decide +kernel
theorem dX0_allPoints_6 : decode cX0_allPoints 6 = .ok (.getfield 22, 3) := by decide +kernel
theorem dX0_allPoints_9 : decode cX0_allPoints 9 = .ok (.if_icmp .ge 21, 3) := by decide +kernel
theorem dX0_allPoints_12 : decode cX0_allPoints 12 = .ok (.iload_n 1, 1) := by decide +kernel
theorem dX0_allPoints_13 : decode cX0_allPoints 13 = .ok (.aload_n 0, 1) := by decide +kernel
theorem dX0_allPoints_14 : decode cX0_allPoints 14 = .ok (.getfield 17, 3) := by decide +kernel
theorem dX0_allPoints_17 : decode cX0_allPoints 17 = .ok (.iload_n 2, 1) := by decide +kernel
theorem dX0_allPoints_18 : decode cX0_allPoints 18 = .ok (.aaload, 1) := by decide +kernel
theorem dX0_allPoints_19 : decode cX0_allPoints 19 = .ok (.getfield 32, 3) := by decide +kernel
theorem dX0_allPoints_22 : decode cX0_allPoints 22 = .ok (.iadd, 1) := by decide +kernel
theorem dX0_allPoints_23 : decode cX0_allPoints 23 = .ok (.istore_n 1, 1) := by decide +kernel
theorem dX0_allPoints_24 : decode cX0_allPoints 24 = .ok (.iinc 2 1, 3) := by decide +kernel
theorem dX0_allPoints_27 : decode cX0_allPoints 27 = .ok (.goto (-23), 3) := by decide +kernel
theorem dX0_allPoints_30 : decode cX0_allPoints 30 = .ok (.iload_n 1, 1) := by decide +kernel
theorem dX0_allPoints_31 : decode cX0_allPoints 31 = .ok (.ireturn, 1) := by decide +kernel
theorem dX0_farthestPlace_0 : decode cX0_farthestPlace 0 = .ok (.iconst 0, 1) := by decide +kernel
theorem dX0_farthestPlace_1 : decode cX0_farthestPlace 1 = .ok (.istore_n 1, 1) := by decide +kernel
theorem dX0_farthestPlace_2 : decode cX0_farthestPlace 2 = .ok (.iconst 0, 1) := by decide +kernel
theorem dX0_farthestPlace_3 : decode cX0_farthestPlace 3 = .ok (.istore_n 2, 1) := by decide +kernel
theorem dX0_farthestPlace_4 : decode cX0_farthestPlace 4 = .ok (.iload_n 2, 1) := by decide +kernel
theorem dX0_farthestPlace_5 : decode cX0_farthestPlace 5 = .ok (.aload_n 0, 1) := by decide +kernel
theorem dX0_farthestPlace_6 : decode cX0_farthestPlace 6 = .ok (.getfield 22, 3) := by decide +kernel
theorem dX0_farthestPlace_9 : decode cX0_farthestPlace 9 = .ok (.if_icmp .ge 23, 3) := by decide +kernel
theorem dX0_farthestPlace_12 : decode cX0_farthestPlace 12 = .ok (.iload_n 1, 1) := by decide +kernel
theorem dX0_farthestPlace_13 : decode cX0_farthestPlace 13 = .ok (.aload_n 0, 1) := by decide +kernel
theorem dX0_farthestPlace_14 : decode cX0_farthestPlace 14 = .ok (.getfield 17, 3) := by decide +kernel
theorem dX0_farthestPlace_17 : decode cX0_farthestPlace 17 = .ok (.iload_n 2, 1) := by decide +kernel
theorem dX0_farthestPlace_18 : decode cX0_farthestPlace 18 = .ok (.aaload, 1) := by decide +kernel
theorem dX0_farthestPlace_19 : decode cX0_farthestPlace 19 = .ok (.invokevirtual 33, 3) := by decide +kernel
theorem dX0_farthestPlace_22 : decode cX0_farthestPlace 22 = .ok (.invokestatic 37, 3) := by decide +kernel
theorem dX0_farthestPlace_25 : decode cX0_farthestPlace 25 = .ok (.istore_n 1, 1) := by decide +kernel
theorem dX0_farthestPlace_26 : decode cX0_farthestPlace 26 = .ok (.iinc 2 1, 3) := by decide +kernel
theorem dX0_farthestPlace_29 : decode cX0_farthestPlace 29 = .ok (.goto (-25), 3) := by decide +kernel
theorem dX0_farthestPlace_32 : decode cX0_farthestPlace 32 = .ok (.iload_n 1, 1) := by decide +kernel
theorem dX0_farthestPlace_33 : decode cX0_farthestPlace 33 = .ok (.ireturn, 1) := by decide +kernel
theorem dX1_init_0 : decode cX1_init 0 = .ok (.aload_n 0, 1) := by decide +kernel
theorem dX1_init_1 : decode cX1_init 1 = .ok (.invokespecial 3, 3) := by decide +kernel
theorem dX1_init_4 : decode cX1_init 4 = .ok (.aload_n 0, 1) := by decide +kernel
theorem dX1_init_5 : decode cX1_init 5 = .ok (.iconst (-1), 1) := by decide +kernel
theorem dX1_init_6 : decode cX1_init 6 = .ok (.putfield 9, 3) := by decide +kernel
theorem dX1_init_9 : decode cX1_init 9 = .ok (.aload_n 0, 1) := by decide +kernel
theorem dX1_init_10 : decode cX1_init 10 = .ok (.bipush 40, 2) := by decide +kernel
theorem dX1_init_12 : decode cX1_init 12 = .ok (.newarray .int, 2) := by decide +kernel
theorem dX1_init_14 : decode cX1_init 14 = .ok (.putfield 15, 3) := by decide +kernel
theorem dX1_init_17 : decode cX1_init 17 = .ok (.return_, 1) := by decide +kernel
theorem dX1_begin_0 : decode cX1_begin 0 = .ok (.aload_n 0, 1) := by decide +kernel
theorem dX1_begin_1 : decode cX1_begin 1 = .ok (.iload_n 1, 1) := by decide +kernel
theorem dX1_begin_2 : decode cX1_begin 2 = .ok (.putfield 9, 3) := by decide +kernel
theorem dX1_begin_5 : decode cX1_begin 5 = .ok (.aload_n 0, 1) := by decide +kernel
theorem dX1_begin_6 : decode cX1_begin 6 = .ok (.iload_n 2, 1) := by decide +kernel
theorem dX1_begin_7 : decode cX1_begin 7 = .ok (.bipush 40, 2) := by decide +kernel
theorem dX1_begin_9 : decode cX1_begin 9 = .ok (.invokestatic 19, 3) := by decide +kernel
theorem dX1_begin_12 : decode cX1_begin 12 = .ok (.putfield 25, 3) := by decide +kernel
theorem dX1_begin_15 : decode cX1_begin 15 = .ok (.iconst 0, 1) := by decide +kernel
theorem dX1_begin_16 : decode cX1_begin 16 = .ok (.istore_n 3, 1) := by decide +kernel
theorem dX1_begin_17 : decode cX1_begin 17 = .ok (.iload_n 3, 1) := by decide +kernel
theorem dX1_begin_18 : decode cX1_begin 18 = .ok (.aload_n 0, 1) := by decide +kernel
theorem dX1_begin_19 : decode cX1_begin 19 = .ok (.getfield 25, 3) := by decide +kernel
theorem dX1_begin_22 : decode cX1_begin 22 = .ok (.if_icmp .ge 16, 3) := by decide +kernel
theorem dX1_begin_25 : decode cX1_begin 25 = .ok (.aload_n 0, 1) := by decide +kernel
theorem dX1_begin_26 : decode cX1_begin 26 = .ok (.getfield 15, 3) := by decide +kernel
theorem dX1_begin_29 : decode cX1_begin 29 = .ok (.iload_n 3, 1) := by decide +kernel
theorem dX1_begin_30 : decode cX1_begin 30 = .ok (.iconst 0, 1) := by decide +kernel
theorem dX1_begin_31 : decode cX1_begin 31 = .ok (.iastore, 1) := by decide +kernel
theorem dX1_begin_32 : decode cX1_begin 32 = .ok (.iinc 3 1, 3) := by decide +kernel
theorem dX1_begin_35 : decode cX1_begin 35 = .ok (.goto (-18), 3) := by decide +kernel
theorem dX1_begin_38 : decode cX1_begin 38 = .ok (.return_, 1) := by decide +kernel
theorem dX1_isMissing_0 : decode cX1_isMissing 0 = .ok (.aload_n 0, 1) := by decide +kernel
theorem dX1_isMissing_1 : decode cX1_isMissing 1 = .ok (.getfield 9, 3) := by decide +kernel
theorem dX1_isMissing_4 : decode cX1_isMissing 4 = .ok (.iconst (-1), 1) := by decide +kernel
theorem dX1_isMissing_5 : decode cX1_isMissing 5 = .ok (.if_icmp .ne 7, 3) := by decide +kernel
theorem dX1_isMissing_8 : decode cX1_isMissing 8 = .ok (.iconst 1, 1) := by decide +kernel
theorem dX1_isMissing_9 : decode cX1_isMissing 9 = .ok (.goto 4, 3) := by decide +kernel
theorem dX1_isMissing_12 : decode cX1_isMissing 12 = .ok (.iconst 0, 1) := by decide +kernel
theorem dX1_isMissing_13 : decode cX1_isMissing 13 = .ok (.ireturn, 1) := by decide +kernel
theorem dX1_holds_0 : decode cX1_holds 0 = .ok (.iload_n 1, 1) := by decide +kernel
theorem dX1_holds_1 : decode cX1_holds 1 = .ok (.ifCond .lt 29, 3) := by decide +kernel
theorem dX1_holds_4 : decode cX1_holds 4 = .ok (.iload_n 2, 1) := by decide +kernel
theorem dX1_holds_5 : decode cX1_holds 5 = .ok (.ifCond .lt 25, 3) := by decide +kernel
theorem dX1_holds_8 : decode cX1_holds 8 = .ok (.iload_n 2, 1) := by decide +kernel
theorem dX1_holds_9 : decode cX1_holds 9 = .ok (.aload_n 0, 1) := by decide +kernel
theorem dX1_holds_10 : decode cX1_holds 10 = .ok (.getfield 25, 3) := by decide +kernel
theorem dX1_holds_13 : decode cX1_holds 13 = .ok (.if_icmp .gt 17, 3) := by decide +kernel
theorem dX1_holds_16 : decode cX1_holds 16 = .ok (.iload_n 1, 1) := by decide +kernel
theorem dX1_holds_17 : decode cX1_holds 17 = .ok (.aload_n 0, 1) := by decide +kernel
theorem dX1_holds_18 : decode cX1_holds 18 = .ok (.getfield 25, 3) := by decide +kernel
theorem dX1_holds_21 : decode cX1_holds 21 = .ok (.iload_n 2, 1) := by decide +kernel
theorem dX1_holds_22 : decode cX1_holds 22 = .ok (.isub, 1) := by decide +kernel
theorem dX1_holds_23 : decode cX1_holds 23 = .ok (.if_icmp .gt 7, 3) := by decide +kernel
theorem dX1_holds_26 : decode cX1_holds 26 = .ok (.iconst 1, 1) := by decide +kernel
theorem dX1_holds_27 : decode cX1_holds 27 = .ok (.goto 4, 3) := by decide +kernel
theorem dX1_holds_30 : decode cX1_holds 30 = .ok (.iconst 0, 1) := by decide +kernel
theorem dX1_holds_31 : decode cX1_holds 31 = .ok (.ireturn, 1) := by decide +kernel
theorem dX1_put_0 : decode cX1_put 0 = .ok (.aload_n 0, 1) := by decide +kernel
theorem dX1_put_1 : decode cX1_put 1 = .ok (.getfield 15, 3) := by decide +kernel
theorem dX1_put_4 : decode cX1_put 4 = .ok (.iload_n 1, 1) := by decide +kernel
theorem dX1_put_5 : decode cX1_put 5 = .ok (.aload_n 0, 1) := by decide +kernel
theorem dX1_put_6 : decode cX1_put 6 = .ok (.getfield 9, 3) := by decide +kernel
theorem dX1_put_9 : decode cX1_put 9 = .ok (.ifCond .ne 8, 3) := by decide +kernel
theorem dX1_put_12 : decode cX1_put 12 = .ok (.iload_n 2, 1) := by decide +kernel
theorem dX1_put_13 : decode cX1_put 13 = .ok (.i2b, 1) := by decide +kernel
theorem dX1_put_14 : decode cX1_put 14 = .ok (.goto 17, 3) := by decide +kernel
theorem dX1_put_17 : decode cX1_put 17 = .ok (.aload_n 0, 1) := by decide +kernel
theorem dX1_put_18 : decode cX1_put 18 = .ok (.getfield 9, 3) := by decide +kernel
theorem dX1_put_21 : decode cX1_put 21 = .ok (.iconst 1, 1) := by decide +kernel
theorem dX1_put_22 : decode cX1_put 22 = .ok (.if_icmp .ne 8, 3) := by decide +kernel
theorem dX1_put_25 : decode cX1_put 25 = .ok (.iload_n 2, 1) := by decide +kernel
theorem dX1_put_26 : decode cX1_put 26 = .ok (.i2s, 1) := by decide +kernel
theorem dX1_put_27 : decode cX1_put 27 = .ok (.goto 4, 3) := by decide +kernel
theorem dX1_put_30 : decode cX1_put 30 = .ok (.iload_n 2, 1) := by decide +kernel
theorem dX1_put_31 : decode cX1_put 31 = .ok (.iastore, 1) := by decide +kernel
theorem dX1_put_32 : decode cX1_put 32 = .ok (.return_, 1) := by decide +kernel
theorem dX1_onRing_0 : decode cX1_onRing 0 = .ok (.aload_n 0, 1) := by decide +kernel
theorem dX1_onRing_1 : decode cX1_onRing 1 = .ok (.getfield 15, 3) := by decide +kernel
theorem dX1_onRing_4 : decode cX1_onRing 4 = .ok (.iload_n 1, 1) := by decide +kernel
theorem dX1_onRing_5 : decode cX1_onRing 5 = .ok (.aload_n 0, 1) := by decide +kernel
theorem dX1_onRing_6 : decode cX1_onRing 6 = .ok (.getfield 25, 3) := by decide +kernel
theorem dX1_onRing_9 : decode cX1_onRing 9 = .ok (.invokestatic 28, 3) := by decide +kernel
theorem dX1_onRing_12 : decode cX1_onRing 12 = .ok (.iaload, 1) := by decide +kernel
theorem dX1_onRing_13 : decode cX1_onRing 13 = .ok (.ireturn, 1) := by decide +kernel
theorem dX1_filled_0 : decode cX1_filled 0 = .ok (.iconst 0, 1) := by decide +kernel
theorem dX1_filled_1 : decode cX1_filled 1 = .ok (.istore_n 3, 1) := by decide +kernel
theorem dX1_filled_2 : decode cX1_filled 2 = .ok (.iconst 0, 1) := by decide +kernel
theorem dX1_filled_3 : decode cX1_filled 3 = .ok (.istore 4, 2) := by decide +kernel
theorem dX1_filled_5 : decode cX1_filled 5 = .ok (.iload 4, 2) := by decide +kernel
theorem dX1_filled_7 : decode cX1_filled 7 = .ok (.iload_n 2, 1) := by decide +kernel
theorem dX1_filled_8 : decode cX1_filled 8 = .ok (.if_icmp .ge 23, 3) := by decide +kernel
theorem dX1_filled_11 : decode cX1_filled 11 = .ok (.aload_n 0, 1) := by decide +kernel
theorem dX1_filled_12 : decode cX1_filled 12 = .ok (.iload_n 1, 1) := by decide +kernel
theorem dX1_filled_13 : decode cX1_filled 13 = .ok (.iload 4, 2) := by decide +kernel
theorem dX1_filled_15 : decode cX1_filled 15 = .ok (.iadd, 1) := by decide +kernel
theorem dX1_filled_16 : decode cX1_filled 16 = .ok (.invokevirtual 31, 3) := by decide +kernel
theorem dX1_filled_19 : decode cX1_filled 19 = .ok (.ifCond .eq 6, 3) := by decide +kernel
theorem dX1_filled_22 : decode cX1_filled 22 = .ok (.iinc 3 1, 3) := by decide +kernel
theorem dX1_filled_25 : decode cX1_filled 25 = .ok (.iinc 4 1, 3) := by decide +kernel
theorem dX1_filled_28 : decode cX1_filled 28 = .ok (.goto (-23), 3) := by decide +kernel
theorem dX1_filled_31 : decode cX1_filled 31 = .ok (.iload_n 3, 1) := by decide +kernel
theorem dX1_filled_32 : decode cX1_filled 32 = .ok (.ireturn, 1) := by decide +kernel
theorem dX1_acrossFrom_0 : decode cX1_acrossFrom 0 = .ok (.aload_n 0, 1) := by decide +kernel
theorem dX1_acrossFrom_1 : decode cX1_acrossFrom 1 = .ok (.iload_n 1, 1) := by decide +kernel
theorem dX1_acrossFrom_2 : decode cX1_acrossFrom 2 = .ok (.invokevirtual 31, 3) := by decide +kernel
theorem dX1_acrossFrom_5 : decode cX1_acrossFrom 5 = .ok (.i2l, 1) := by decide +kernel
theorem dX1_acrossFrom_6 : decode cX1_acrossFrom 6 = .ok (.aload_n 0, 1) := by decide +kernel
theorem dX1_acrossFrom_7 : decode cX1_acrossFrom 7 = .ok (.iload_n 1, 1) := by decide +kernel
theorem dX1_acrossFrom_8 : decode cX1_acrossFrom 8 = .ok (.aload_n 0, 1) := by decide +kernel
theorem dX1_acrossFrom_9 : decode cX1_acrossFrom 9 = .ok (.getfield 25, 3) := by decide +kernel
theorem dX1_acrossFrom_12 : decode cX1_acrossFrom 12 = .ok (.iconst 2, 1) := by decide +kernel
theorem dX1_acrossFrom_13 : decode cX1_acrossFrom 13 = .ok (.idiv, 1) := by decide +kernel
theorem dX1_acrossFrom_14 : decode cX1_acrossFrom 14 = .ok (.iadd, 1) := by decide +kernel
theorem dX1_acrossFrom_15 : decode cX1_acrossFrom 15 = .ok (.invokevirtual 31, 3) := by decide +kernel
theorem dX1_acrossFrom_18 : decode cX1_acrossFrom 18 = .ok (.i2l, 1) := by decide +kernel
theorem dX1_acrossFrom_19 : decode cX1_acrossFrom 19 = .ok (.lsub, 1) := by decide +kernel
theorem dX1_acrossFrom_20 : decode cX1_acrossFrom 20 = .ok (.lreturn, 1) := by decide +kernel
theorem dX2_init_0 : decode cX2_init 0 = .ok (.aload_n 0, 1) := by decide +kernel
theorem dX2_init_1 : decode cX2_init 1 = .ok (.invokespecial 3, 3) := by decide +kernel
theorem dX2_init_4 : decode cX2_init 4 = .ok (.aload_n 0, 1) := by decide +kernel
theorem dX2_init_5 : decode cX2_init 5 = .ok (.sipush 160, 3) := by decide +kernel
theorem dX2_init_8 : decode cX2_init 8 = .ok (.newarray .int, 2) := by decide +kernel
theorem dX2_init_10 : decode cX2_init 10 = .ok (.putfield 9, 3) := by decide +kernel
theorem dX2_init_13 : decode cX2_init 13 = .ok (.return_, 1) := by decide +kernel
theorem dX2_add_0 : decode cX2_add 0 = .ok (.aload_n 0, 1) := by decide +kernel
theorem dX2_add_1 : decode cX2_add 1 = .ok (.getfield 15, 3) := by decide +kernel
theorem dX2_add_4 : decode cX2_add 4 = .ok (.sipush 160, 3) := by decide +kernel
theorem dX2_add_7 : decode cX2_add 7 = .ok (.if_icmp .ge 23, 3) := by decide +kernel
theorem dX2_add_10 : decode cX2_add 10 = .ok (.aload_n 0, 1) := by decide +kernel
theorem dX2_add_11 : decode cX2_add 11 = .ok (.getfield 9, 3) := by decide +kernel
theorem dX2_add_14 : decode cX2_add 14 = .ok (.aload_n 0, 1) := by decide +kernel
theorem dX2_add_15 : decode cX2_add 15 = .ok (.getfield 15, 3) := by decide +kernel
theorem dX2_add_18 : decode cX2_add 18 = .ok (.iload_n 1, 1) := by decide +kernel
theorem dX2_add_19 : decode cX2_add 19 = .ok (.iastore, 1) := by decide +kernel
theorem dX2_add_20 : decode cX2_add 20 = .ok (.aload_n 0, 1) := by decide +kernel
theorem dX2_add_21 : decode cX2_add 21 = .ok (.dup, 1) := by decide +kernel
theorem dX2_add_22 : decode cX2_add 22 = .ok (.getfield 15, 3) := by decide +kernel
theorem dX2_add_25 : decode cX2_add 25 = .ok (.iconst 1, 1) := by decide +kernel
theorem dX2_add_26 : decode cX2_add 26 = .ok (.iadd, 1) := by decide +kernel
theorem dX2_add_27 : decode cX2_add 27 = .ok (.putfield 15, 3) := by decide +kernel
theorem dX2_add_30 : decode cX2_add 30 = .ok (.return_, 1) := by decide +kernel
theorem dX2_readInto_0 : decode cX2_readInto 0 = .ok (.aload_n 0, 1) := by decide +kernel
theorem dX2_readInto_1 : decode cX2_readInto 1 = .ok (.iconst 0, 1) := by decide +kernel
theorem dX2_readInto_2 : decode cX2_readInto 2 = .ok (.putfield 19, 3) := by decide +kernel
theorem dX2_readInto_5 : decode cX2_readInto 5 = .ok (.aload_n 0, 1) := by decide +kernel
theorem dX2_readInto_6 : decode cX2_readInto 6 = .ok (.iconst (-1), 1) := by decide +kernel
theorem dX2_readInto_7 : decode cX2_readInto 7 = .ok (.putfield 22, 3) := by decide +kernel
theorem dX2_readInto_10 : decode cX2_readInto 10 = .ok (.aload_n 0, 1) := by decide +kernel
theorem dX2_readInto_11 : decode cX2_readInto 11 = .ok (.aload_n 1, 1) := by decide +kernel
theorem dX2_readInto_12 : decode cX2_readInto 12 = .ok (.putfield 25, 3) := by decide +kernel
theorem dX2_readInto_15 : decode cX2_readInto 15 = .ok (.aload_n 1, 1) := by decide +kernel
theorem dX2_readInto_16 : decode cX2_readInto 16 = .ok (.invokevirtual 29, 3) := by decide +kernel
theorem dX2_readInto_19 : decode cX2_readInto 19 = .ok (.aload_n 0, 1) := by decide +kernel
theorem dX2_readInto_20 : decode cX2_readInto 20 = .ok (.invokevirtual 34, 3) := by decide +kernel
theorem dX2_readInto_23 : decode cX2_readInto 23 = .ok (.iconst 0, 1) := by decide +kernel
theorem dX2_readInto_24 : decode cX2_readInto 24 = .ok (.istore_n 2, 1) := by decide +kernel
theorem dX2_readInto_25 : decode cX2_readInto 25 = .ok (.iload_n 2, 1) := by decide +kernel
theorem dX2_readInto_26 : decode cX2_readInto 26 = .ok (.iconst 3, 1) := by decide +kernel
theorem dX2_readInto_27 : decode cX2_readInto 27 = .ok (.if_icmp .ge 34, 3) := by decide +kernel
theorem dX2_readInto_30 : decode cX2_readInto 30 = .ok (.aload_n 0, 1) := by decide +kernel
theorem dX2_readInto_31 : decode cX2_readInto 31 = .ok (.bipush 6, 2) := by decide +kernel
theorem dX2_readInto_33 : decode cX2_readInto 33 = .ok (.iload_n 2, 1) := by decide +kernel
theorem dX2_readInto_34 : decode cX2_readInto 34 = .ok (.iadd, 1) := by decide +kernel
theorem dX2_readInto_35 : decode cX2_readInto 35 = .ok (.invokevirtual 37, 3) := by decide +kernel
theorem dX2_readInto_38 : decode cX2_readInto 38 = .ok (.aload_n 0, 1) := by decide +kernel
theorem dX2_readInto_39 : decode cX2_readInto 39 = .ok (.iconst 0, 1) := by decide +kernel
theorem dX2_readInto_40 : decode cX2_readInto 40 = .ok (.iconst 0, 1) := by decide +kernel
theorem dX2_readInto_41 : decode cX2_readInto 41 = .ok (.invokevirtual 41, 3) := by decide +kernel
theorem dX2_readInto_44 : decode cX2_readInto 44 = .ok (.aload_n 0, 1) := by decide +kernel
theorem dX2_readInto_45 : decode cX2_readInto 45 = .ok (.bipush 14, 2) := by decide +kernel
theorem dX2_readInto_47 : decode cX2_readInto 47 = .ok (.invokevirtual 37, 3) := by decide +kernel
theorem dX2_readInto_50 : decode cX2_readInto 50 = .ok (.aload_n 1, 1) := by decide +kernel
theorem dX2_readInto_51 : decode cX2_readInto 51 = .ok (.iload_n 2, 1) := by decide +kernel
theorem dX2_readInto_52 : decode cX2_readInto 52 = .ok (.invokevirtual 45, 3) := by decide +kernel
theorem dX2_readInto_55 : decode cX2_readInto 55 = .ok (.iinc 2 1, 3) := by decide +kernel
theorem dX2_readInto_58 : decode cX2_readInto 58 = .ok (.goto (-33), 3) := by decide +kernel
theorem dX2_readInto_61 : decode cX2_readInto 61 = .ok (.aload_n 0, 1) := by decide +kernel
theorem dX2_readInto_62 : decode cX2_readInto 62 = .ok (.bipush 21, 2) := by decide +kernel
theorem dX2_readInto_64 : decode cX2_readInto 64 = .ok (.invokevirtual 37, 3) := by decide +kernel
theorem dX2_readInto_67 : decode cX2_readInto 67 = .ok (.aload_n 0, 1) := by decide +kernel
theorem dX2_readInto_68 : decode cX2_readInto 68 = .ok (.getfield 22, 3) := by decide +kernel
theorem dX2_readInto_71 : decode cX2_readInto 71 = .ok (.ireturn, 1) := by decide +kernel
theorem dX2_expect_0 : decode cX2_expect 0 = .ok (.aload_n 0, 1) := by decide +kernel
theorem dX2_expect_1 : decode cX2_expect 1 = .ok (.getfield 48, 3) := by decide +kernel
theorem dX2_expect_4 : decode cX2_expect 4 = .ok (.iload_n 1, 1) := by decide +kernel
theorem dX2_expect_5 : decode cX2_expect 5 = .ok (.if_icmp .ne 10, 3) := by decide +kernel
theorem dX2_expect_8 : decode cX2_expect 8 = .ok (.aload_n 0, 1) := by decide +kernel
theorem dX2_expect_9 : decode cX2_expect 9 = .ok (.invokevirtual 34, 3) := by decide +kernel
theorem dX2_expect_12 : decode cX2_expect 12 = .ok (.goto 7, 3) := by decide +kernel
theorem dX2_expect_15 : decode cX2_expect 15 = .ok (.aload_n 0, 1) := by decide +kernel
theorem dX2_expect_16 : decode cX2_expect 16 = .ok (.invokevirtual 51, 3) := by decide +kernel
theorem dX2_expect_19 : decode cX2_expect 19 = .ok (.return_, 1) := by decide +kernel
theorem dX2_refuse_0 : decode cX2_refuse 0 = .ok (.aload_n 0, 1) := by decide +kernel
theorem dX2_refuse_1 : decode cX2_refuse 1 = .ok (.getfield 22, 3) := by decide +kernel
theorem dX2_refuse_4 : decode cX2_refuse 4 = .ok (.iconst (-1), 1) := by decide +kernel
theorem dX2_refuse_5 : decode cX2_refuse 5 = .ok (.if_icmp .ne 11, 3) := by decide +kernel
theorem dX2_refuse_8 : decode cX2_refuse 8 = .ok (.aload_n 0, 1) := by decide +kernel
theorem dX2_refuse_9 : decode cX2_refuse 9 = .ok (.aload_n 0, 1) := by decide +kernel
theorem dX2_refuse_10 : decode cX2_refuse 10 = .ok (.getfield 54, 3) := by decide +kernel
theorem dX2_refuse_13 : decode cX2_refuse 13 = .ok (.putfield 22, 3) := by decide +kernel
theorem dX2_refuse_16 : decode cX2_refuse 16 = .ok (.aload_n 0, 1) := by decide +kernel
theorem dX2_refuse_17 : decode cX2_refuse 17 = .ok (.bipush 22, 2) := by decide +kernel
theorem dX2_refuse_19 : decode cX2_refuse 19 = .ok (.putfield 48, 3) := by decide +kernel
theorem dX2_refuse_22 : decode cX2_refuse 22 = .ok (.return_, 1) := by decide +kernel
theorem dX2_emit_0 : decode cX2_emit 0 = .ok (.aload_n 0, 1) := by decide +kernel
theorem dX2_emit_1 : decode cX2_emit 1 = .ok (.getfield 25, 3) := by decide +kernel
theorem dX2_emit_4 : decode cX2_emit 4 = .ok (.ifnull 11, 3) := by decide +kernel
theorem dX2_emit_7 : decode cX2_emit 7 = .ok (.aload_n 0, 1) := by decide +kernel
theorem dX2_emit_8 : decode cX2_emit 8 = .ok (.getfield 25, 3) := by decide +kernel
theorem dX2_emit_11 : decode cX2_emit 11 = .ok (.iload_n 1, 1) := by decide +kernel
theorem dX2_emit_12 : decode cX2_emit 12 = .ok (.invokevirtual 57, 3) := by decide +kernel
theorem dX2_emit_15 : decode cX2_emit 15 = .ok (.return_, 1) := by decide +kernel
theorem dX2_phrase_0 : decode cX2_phrase 0 = .ok (.iload_n 1, 1) := by decide +kernel
theorem dX2_phrase_1 : decode cX2_phrase 1 = .ok (.iconst 5, 1) := by decide +kernel
theorem dX2_phrase_2 : decode cX2_phrase 2 = .ok (.if_icmp .ne 9, 3) := by decide +kernel
theorem dX2_phrase_5 : decode cX2_phrase 5 = .ok (.aload_n 0, 1) := by decide +kernel
theorem dX2_phrase_6 : decode cX2_phrase 6 = .ok (.iload_n 2, 1) := by decide +kernel
theorem dX2_phrase_7 : decode cX2_phrase 7 = .ok (.invokevirtual 60, 3) := by decide +kernel
theorem dX2_phrase_10 : decode cX2_phrase 10 = .ok (.return_, 1) := by decide +kernel
theorem dX2_phrase_11 : decode cX2_phrase 11 = .ok (.iload_n 1, 1) := by decide +kernel
theorem dX2_phrase_12 : decode cX2_phrase 12 = .ok (.iconst 2, 1) := by decide +kernel
theorem dX2_phrase_13 : decode cX2_phrase 13 = .ok (.if_icmp .ne 36, 3) := by decide +kernel
theorem dX2_phrase_16 : decode cX2_phrase 16 = .ok (.aload_n 0, 1) := by decide +kernel
theorem dX2_phrase_17 : decode cX2_phrase 17 = .ok (.getfield 48, 3) := by decide +kernel
theorem dX2_phrase_20 : decode cX2_phrase 20 = .ok (.bipush 11, 2) := by decide +kernel
theorem dX2_phrase_22 : decode cX2_phrase 22 = .ok (.if_icmp .ne 27, 3) := by decide +kernel
theorem dX2_phrase_25 : decode cX2_phrase 25 = .ok (.iload_n 2, 1) := by decide +kernel
theorem dX2_phrase_26 : decode cX2_phrase 26 = .ok (.iconst 5, 1) := by decide +kernel
theorem dX2_phrase_27 : decode cX2_phrase 27 = .ok (.if_icmp .ge 22, 3) := by decide +kernel
theorem dX2_phrase_30 : decode cX2_phrase 30 = .ok (.aload_n 0, 1) := by decide +kernel
theorem dX2_phrase_31 : decode cX2_phrase 31 = .ok (.invokevirtual 34, 3) := by decide +kernel
theorem dX2_phrase_34 : decode cX2_phrase 34 = .ok (.aload_n 0, 1) := by decide +kernel
theorem dX2_phrase_35 : decode cX2_phrase 35 = .ok (.iconst 2, 1) := by decide +kernel
theorem dX2_phrase_36 : decode cX2_phrase 36 = .ok (.iload_n 2, 1) := by decide +kernel
theorem dX2_phrase_37 : decode cX2_phrase 37 = .ok (.iconst 1, 1) := by decide +kernel
theorem dX2_phrase_38 : decode cX2_phrase 38 = .ok (.iadd, 1) := by decide +kernel
theorem dX2_phrase_39 : decode cX2_phrase 39 = .ok (.invokevirtual 41, 3) := by decide +kernel
theorem dX2_phrase_42 : decode cX2_phrase 42 = .ok (.aload_n 0, 1) := by decide +kernel
theorem dX2_phrase_43 : decode cX2_phrase 43 = .ok (.bipush (-12), 2) := by decide +kernel
theorem dX2_phrase_45 : decode cX2_phrase 45 = .ok (.invokevirtual 63, 3) := by decide +kernel
theorem dX2_phrase_48 : decode cX2_phrase 48 = .ok (.return_, 1) := by decide +kernel
theorem dX2_phrase_49 : decode cX2_phrase 49 = .ok (.aload_n 0, 1) := by decide +kernel
theorem dX2_phrase_50 : decode cX2_phrase 50 = .ok (.iload_n 1, 1) := by decide +kernel
theorem dX2_phrase_51 : decode cX2_phrase 51 = .ok (.iconst 1, 1) := by decide +kernel
theorem dX2_phrase_52 : decode cX2_phrase 52 = .ok (.iadd, 1) := by decide +kernel
theorem dX2_phrase_53 : decode cX2_phrase 53 = .ok (.iload_n 2, 1) := by decide +kernel
theorem dX2_phrase_54 : decode cX2_phrase 54 = .ok (.invokevirtual 41, 3) := by decide +kernel
theorem dX2_phrase_57 : decode cX2_phrase 57 = .ok (.iload_n 1, 1) := by decide +kernel
theorem dX2_phrase_58 : decode cX2_phrase 58 = .ok (.iconst 2, 1) := by decide +kernel
theorem dX2_phrase_59 : decode cX2_phrase 59 = .ok (.if_icmp .ne 7, 3) := by decide +kernel
theorem dX2_phrase_62 : decode cX2_phrase 62 = .ok (.iconst 1, 1) := by decide +kernel
theorem dX2_phrase_63 : decode cX2_phrase 63 = .ok (.goto 6, 3) := by decide +kernel
theorem dX2_phrase_66 : decode cX2_phrase 66 = .ok (.sipush 160, 3) := by decide +kernel
theorem dX2_phrase_69 : decode cX2_phrase 69 = .ok (.istore_n 3, 1) := by decide +kernel
theorem dX2_phrase_70 : decode cX2_phrase 70 = .ok (.iconst 0, 1) := by decide +kernel
theorem dX2_phrase_71 : decode cX2_phrase 71 = .ok (.istore 4, 2) := by decide +kernel
theorem dX2_phrase_73 : decode cX2_phrase 73 = .ok (.iload 4, 2) := by decide +kernel
theorem dX2_phrase_75 : decode cX2_phrase 75 = .ok (.iload_n 3, 1) := by decide +kernel
theorem dX2_phrase_76 : decode cX2_phrase 76 = .ok (.if_icmp .ge 43, 3) := by decide +kernel
theorem dX2_phrase_79 : decode cX2_phrase 79 = .ok (.aload_n 0, 1) := by decide +kernel
theorem dX2_phrase_80 : decode cX2_phrase 80 = .ok (.iload_n 1, 1) := by decide +kernel
theorem dX2_phrase_81 : decode cX2_phrase 81 = .ok (.invokevirtual 66, 3) := by decide +kernel
theorem dX2_phrase_84 : decode cX2_phrase 84 = .ok (.ifCond .eq 35, 3) := by decide +kernel
theorem dX2_phrase_87 : decode cX2_phrase 87 = .ok (.aload_n 0, 1) := by decide +kernel
theorem dX2_phrase_88 : decode cX2_phrase 88 = .ok (.getfield 48, 3) := by decide +kernel
theorem dX2_phrase_91 : decode cX2_phrase 91 = .ok (.istore 5, 2) := by decide +kernel
theorem dX2_phrase_93 : decode cX2_phrase 93 = .ok (.aload_n 0, 1) := by decide +kernel
theorem dX2_phrase_94 : decode cX2_phrase 94 = .ok (.invokevirtual 34, 3) := by decide +kernel
theorem dX2_phrase_97 : decode cX2_phrase 97 = .ok (.aload_n 0, 1) := by decide +kernel
theorem dX2_phrase_98 : decode cX2_phrase 98 = .ok (.iload_n 1, 1) := by decide +kernel
theorem dX2_phrase_99 : decode cX2_phrase 99 = .ok (.iconst 1, 1) := by decide +kernel
theorem dX2_phrase_100 : decode cX2_phrase 100 = .ok (.iadd, 1) := by decide +kernel
theorem dX2_phrase_101 : decode cX2_phrase 101 = .ok (.iload_n 2, 1) := by decide +kernel
theorem dX2_phrase_102 : decode cX2_phrase 102 = .ok (.invokevirtual 41, 3) := by decide +kernel
theorem dX2_phrase_105 : decode cX2_phrase 105 = .ok (.aload_n 0, 1) := by decide +kernel
theorem dX2_phrase_106 : decode cX2_phrase 106 = .ok (.iload 5, 2) := by decide +kernel
theorem dX2_phrase_108 : decode cX2_phrase 108 = .ok (.iconst (-1), 1) := by decide +kernel
theorem dX2_phrase_109 : decode cX2_phrase 109 = .ok (.ixor, 1) := by decide +kernel
theorem dX2_phrase_110 : decode cX2_phrase 110 = .ok (.invokevirtual 63, 3) := by decide +kernel
theorem dX2_phrase_113 : decode cX2_phrase 113 = .ok (.iinc 4 1, 3) := by decide +kernel
theorem dX2_phrase_116 : decode cX2_phrase 116 = .ok (.goto (-43), 3) := by decide +kernel
theorem dX2_phrase_119 : decode cX2_phrase 119 = .ok (.return_, 1) := by decide +kernel
theorem dX2_joins_0 : decode cX2_joins 0 = .ok (.iload_n 1, 1) := by decide +kernel
theorem dX2_joins_1 : decode cX2_joins 1 = .ok (.tableswitch 128 0 4 #[35, 50, 65, 89, 113], 35) := by decide +kernel
theorem dX2_joins_36 : decode cX2_joins 36 = .ok (.aload_n 0, 1) := by decide +kernel
theorem dX2_joins_37 : decode cX2_joins 37 = .ok (.getfield 48, 3) := by decide +kernel
theorem dX2_joins_40 : decode cX2_joins 40 = .ok (.bipush 9, 2) := by decide +kernel
theorem dX2_joins_42 : decode cX2_joins 42 = .ok (.if_icmp .ne 7, 3) := by decide +kernel
theorem dX2_joins_45 : decode cX2_joins 45 = .ok (.iconst 1, 1) := by decide +kernel
theorem dX2_joins_46 : decode cX2_joins 46 = .ok (.goto 4, 3) := by decide +kernel
theorem dX2_joins_49 : decode cX2_joins 49 = .ok (.iconst 0, 1) := by decide +kernel
theorem dX2_joins_50 : decode cX2_joins 50 = .ok (.ireturn, 1) := by decide +kernel
theorem dX2_joins_51 : decode cX2_joins 51 = .ok (.aload_n 0, 1) := by decide +kernel
theorem dX2_joins_52 : decode cX2_joins 52 = .ok (.getfield 48, 3) := by decide +kernel
theorem dX2_joins_55 : decode cX2_joins 55 = .ok (.bipush 10, 2) := by decide +kernel
theorem dX2_joins_57 : decode cX2_joins 57 = .ok (.if_icmp .ne 7, 3) := by decide +kernel
theorem dX2_joins_60 : decode cX2_joins 60 = .ok (.iconst 1, 1) := by decide +kernel
theorem dX2_joins_61 : decode cX2_joins 61 = .ok (.goto 4, 3) := by decide +kernel
theorem dX2_joins_64 : decode cX2_joins 64 = .ok (.iconst 0, 1) := by decide +kernel
theorem dX2_joins_65 : decode cX2_joins 65 = .ok (.ireturn, 1) := by decide +kernel
theorem dX2_joins_66 : decode cX2_joins 66 = .ok (.aload_n 0, 1) := by decide +kernel
theorem dX2_joins_67 : decode cX2_joins 67 = .ok (.getfield 48, 3) := by decide +kernel
theorem dX2_joins_70 : decode cX2_joins 70 = .ok (.bipush 18, 2) := by decide +kernel
theorem dX2_joins_72 : decode cX2_joins 72 = .ok (.if_icmp .eq 12, 3) := by decide +kernel
theorem dX2_joins_75 : decode cX2_joins 75 = .ok (.aload_n 0, 1) := by decide +kernel
theorem dX2_joins_76 : decode cX2_joins 76 = .ok (.getfield 48, 3) := by decide +kernel
theorem dX2_joins_79 : decode cX2_joins 79 = .ok (.bipush 19, 2) := by decide +kernel
theorem dX2_joins_81 : decode cX2_joins 81 = .ok (.if_icmp .ne 7, 3) := by decide +kernel
theorem dX2_joins_84 : decode cX2_joins 84 = .ok (.iconst 1, 1) := by decide +kernel
theorem dX2_joins_85 : decode cX2_joins 85 = .ok (.goto 4, 3) := by decide +kernel
theorem dX2_joins_88 : decode cX2_joins 88 = .ok (.iconst 0, 1) := by decide +kernel
theorem dX2_joins_89 : decode cX2_joins 89 = .ok (.ireturn, 1) := by decide +kernel
theorem dX2_joins_90 : decode cX2_joins 90 = .ok (.aload_n 0, 1) := by decide +kernel
theorem dX2_joins_91 : decode cX2_joins 91 = .ok (.getfield 48, 3) := by decide +kernel
theorem dX2_joins_94 : decode cX2_joins 94 = .ok (.bipush 15, 2) := by decide +kernel
theorem dX2_joins_96 : decode cX2_joins 96 = .ok (.if_icmp .eq 12, 3) := by decide +kernel
theorem dX2_joins_99 : decode cX2_joins 99 = .ok (.aload_n 0, 1) := by decide +kernel
theorem dX2_joins_100 : decode cX2_joins 100 = .ok (.getfield 48, 3) := by decide +kernel
theorem dX2_joins_103 : decode cX2_joins 103 = .ok (.bipush 16, 2) := by decide +kernel
theorem dX2_joins_105 : decode cX2_joins 105 = .ok (.if_icmp .ne 7, 3) := by decide +kernel
theorem dX2_joins_108 : decode cX2_joins 108 = .ok (.iconst 1, 1) := by decide +kernel
theorem dX2_joins_109 : decode cX2_joins 109 = .ok (.goto 4, 3) := by decide +kernel
theorem dX2_joins_112 : decode cX2_joins 112 = .ok (.iconst 0, 1) := by decide +kernel
theorem dX2_joins_113 : decode cX2_joins 113 = .ok (.ireturn, 1) := by decide +kernel
theorem dX2_joins_114 : decode cX2_joins 114 = .ok (.aload_n 0, 1) := by decide +kernel
theorem dX2_joins_115 : decode cX2_joins 115 = .ok (.getfield 48, 3) := by decide +kernel
theorem dX2_joins_118 : decode cX2_joins 118 = .ok (.bipush 17, 2) := by decide +kernel
theorem dX2_joins_120 : decode cX2_joins 120 = .ok (.if_icmp .ne 7, 3) := by decide +kernel
theorem dX2_joins_123 : decode cX2_joins 123 = .ok (.iconst 1, 1) := by decide +kernel
theorem dX2_joins_124 : decode cX2_joins 124 = .ok (.goto 4, 3) := by decide +kernel
theorem dX2_joins_127 : decode cX2_joins 127 = .ok (.iconst 0, 1) := by decide +kernel
theorem dX2_joins_128 : decode cX2_joins 128 = .ok (.ireturn, 1) := by decide +kernel
theorem dX2_joins_129 : decode cX2_joins 129 = .ok (.iconst 0, 1) := by decide +kernel
theorem dX2_joins_130 : decode cX2_joins 130 = .ok (.ireturn, 1) := by decide +kernel
theorem dX2_one_0 : decode cX2_one 0 = .ok (.aload_n 0, 1) := by decide +kernel
theorem dX2_one_1 : decode cX2_one 1 = .ok (.getfield 48, 3) := by decide +kernel
theorem dX2_one_4 : decode cX2_one 4 = .ok (.istore_n 2, 1) := by decide +kernel
theorem dX2_one_5 : decode cX2_one 5 = .ok (.iload_n 2, 1) := by decide +kernel
theorem dX2_one_6 : decode cX2_one 6 = .ok (.bipush 16, 2) := by decide +kernel
theorem dX2_one_8 : decode cX2_one 8 = .ok (.if_icmp .eq 9, 3) := by decide +kernel
theorem dX2_one_11 : decode cX2_one 11 = .ok (.iload_n 2, 1) := by decide +kernel
theorem dX2_one_12 : decode cX2_one 12 = .ok (.bipush 12, 2) := by decide +kernel
theorem dX2_one_14 : decode cX2_one 14 = .ok (.if_icmp .ne 12, 3) := by decide +kernel
theorem dX2_one_17 : decode cX2_one 17 = .ok (.iload_n 1, 1) := by decide +kernel
theorem dX2_one_18 : decode cX2_one 18 = .ok (.iconst 5, 1) := by decide +kernel
theorem dX2_one_19 : decode cX2_one 19 = .ok (.if_icmp .ge 7, 3) := by decide +kernel
theorem dX2_one_22 : decode cX2_one 22 = .ok (.iconst 1, 1) := by decide +kernel
theorem dX2_one_23 : decode cX2_one 23 = .ok (.goto 4, 3) := by decide +kernel
theorem dX2_one_26 : decode cX2_one 26 = .ok (.iconst 0, 1) := by decide +kernel
theorem dX2_one_27 : decode cX2_one 27 = .ok (.istore_n 3, 1) := by decide +kernel
theorem dX2_one_28 : decode cX2_one 28 = .ok (.iload_n 3, 1) := by decide +kernel
theorem dX2_one_29 : decode cX2_one 29 = .ok (.ifCond .ne 20, 3) := by decide +kernel
theorem dX2_one_32 : decode cX2_one 32 = .ok (.iload_n 2, 1) := by decide +kernel
theorem dX2_one_33 : decode cX2_one 33 = .ok (.bipush 20, 2) := by decide +kernel
theorem dX2_one_35 : decode cX2_one 35 = .ok (.if_icmp .eq 14, 3) := by decide +kernel
theorem dX2_one_38 : decode cX2_one 38 = .ok (.iload_n 2, 1) := by decide +kernel
theorem dX2_one_39 : decode cX2_one 39 = .ok (.bipush 6, 2) := by decide +kernel
theorem dX2_one_41 : decode cX2_one 41 = .ok (.if_icmp .lt 8, 3) := by decide +kernel
theorem dX2_one_44 : decode cX2_one 44 = .ok (.aload_n 0, 1) := by decide +kernel
theorem dX2_one_45 : decode cX2_one 45 = .ok (.invokevirtual 51, 3) := by decide +kernel
theorem dX2_one_48 : decode cX2_one 48 = .ok (.return_, 1) := by decide +kernel
theorem dX2_one_49 : decode cX2_one 49 = .ok (.iload_n 2, 1) := by decide +kernel
theorem dX2_one_50 : decode cX2_one 50 = .ok (.bipush 20, 2) := by decide +kernel
theorem dX2_one_52 : decode cX2_one 52 = .ok (.if_icmp .ne 10, 3) := by decide +kernel
theorem dX2_one_55 : decode cX2_one 55 = .ok (.aload_n 0, 1) := by decide +kernel
theorem dX2_one_56 : decode cX2_one 56 = .ok (.getfield 70, 3) := by decide +kernel
theorem dX2_one_59 : decode cX2_one 59 = .ok (.goto 6, 3) := by decide +kernel
theorem dX2_one_62 : decode cX2_one 62 = .ok (.iload_n 2, 1) := by decide +kernel
theorem dX2_one_63 : decode cX2_one 63 = .ok (.iconst (-1), 1) := by decide +kernel
theorem dX2_one_64 : decode cX2_one 64 = .ok (.ixor, 1) := by decide +kernel
theorem dX2_one_65 : decode cX2_one 65 = .ok (.istore 4, 2) := by decide +kernel
theorem dX2_one_67 : decode cX2_one 67 = .ok (.aload_n 0, 1) := by decide +kernel
theorem dX2_one_68 : decode cX2_one 68 = .ok (.invokevirtual 34, 3) := by decide +kernel
theorem dX2_one_71 : decode cX2_one 71 = .ok (.iload_n 3, 1) := by decide +kernel
theorem dX2_one_72 : decode cX2_one 72 = .ok (.ifCond .ne 12, 3) := by decide +kernel
theorem dX2_one_75 : decode cX2_one 75 = .ok (.aload_n 0, 1) := by decide +kernel
theorem dX2_one_76 : decode cX2_one 76 = .ok (.iload 4, 2) := by decide +kernel
theorem dX2_one_78 : decode cX2_one 78 = .ok (.invokevirtual 63, 3) := by decide +kernel
theorem dX2_one_81 : decode cX2_one 81 = .ok (.goto 40, 3) := by decide +kernel
theorem dX2_one_84 : decode cX2_one 84 = .ok (.iload_n 2, 1) := by decide +kernel
theorem dX2_one_85 : decode cX2_one 85 = .ok (.bipush 16, 2) := by decide +kernel
theorem dX2_one_87 : decode cX2_one 87 = .ok (.if_icmp .ne 20, 3) := by decide +kernel
theorem dX2_one_90 : decode cX2_one 90 = .ok (.aload_n 0, 1) := by decide +kernel
theorem dX2_one_91 : decode cX2_one 91 = .ok (.iconst 5, 1) := by decide +kernel
theorem dX2_one_92 : decode cX2_one 92 = .ok (.iload_n 1, 1) := by decide +kernel
theorem dX2_one_93 : decode cX2_one 93 = .ok (.iconst 1, 1) := by decide +kernel
theorem dX2_one_94 : decode cX2_one 94 = .ok (.iadd, 1) := by decide +kernel
theorem dX2_one_95 : decode cX2_one 95 = .ok (.invokevirtual 41, 3) := by decide +kernel
theorem dX2_one_98 : decode cX2_one 98 = .ok (.aload_n 0, 1) := by decide +kernel
theorem dX2_one_99 : decode cX2_one 99 = .ok (.bipush (-24), 2) := by decide +kernel
theorem dX2_one_101 : decode cX2_one 101 = .ok (.invokevirtual 63, 3) := by decide +kernel
theorem dX2_one_104 : decode cX2_one 104 = .ok (.goto 17, 3) := by decide +kernel
theorem dX2_one_107 : decode cX2_one 107 = .ok (.aload_n 0, 1) := by decide +kernel
theorem dX2_one_108 : decode cX2_one 108 = .ok (.iconst 0, 1) := by decide +kernel
theorem dX2_one_109 : decode cX2_one 109 = .ok (.iload_n 1, 1) := by decide +kernel
theorem dX2_one_110 : decode cX2_one 110 = .ok (.iconst 1, 1) := by decide +kernel
theorem dX2_one_111 : decode cX2_one 111 = .ok (.iadd, 1) := by decide +kernel
theorem dX2_one_112 : decode cX2_one 112 = .ok (.invokevirtual 41, 3) := by decide +kernel
theorem dX2_one_115 : decode cX2_one 115 = .ok (.aload_n 0, 1) := by decide +kernel
theorem dX2_one_116 : decode cX2_one 116 = .ok (.bipush 13, 2) := by decide +kernel
theorem dX2_one_118 : decode cX2_one 118 = .ok (.invokevirtual 37, 3) := by decide +kernel
theorem dX2_one_121 : decode cX2_one 121 = .ok (.return_, 1) := by decide +kernel
theorem dX2_advance_0 : decode cX2_advance 0 = .ok (.aload_n 0, 1) := by decide +kernel
theorem dX2_advance_1 : decode cX2_advance 1 = .ok (.getfield 19, 3) := by decide +kernel
theorem dX2_advance_4 : decode cX2_advance 4 = .ok (.aload_n 0, 1) := by decide +kernel
theorem dX2_advance_5 : decode cX2_advance 5 = .ok (.getfield 15, 3) := by decide +kernel
theorem dX2_advance_8 : decode cX2_advance 8 = .ok (.if_icmp .ge 44, 3) := by decide +kernel
theorem dX2_advance_11 : decode cX2_advance 11 = .ok (.aload_n 0, 1) := by decide +kernel
theorem dX2_advance_12 : decode cX2_advance 12 = .ok (.getfield 9, 3) := by decide +kernel
theorem dX2_advance_15 : decode cX2_advance 15 = .ok (.aload_n 0, 1) := by decide +kernel
theorem dX2_advance_16 : decode cX2_advance 16 = .ok (.getfield 19, 3) := by decide +kernel
theorem dX2_advance_19 : decode cX2_advance 19 = .ok (.iaload, 1) := by decide +kernel
theorem dX2_advance_20 : decode cX2_advance 20 = .ok (.bipush 32, 2) := by decide +kernel
theorem dX2_advance_22 : decode cX2_advance 22 = .ok (.if_icmp .eq 17, 3) := by decide +kernel
theorem dX2_advance_25 : decode cX2_advance 25 = .ok (.aload_n 0, 1) := by decide +kernel
theorem dX2_advance_26 : decode cX2_advance 26 = .ok (.getfield 9, 3) := by decide +kernel
theorem dX2_advance_29 : decode cX2_advance 29 = .ok (.aload_n 0, 1) := by decide +kernel
theorem dX2_advance_30 : decode cX2_advance 30 = .ok (.getfield 19, 3) := by decide +kernel
theorem dX2_advance_33 : decode cX2_advance 33 = .ok (.iaload, 1) := by decide +kernel
theorem dX2_advance_34 : decode cX2_advance 34 = .ok (.bipush 10, 2) := by decide +kernel
theorem dX2_advance_36 : decode cX2_advance 36 = .ok (.if_icmp .ne 16, 3) := by decide +kernel
theorem dX2_advance_39 : decode cX2_advance 39 = .ok (.aload_n 0, 1) := by decide +kernel
theorem dX2_advance_40 : decode cX2_advance 40 = .ok (.dup, 1) := by decide +kernel
theorem dX2_advance_41 : decode cX2_advance 41 = .ok (.getfield 19, 3) := by decide +kernel
theorem dX2_advance_44 : decode cX2_advance 44 = .ok (.iconst 1, 1) := by decide +kernel
theorem dX2_advance_45 : decode cX2_advance 45 = .ok (.iadd, 1) := by decide +kernel
theorem dX2_advance_46 : decode cX2_advance 46 = .ok (.putfield 19, 3) := by decide +kernel
theorem dX2_advance_49 : decode cX2_advance 49 = .ok (.goto (-49), 3) := by decide +kernel
theorem dX2_advance_52 : decode cX2_advance 52 = .ok (.aload_n 0, 1) := by decide +kernel
theorem dX2_advance_53 : decode cX2_advance 53 = .ok (.aload_n 0, 1) := by decide +kernel
theorem dX2_advance_54 : decode cX2_advance 54 = .ok (.getfield 19, 3) := by decide +kernel
theorem dX2_advance_57 : decode cX2_advance 57 = .ok (.putfield 54, 3) := by decide +kernel
theorem dX2_advance_60 : decode cX2_advance 60 = .ok (.aload_n 0, 1) := by decide +kernel
theorem dX2_advance_61 : decode cX2_advance 61 = .ok (.getfield 19, 3) := by decide +kernel
theorem dX2_advance_64 : decode cX2_advance 64 = .ok (.aload_n 0, 1) := by decide +kernel
theorem dX2_advance_65 : decode cX2_advance 65 = .ok (.getfield 15, 3) := by decide +kernel
theorem dX2_advance_68 : decode cX2_advance 68 = .ok (.if_icmp .lt 12, 3) := by decide +kernel
theorem dX2_advance_71 : decode cX2_advance 71 = .ok (.aload_n 0, 1) := by decide +kernel
theorem dX2_advance_72 : decode cX2_advance 72 = .ok (.bipush 21, 2) := by decide +kernel
theorem dX2_advance_74 : decode cX2_advance 74 = .ok (.putfield 48, 3) := by decide +kernel
theorem dX2_advance_77 : decode cX2_advance 77 = .ok (.goto 90, 3) := by decide +kernel
theorem dX2_advance_80 : decode cX2_advance 80 = .ok (.aload_n 0, 1) := by decide +kernel
theorem dX2_advance_81 : decode cX2_advance 81 = .ok (.getfield 9, 3) := by decide +kernel
theorem dX2_advance_84 : decode cX2_advance 84 = .ok (.aload_n 0, 1) := by decide +kernel
theorem dX2_advance_85 : decode cX2_advance 85 = .ok (.getfield 19, 3) := by decide +kernel
theorem dX2_advance_88 : decode cX2_advance 88 = .ok (.iaload, 1) := by decide +kernel
theorem dX2_advance_89 : decode cX2_advance 89 = .ok (.invokestatic 73, 3) := by decide +kernel
theorem dX2_advance_92 : decode cX2_advance 92 = .ok (.ifCond .eq 10, 3) := by decide +kernel
theorem dX2_advance_95 : decode cX2_advance 95 = .ok (.aload_n 0, 1) := by decide +kernel
theorem dX2_advance_96 : decode cX2_advance 96 = .ok (.invokevirtual 76, 3) := by decide +kernel
theorem dX2_advance_99 : decode cX2_advance 99 = .ok (.goto 68, 3) := by decide +kernel
theorem dX2_advance_102 : decode cX2_advance 102 = .ok (.aload_n 0, 1) := by decide +kernel
theorem dX2_advance_103 : decode cX2_advance 103 = .ok (.getfield 9, 3) := by decide +kernel
theorem dX2_advance_106 : decode cX2_advance 106 = .ok (.aload_n 0, 1) := by decide +kernel
theorem dX2_advance_107 : decode cX2_advance 107 = .ok (.getfield 19, 3) := by decide +kernel
theorem dX2_advance_110 : decode cX2_advance 110 = .ok (.iaload, 1) := by decide +kernel
theorem dX2_advance_111 : decode cX2_advance 111 = .ok (.invokestatic 79, 3) := by decide +kernel
theorem dX2_advance_114 : decode cX2_advance 114 = .ok (.ifCond .eq 10, 3) := by decide +kernel
theorem dX2_advance_117 : decode cX2_advance 117 = .ok (.aload_n 0, 1) := by decide +kernel
theorem dX2_advance_118 : decode cX2_advance 118 = .ok (.invokevirtual 82, 3) := by decide +kernel
theorem dX2_advance_121 : decode cX2_advance 121 = .ok (.goto 46, 3) := by decide +kernel
theorem dX2_advance_124 : decode cX2_advance 124 = .ok (.ldc 85, 2) := by decide +kernel
theorem dX2_advance_126 : decode cX2_advance 126 = .ok (.aload_n 0, 1) := by decide +kernel
theorem dX2_advance_127 : decode cX2_advance 127 = .ok (.getfield 9, 3) := by decide +kernel
theorem dX2_advance_130 : decode cX2_advance 130 = .ok (.aload_n 0, 1) := by decide +kernel
theorem dX2_advance_131 : decode cX2_advance 131 = .ok (.getfield 19, 3) := by decide +kernel
theorem dX2_advance_134 : decode cX2_advance 134 = .ok (.iaload, 1) := by decide +kernel
theorem dX2_advance_135 : decode cX2_advance 135 = .ok (.i2c, 1) := by decide +kernel
theorem dX2_advance_136 : decode cX2_advance 136 = .ok (.invokevirtual 87, 3) := by decide +kernel
theorem dX2_advance_139 : decode cX2_advance 139 = .ok (.istore_n 1, 1) := by decide +kernel
theorem dX2_advance_140 : decode cX2_advance 140 = .ok (.aload_n 0, 1) := by decide +kernel
theorem dX2_advance_141 : decode cX2_advance 141 = .ok (.iload_n 1, 1) := by decide +kernel
theorem dX2_advance_142 : decode cX2_advance 142 = .ok (.ifCond .ge 8, 3) := by decide +kernel
theorem dX2_advance_145 : decode cX2_advance 145 = .ok (.bipush 22, 2) := by decide +kernel
theorem dX2_advance_147 : decode cX2_advance 147 = .ok (.goto 7, 3) := by decide +kernel
theorem dX2_advance_150 : decode cX2_advance 150 = .ok (.bipush 12, 2) := by decide +kernel
theorem dX2_advance_152 : decode cX2_advance 152 = .ok (.iload_n 1, 1) := by decide +kernel
theorem dX2_advance_153 : decode cX2_advance 153 = .ok (.iadd, 1) := by decide +kernel
theorem dX2_advance_154 : decode cX2_advance 154 = .ok (.putfield 48, 3) := by decide +kernel
theorem dX2_advance_157 : decode cX2_advance 157 = .ok (.aload_n 0, 1) := by decide +kernel
theorem dX2_advance_158 : decode cX2_advance 158 = .ok (.dup, 1) := by decide +kernel
theorem dX2_advance_159 : decode cX2_advance 159 = .ok (.getfield 19, 3) := by decide +kernel
theorem dX2_advance_162 : decode cX2_advance 162 = .ok (.iconst 1, 1) := by decide +kernel
theorem dX2_advance_163 : decode cX2_advance 163 = .ok (.iadd, 1) := by decide +kernel
theorem dX2_advance_164 : decode cX2_advance 164 = .ok (.putfield 19, 3) := by decide +kernel
theorem dX2_advance_167 : decode cX2_advance 167 = .ok (.return_, 1) := by decide +kernel
theorem dX2_readWord_0 : decode cX2_readWord 0 = .ok (.aload_n 0, 1) := by decide +kernel
theorem dX2_readWord_1 : decode cX2_readWord 1 = .ok (.getfield 19, 3) := by decide +kernel
theorem dX2_readWord_4 : decode cX2_readWord 4 = .ok (.aload_n 0, 1) := by decide +kernel
theorem dX2_readWord_5 : decode cX2_readWord 5 = .ok (.getfield 15, 3) := by decide +kernel
theorem dX2_readWord_8 : decode cX2_readWord 8 = .ok (.if_icmp .ge 31, 3) := by decide +kernel
theorem dX2_readWord_11 : decode cX2_readWord 11 = .ok (.aload_n 0, 1) := by decide +kernel
theorem dX2_readWord_12 : decode cX2_readWord 12 = .ok (.getfield 9, 3) := by decide +kernel
theorem dX2_readWord_15 : decode cX2_readWord 15 = .ok (.aload_n 0, 1) := by decide +kernel
theorem dX2_readWord_16 : decode cX2_readWord 16 = .ok (.getfield 19, 3) := by decide +kernel
theorem dX2_readWord_19 : decode cX2_readWord 19 = .ok (.iaload, 1) := by decide +kernel
theorem dX2_readWord_20 : decode cX2_readWord 20 = .ok (.invokestatic 73, 3) := by decide +kernel
theorem dX2_readWord_23 : decode cX2_readWord 23 = .ok (.ifCond .eq 16, 3) := by decide +kernel
theorem dX2_readWord_26 : decode cX2_readWord 26 = .ok (.aload_n 0, 1) := by decide +kernel
theorem dX2_readWord_27 : decode cX2_readWord 27 = .ok (.dup, 1) := by decide +kernel
theorem dX2_readWord_28 : decode cX2_readWord 28 = .ok (.getfield 19, 3) := by decide +kernel
theorem dX2_readWord_31 : decode cX2_readWord 31 = .ok (.iconst 1, 1) := by decide +kernel
theorem dX2_readWord_32 : decode cX2_readWord 32 = .ok (.iadd, 1) := by decide +kernel
theorem dX2_readWord_33 : decode cX2_readWord 33 = .ok (.putfield 19, 3) := by decide +kernel
theorem dX2_readWord_36 : decode cX2_readWord 36 = .ok (.goto (-36), 3) := by decide +kernel
theorem dX2_readWord_39 : decode cX2_readWord 39 = .ok (.aload_n 0, 1) := by decide +kernel
theorem dX2_readWord_40 : decode cX2_readWord 40 = .ok (.bipush 22, 2) := by decide +kernel
theorem dX2_readWord_42 : decode cX2_readWord 42 = .ok (.putfield 48, 3) := by decide +kernel
theorem dX2_readWord_45 : decode cX2_readWord 45 = .ok (.iconst 0, 1) := by decide +kernel
theorem dX2_readWord_46 : decode cX2_readWord 46 = .ok (.istore_n 1, 1) := by decide +kernel
theorem dX2_readWord_47 : decode cX2_readWord 47 = .ok (.iconst 0, 1) := by decide +kernel
theorem dX2_readWord_48 : decode cX2_readWord 48 = .ok (.istore_n 2, 1) := by decide +kernel
theorem dX2_readWord_49 : decode cX2_readWord 49 = .ok (.iconst 0, 1) := by decide +kernel
theorem dX2_readWord_50 : decode cX2_readWord 50 = .ok (.istore_n 3, 1) := by decide +kernel
theorem dX2_readWord_51 : decode cX2_readWord 51 = .ok (.iload_n 3, 1) := by decide +kernel
theorem dX2_readWord_52 : decode cX2_readWord 52 = .ok (.ldc 93, 2) := by decide +kernel
theorem dX2_readWord_54 : decode cX2_readWord 54 = .ok (.invokevirtual 95, 3) := by decide +kernel
theorem dX2_readWord_57 : decode cX2_readWord 57 = .ok (.if_icmp .ge 50, 3) := by decide +kernel
theorem dX2_readWord_60 : decode cX2_readWord 60 = .ok (.aload_n 0, 1) := by decide +kernel
theorem dX2_readWord_61 : decode cX2_readWord 61 = .ok (.getfield 48, 3) := by decide +kernel
theorem dX2_readWord_64 : decode cX2_readWord 64 = .ok (.bipush 22, 2) := by decide +kernel
theorem dX2_readWord_66 : decode cX2_readWord 66 = .ok (.if_icmp .ne 41, 3) := by decide +kernel
theorem dX2_readWord_69 : decode cX2_readWord 69 = .ok (.ldc 93, 2) := by decide +kernel
theorem dX2_readWord_71 : decode cX2_readWord 71 = .ok (.iload_n 3, 1) := by decide +kernel
theorem dX2_readWord_72 : decode cX2_readWord 72 = .ok (.invokevirtual 99, 3) := by decide +kernel
theorem dX2_readWord_75 : decode cX2_readWord 75 = .ok (.bipush 32, 2) := by decide +kernel
theorem dX2_readWord_77 : decode cX2_readWord 77 = .ok (.if_icmp .ne 24, 3) := by decide +kernel
theorem dX2_readWord_80 : decode cX2_readWord 80 = .ok (.aload_n 0, 1) := by decide +kernel
theorem dX2_readWord_81 : decode cX2_readWord 81 = .ok (.iload_n 2, 1) := by decide +kernel
theorem dX2_readWord_82 : decode cX2_readWord 82 = .ok (.iload_n 3, 1) := by decide +kernel
theorem dX2_readWord_83 : decode cX2_readWord 83 = .ok (.invokevirtual 103, 3) := by decide +kernel
theorem dX2_readWord_86 : decode cX2_readWord 86 = .ok (.ifCond .eq 8, 3) := by decide +kernel
theorem dX2_readWord_89 : decode cX2_readWord 89 = .ok (.aload_n 0, 1) := by decide +kernel
theorem dX2_readWord_90 : decode cX2_readWord 90 = .ok (.iload_n 1, 1) := by decide +kernel
theorem dX2_readWord_91 : decode cX2_readWord 91 = .ok (.putfield 48, 3) := by decide +kernel
theorem dX2_readWord_94 : decode cX2_readWord 94 = .ok (.iinc 1 1, 3) := by decide +kernel
theorem dX2_readWord_97 : decode cX2_readWord 97 = .ok (.iload_n 3, 1) := by decide +kernel
theorem dX2_readWord_98 : decode cX2_readWord 98 = .ok (.iconst 1, 1) := by decide +kernel
theorem dX2_readWord_99 : decode cX2_readWord 99 = .ok (.iadd, 1) := by decide +kernel
theorem dX2_readWord_100 : decode cX2_readWord 100 = .ok (.istore_n 2, 1) := by decide +kernel
theorem dX2_readWord_101 : decode cX2_readWord 101 = .ok (.iinc 3 1, 3) := by decide +kernel
theorem dX2_readWord_104 : decode cX2_readWord 104 = .ok (.goto (-53), 3) := by decide +kernel
theorem dX2_readWord_107 : decode cX2_readWord 107 = .ok (.return_, 1) := by decide +kernel
theorem dX2_isWord_0 : decode cX2_isWord 0 = .ok (.aload_n 0, 1) := by decide +kernel
theorem dX2_isWord_1 : decode cX2_isWord 1 = .ok (.getfield 19, 3) := by decide +kernel
theorem dX2_isWord_4 : decode cX2_isWord 4 = .ok (.aload_n 0, 1) := by decide +kernel
theorem dX2_isWord_5 : decode cX2_isWord 5 = .ok (.getfield 54, 3) := by decide +kernel
theorem dX2_isWord_8 : decode cX2_isWord 8 = .ok (.isub, 1) := by decide +kernel
theorem dX2_isWord_9 : decode cX2_isWord 9 = .ok (.iload_n 2, 1) := by decide +kernel
theorem dX2_isWord_10 : decode cX2_isWord 10 = .ok (.iload_n 1, 1) := by decide +kernel
theorem dX2_isWord_11 : decode cX2_isWord 11 = .ok (.isub, 1) := by decide +kernel
theorem dX2_isWord_12 : decode cX2_isWord 12 = .ok (.if_icmp .eq 5, 3) := by decide +kernel
theorem dX2_isWord_15 : decode cX2_isWord 15 = .ok (.iconst 0, 1) := by decide +kernel
theorem dX2_isWord_16 : decode cX2_isWord 16 = .ok (.ireturn, 1) := by decide +kernel
theorem dX2_isWord_17 : decode cX2_isWord 17 = .ok (.aload_n 0, 1) := by decide +kernel
theorem dX2_isWord_18 : decode cX2_isWord 18 = .ok (.getfield 54, 3) := by decide +kernel
theorem dX2_isWord_21 : decode cX2_isWord 21 = .ok (.istore_n 3, 1) := by decide +kernel
theorem dX2_isWord_22 : decode cX2_isWord 22 = .ok (.iload_n 3, 1) := by decide +kernel
theorem dX2_isWord_23 : decode cX2_isWord 23 = .ok (.aload_n 0, 1) := by decide +kernel
theorem dX2_isWord_24 : decode cX2_isWord 24 = .ok (.getfield 19, 3) := by decide +kernel
theorem dX2_isWord_27 : decode cX2_isWord 27 = .ok (.if_icmp .ge 33, 3) := by decide +kernel
theorem dX2_isWord_30 : decode cX2_isWord 30 = .ok (.aload_n 0, 1) := by decide +kernel
theorem dX2_isWord_31 : decode cX2_isWord 31 = .ok (.getfield 9, 3) := by decide +kernel
theorem dX2_isWord_34 : decode cX2_isWord 34 = .ok (.iload_n 3, 1) := by decide +kernel
theorem dX2_isWord_35 : decode cX2_isWord 35 = .ok (.iaload, 1) := by decide +kernel
theorem dX2_isWord_36 : decode cX2_isWord 36 = .ok (.ldc 93, 2) := by decide +kernel
theorem dX2_isWord_38 : decode cX2_isWord 38 = .ok (.iload_n 1, 1) := by decide +kernel
theorem dX2_isWord_39 : decode cX2_isWord 39 = .ok (.iload_n 3, 1) := by decide +kernel
theorem dX2_isWord_40 : decode cX2_isWord 40 = .ok (.iadd, 1) := by decide +kernel
theorem dX2_isWord_41 : decode cX2_isWord 41 = .ok (.aload_n 0, 1) := by decide +kernel
theorem dX2_isWord_42 : decode cX2_isWord 42 = .ok (.getfield 54, 3) := by decide +kernel
theorem dX2_isWord_45 : decode cX2_isWord 45 = .ok (.isub, 1) := by decide +kernel
theorem dX2_isWord_46 : decode cX2_isWord 46 = .ok (.invokevirtual 99, 3) := by decide +kernel
theorem dX2_isWord_49 : decode cX2_isWord 49 = .ok (.if_icmp .eq 5, 3) := by decide +kernel
theorem dX2_isWord_52 : decode cX2_isWord 52 = .ok (.iconst 0, 1) := by decide +kernel
theorem dX2_isWord_53 : decode cX2_isWord 53 = .ok (.ireturn, 1) := by decide +kernel
theorem dX2_isWord_54 : decode cX2_isWord 54 = .ok (.iinc 3 1, 3) := by decide +kernel
theorem dX2_isWord_57 : decode cX2_isWord 57 = .ok (.goto (-35), 3) := by decide +kernel
theorem dX2_isWord_60 : decode cX2_isWord 60 = .ok (.iconst 1, 1) := by decide +kernel
theorem dX2_isWord_61 : decode cX2_isWord 61 = .ok (.ireturn, 1) := by decide +kernel
theorem dX2_readNumber_0 : decode cX2_readNumber 0 = .ok (.aload_n 0, 1) := by decide +kernel
theorem dX2_readNumber_1 : decode cX2_readNumber 1 = .ok (.iconst 0, 1) := by decide +kernel
theorem dX2_readNumber_2 : decode cX2_readNumber 2 = .ok (.putfield 70, 3) := by decide +kernel
theorem dX2_readNumber_5 : decode cX2_readNumber 5 = .ok (.aload_n 0, 1) := by decide +kernel
theorem dX2_readNumber_6 : decode cX2_readNumber 6 = .ok (.getfield 19, 3) := by decide +kernel
theorem dX2_readNumber_9 : decode cX2_readNumber 9 = .ok (.aload_n 0, 1) := by decide +kernel
theorem dX2_readNumber_10 : decode cX2_readNumber 10 = .ok (.getfield 15, 3) := by decide +kernel
theorem dX2_readNumber_13 : decode cX2_readNumber 13 = .ok (.if_icmp .ge 55, 3) := by decide +kernel
theorem dX2_readNumber_16 : decode cX2_readNumber 16 = .ok (.aload_n 0, 1) := by decide +kernel
theorem dX2_readNumber_17 : decode cX2_readNumber 17 = .ok (.getfield 9, 3) := by decide +kernel
theorem dX2_readNumber_20 : decode cX2_readNumber 20 = .ok (.aload_n 0, 1) := by decide +kernel
theorem dX2_readNumber_21 : decode cX2_readNumber 21 = .ok (.getfield 19, 3) := by decide +kernel
theorem dX2_readNumber_24 : decode cX2_readNumber 24 = .ok (.iaload, 1) := by decide +kernel
theorem dX2_readNumber_25 : decode cX2_readNumber 25 = .ok (.invokestatic 79, 3) := by decide +kernel
theorem dX2_readNumber_28 : decode cX2_readNumber 28 = .ok (.ifCond .eq 40, 3) := by decide +kernel
theorem dX2_readNumber_31 : decode cX2_readNumber 31 = .ok (.aload_n 0, 1) := by decide +kernel
theorem dX2_readNumber_32 : decode cX2_readNumber 32 = .ok (.bipush 10, 2) := by decide +kernel
theorem dX2_readNumber_34 : decode cX2_readNumber 34 = .ok (.aload_n 0, 1) := by decide +kernel
theorem dX2_readNumber_35 : decode cX2_readNumber 35 = .ok (.getfield 70, 3) := by decide +kernel
theorem dX2_readNumber_38 : decode cX2_readNumber 38 = .ok (.imul, 1) := by decide +kernel
theorem dX2_readNumber_39 : decode cX2_readNumber 39 = .ok (.aload_n 0, 1) := by decide +kernel
theorem dX2_readNumber_40 : decode cX2_readNumber 40 = .ok (.getfield 9, 3) := by decide +kernel
theorem dX2_readNumber_43 : decode cX2_readNumber 43 = .ok (.aload_n 0, 1) := by decide +kernel
theorem dX2_readNumber_44 : decode cX2_readNumber 44 = .ok (.getfield 19, 3) := by decide +kernel
theorem dX2_readNumber_47 : decode cX2_readNumber 47 = .ok (.iaload, 1) := by decide +kernel
theorem dX2_readNumber_48 : decode cX2_readNumber 48 = .ok (.iadd, 1) := by decide +kernel
theorem dX2_readNumber_49 : decode cX2_readNumber 49 = .ok (.bipush 48, 2) := by decide +kernel
theorem dX2_readNumber_51 : decode cX2_readNumber 51 = .ok (.isub, 1) := by decide +kernel
theorem dX2_readNumber_52 : decode cX2_readNumber 52 = .ok (.putfield 70, 3) := by decide +kernel
theorem dX2_readNumber_55 : decode cX2_readNumber 55 = .ok (.aload_n 0, 1) := by decide +kernel
theorem dX2_readNumber_56 : decode cX2_readNumber 56 = .ok (.dup, 1) := by decide +kernel
theorem dX2_readNumber_57 : decode cX2_readNumber 57 = .ok (.getfield 19, 3) := by decide +kernel
theorem dX2_readNumber_60 : decode cX2_readNumber 60 = .ok (.iconst 1, 1) := by decide +kernel
theorem dX2_readNumber_61 : decode cX2_readNumber 61 = .ok (.iadd, 1) := by decide +kernel
theorem dX2_readNumber_62 : decode cX2_readNumber 62 = .ok (.putfield 19, 3) := by decide +kernel
theorem dX2_readNumber_65 : decode cX2_readNumber 65 = .ok (.goto (-60), 3) := by decide +kernel
theorem dX2_readNumber_68 : decode cX2_readNumber 68 = .ok (.aload_n 0, 1) := by decide +kernel
theorem dX2_readNumber_69 : decode cX2_readNumber 69 = .ok (.aload_n 0, 1) := by decide +kernel
theorem dX2_readNumber_70 : decode cX2_readNumber 70 = .ok (.getfield 19, 3) := by decide +kernel
theorem dX2_readNumber_73 : decode cX2_readNumber 73 = .ok (.aload_n 0, 1) := by decide +kernel
theorem dX2_readNumber_74 : decode cX2_readNumber 74 = .ok (.getfield 54, 3) := by decide +kernel
theorem dX2_readNumber_77 : decode cX2_readNumber 77 = .ok (.isub, 1) := by decide +kernel
theorem dX2_readNumber_78 : decode cX2_readNumber 78 = .ok (.iconst 4, 1) := by decide +kernel
theorem dX2_readNumber_79 : decode cX2_readNumber 79 = .ok (.if_icmp .le 8, 3) := by decide +kernel
theorem dX2_readNumber_82 : decode cX2_readNumber 82 = .ok (.bipush 22, 2) := by decide +kernel
theorem dX2_readNumber_84 : decode cX2_readNumber 84 = .ok (.goto 5, 3) := by decide +kernel
theorem dX2_readNumber_87 : decode cX2_readNumber 87 = .ok (.bipush 20, 2) := by decide +kernel
theorem dX2_readNumber_89 : decode cX2_readNumber 89 = .ok (.putfield 48, 3) := by decide +kernel
theorem dX2_readNumber_92 : decode cX2_readNumber 92 = .ok (.return_, 1) := by decide +kernel
theorem dX2_isLetter_0 : decode cX2_isLetter 0 = .ok (.iload_n 0, 1) := by decide +kernel
theorem dX2_isLetter_1 : decode cX2_isLetter 1 = .ok (.bipush 97, 2) := by decide +kernel
theorem dX2_isLetter_3 : decode cX2_isLetter 3 = .ok (.if_icmp .lt 13, 3) := by decide +kernel
theorem dX2_isLetter_6 : decode cX2_isLetter 6 = .ok (.iload_n 0, 1) := by decide +kernel
theorem dX2_isLetter_7 : decode cX2_isLetter 7 = .ok (.bipush 122, 2) := by decide +kernel
theorem dX2_isLetter_9 : decode cX2_isLetter 9 = .ok (.if_icmp .gt 7, 3) := by decide +kernel
theorem dX2_isLetter_12 : decode cX2_isLetter 12 = .ok (.iconst 1, 1) := by decide +kernel
theorem dX2_isLetter_13 : decode cX2_isLetter 13 = .ok (.goto 4, 3) := by decide +kernel
theorem dX2_isLetter_16 : decode cX2_isLetter 16 = .ok (.iconst 0, 1) := by decide +kernel
theorem dX2_isLetter_17 : decode cX2_isLetter 17 = .ok (.ireturn, 1) := by decide +kernel
theorem dX2_isDigit_0 : decode cX2_isDigit 0 = .ok (.iload_n 0, 1) := by decide +kernel
theorem dX2_isDigit_1 : decode cX2_isDigit 1 = .ok (.bipush 48, 2) := by decide +kernel
theorem dX2_isDigit_3 : decode cX2_isDigit 3 = .ok (.if_icmp .lt 13, 3) := by decide +kernel
theorem dX2_isDigit_6 : decode cX2_isDigit 6 = .ok (.iload_n 0, 1) := by decide +kernel
theorem dX2_isDigit_7 : decode cX2_isDigit 7 = .ok (.bipush 57, 2) := by decide +kernel
theorem dX2_isDigit_9 : decode cX2_isDigit 9 = .ok (.if_icmp .gt 7, 3) := by decide +kernel
theorem dX2_isDigit_12 : decode cX2_isDigit 12 = .ok (.iconst 1, 1) := by decide +kernel
theorem dX2_isDigit_13 : decode cX2_isDigit 13 = .ok (.goto 4, 3) := by decide +kernel
theorem dX2_isDigit_16 : decode cX2_isDigit 16 = .ok (.iconst 0, 1) := by decide +kernel
theorem dX2_isDigit_17 : decode cX2_isDigit 17 = .ok (.ireturn, 1) := by decide +kernel
theorem dX3_init_0 : decode cX3_init 0 = .ok (.aload_n 0, 1) := by decide +kernel
theorem dX3_init_1 : decode cX3_init 1 = .ok (.invokespecial 3, 3) := by decide +kernel
theorem dX3_init_4 : decode cX3_init 4 = .ok (.aload_n 0, 1) := by decide +kernel
theorem dX3_init_5 : decode cX3_init 5 = .ok (.sipush 160, 3) := by decide +kernel
theorem dX3_init_8 : decode cX3_init 8 = .ok (.newarray .int, 2) := by decide +kernel
theorem dX3_init_10 : decode cX3_init 10 = .ok (.putfield 9, 3) := by decide +kernel
theorem dX3_init_13 : decode cX3_init 13 = .ok (.aload_n 0, 1) := by decide +kernel
theorem dX3_init_14 : decode cX3_init 14 = .ok (.iconst 3, 1) := by decide +kernel
theorem dX3_init_15 : decode cX3_init 15 = .ok (.newarray .int, 2) := by decide +kernel
theorem dX3_init_17 : decode cX3_init 17 = .ok (.putfield 15, 3) := by decide +kernel
theorem dX3_init_20 : decode cX3_init 20 = .ok (.return_, 1) := by decide +kernel
theorem dX3_begin_0 : decode cX3_begin 0 = .ok (.aload_n 0, 1) := by decide +kernel
theorem dX3_begin_1 : decode cX3_begin 1 = .ok (.iconst 0, 1) := by decide +kernel
theorem dX3_begin_2 : decode cX3_begin 2 = .ok (.putfield 18, 3) := by decide +kernel
theorem dX3_begin_5 : decode cX3_begin 5 = .ok (.return_, 1) := by decide +kernel
theorem dX3_becomeFirst_0 : decode cX3_becomeFirst 0 = .ok (.aload_n 0, 1) := by decide +kernel
theorem dX3_becomeFirst_1 : decode cX3_becomeFirst 1 = .ok (.invokevirtual 22, 3) := by decide +kernel
theorem dX3_becomeFirst_4 : decode cX3_becomeFirst 4 = .ok (.aload_n 0, 1) := by decide +kernel
theorem dX3_becomeFirst_5 : decode cX3_becomeFirst 5 = .ok (.sipush 500, 3) := by decide +kernel
theorem dX3_becomeFirst_8 : decode cX3_becomeFirst 8 = .ok (.invokevirtual 25, 3) := by decide +kernel
theorem dX3_becomeFirst_11 : decode cX3_becomeFirst 11 = .ok (.aload_n 0, 1) := by decide +kernel
theorem dX3_becomeFirst_12 : decode cX3_becomeFirst 12 = .ok (.iconst 0, 1) := by decide +kernel
theorem dX3_becomeFirst_13 : decode cX3_becomeFirst 13 = .ok (.invokevirtual 29, 3) := by decide +kernel
theorem dX3_becomeFirst_16 : decode cX3_becomeFirst 16 = .ok (.aload_n 0, 1) := by decide +kernel
theorem dX3_becomeFirst_17 : decode cX3_becomeFirst 17 = .ok (.iconst 0, 1) := by decide +kernel
theorem dX3_becomeFirst_18 : decode cX3_becomeFirst 18 = .ok (.invokevirtual 25, 3) := by decide +kernel
theorem dX3_becomeFirst_21 : decode cX3_becomeFirst 21 = .ok (.aload_n 0, 1) := by decide +kernel
theorem dX3_becomeFirst_22 : decode cX3_becomeFirst 22 = .ok (.iconst 1, 1) := by decide +kernel
theorem dX3_becomeFirst_23 : decode cX3_becomeFirst 23 = .ok (.invokevirtual 29, 3) := by decide +kernel
theorem dX3_becomeFirst_26 : decode cX3_becomeFirst 26 = .ok (.aload_n 0, 1) := by decide +kernel
theorem dX3_becomeFirst_27 : decode cX3_becomeFirst 27 = .ok (.bipush (-2), 2) := by decide +kernel
theorem dX3_becomeFirst_29 : decode cX3_becomeFirst 29 = .ok (.invokevirtual 25, 3) := by decide +kernel
theorem dX3_becomeFirst_32 : decode cX3_becomeFirst 32 = .ok (.aload_n 0, 1) := by decide +kernel
theorem dX3_becomeFirst_33 : decode cX3_becomeFirst 33 = .ok (.iconst 2, 1) := by decide +kernel
theorem dX3_becomeFirst_34 : decode cX3_becomeFirst 34 = .ok (.invokevirtual 29, 3) := by decide +kernel
theorem dX3_becomeFirst_37 : decode cX3_becomeFirst 37 = .ok (.return_, 1) := by decide +kernel
theorem dX3_put_0 : decode cX3_put 0 = .ok (.aload_n 0, 1) := by decide +kernel
theorem dX3_put_1 : decode cX3_put 1 = .ok (.getfield 18, 3) := by decide +kernel
theorem dX3_put_4 : decode cX3_put 4 = .ok (.sipush 160, 3) := by decide +kernel
theorem dX3_put_7 : decode cX3_put 7 = .ok (.if_icmp .ge 23, 3) := by decide +kernel
theorem dX3_put_10 : decode cX3_put 10 = .ok (.aload_n 0, 1) := by decide +kernel
theorem dX3_put_11 : decode cX3_put 11 = .ok (.getfield 9, 3) := by decide +kernel
theorem dX3_put_14 : decode cX3_put 14 = .ok (.aload_n 0, 1) := by decide +kernel
theorem dX3_put_15 : decode cX3_put 15 = .ok (.getfield 18, 3) := by decide +kernel
theorem dX3_put_18 : decode cX3_put 18 = .ok (.iload_n 1, 1) := by decide +kernel
theorem dX3_put_19 : decode cX3_put 19 = .ok (.iastore, 1) := by decide +kernel
theorem dX3_put_20 : decode cX3_put 20 = .ok (.aload_n 0, 1) := by decide +kernel
theorem dX3_put_21 : decode cX3_put 21 = .ok (.dup, 1) := by decide +kernel
theorem dX3_put_22 : decode cX3_put 22 = .ok (.getfield 18, 3) := by decide +kernel
theorem dX3_put_25 : decode cX3_put 25 = .ok (.iconst 1, 1) := by decide +kernel
theorem dX3_put_26 : decode cX3_put 26 = .ok (.iadd, 1) := by decide +kernel
theorem dX3_put_27 : decode cX3_put 27 = .ok (.putfield 18, 3) := by decide +kernel
theorem dX3_put_30 : decode cX3_put 30 = .ok (.return_, 1) := by decide +kernel
theorem dX3_endPart_0 : decode cX3_endPart 0 = .ok (.aload_n 0, 1) := by decide +kernel
theorem dX3_endPart_1 : decode cX3_endPart 1 = .ok (.getfield 15, 3) := by decide +kernel
theorem dX3_endPart_4 : decode cX3_endPart 4 = .ok (.iload_n 1, 1) := by decide +kernel
theorem dX3_endPart_5 : decode cX3_endPart 5 = .ok (.aload_n 0, 1) := by decide +kernel
theorem dX3_endPart_6 : decode cX3_endPart 6 = .ok (.getfield 18, 3) := by decide +kernel
theorem dX3_endPart_9 : decode cX3_endPart 9 = .ok (.iastore, 1) := by decide +kernel
theorem dX3_endPart_10 : decode cX3_endPart 10 = .ok (.return_, 1) := by decide +kernel
theorem dX3_tell_0 : decode cX3_tell 0 = .ok (.iconst 0, 1) := by decide +kernel
theorem dX3_tell_1 : decode cX3_tell 1 = .ok (.istore 4, 2) := by decide +kernel
theorem dX3_tell_3 : decode cX3_tell 3 = .ok (.iload_n 1, 1) := by decide +kernel
theorem dX3_tell_4 : decode cX3_tell 4 = .ok (.ifCond .ne 7, 3) := by decide +kernel
theorem dX3_tell_7 : decode cX3_tell 7 = .ok (.iconst 0, 1) := by decide +kernel
theorem dX3_tell_8 : decode cX3_tell 8 = .ok (.goto 11, 3) := by decide +kernel
theorem dX3_tell_11 : decode cX3_tell 11 = .ok (.aload_n 0, 1) := by decide +kernel
theorem dX3_tell_12 : decode cX3_tell 12 = .ok (.getfield 15, 3) := by decide +kernel
theorem dX3_tell_15 : decode cX3_tell 15 = .ok (.iload_n 1, 1) := by decide +kernel
theorem dX3_tell_16 : decode cX3_tell 16 = .ok (.iconst 1, 1) := by decide +kernel
theorem dX3_tell_17 : decode cX3_tell 17 = .ok (.isub, 1) := by decide +kernel
theorem dX3_tell_18 : decode cX3_tell 18 = .ok (.iaload, 1) := by decide +kernel
theorem dX3_tell_19 : decode cX3_tell 19 = .ok (.istore 5, 2) := by decide +kernel
theorem dX3_tell_21 : decode cX3_tell 21 = .ok (.iload 5, 2) := by decide +kernel
theorem dX3_tell_23 : decode cX3_tell 23 = .ok (.aload_n 0, 1) := by decide +kernel
theorem dX3_tell_24 : decode cX3_tell 24 = .ok (.getfield 15, 3) := by decide +kernel
theorem dX3_tell_27 : decode cX3_tell 27 = .ok (.iload_n 1, 1) := by decide +kernel
theorem dX3_tell_28 : decode cX3_tell 28 = .ok (.iaload, 1) := by decide +kernel
theorem dX3_tell_29 : decode cX3_tell 29 = .ok (.if_icmp .ge 166, 3) := by decide +kernel
theorem dX3_tell_32 : decode cX3_tell 32 = .ok (.aload_n 0, 1) := by decide +kernel
theorem dX3_tell_33 : decode cX3_tell 33 = .ok (.getfield 9, 3) := by decide +kernel
theorem dX3_tell_36 : decode cX3_tell 36 = .ok (.iload 5, 2) := by decide +kernel
theorem dX3_tell_38 : decode cX3_tell 38 = .ok (.iaload, 1) := by decide +kernel
theorem dX3_tell_39 : decode cX3_tell 39 = .ok (.istore 6, 2) := by decide +kernel
theorem dX3_tell_41 : decode cX3_tell 41 = .ok (.iload 6, 2) := by decide +kernel
theorem dX3_tell_43 : decode cX3_tell 43 = .ok (.ifCond .ge 12, 3) := by decide +kernel
theorem dX3_tell_46 : decode cX3_tell 46 = .ok (.iload 6, 2) := by decide +kernel
theorem dX3_tell_48 : decode cX3_tell 48 = .ok (.iconst (-1), 1) := by decide +kernel
theorem dX3_tell_49 : decode cX3_tell 49 = .ok (.ixor, 1) := by decide +kernel
theorem dX3_tell_50 : decode cX3_tell 50 = .ok (.bipush 6, 2) := by decide +kernel
theorem dX3_tell_52 : decode cX3_tell 52 = .ok (.if_icmp .ge 36, 3) := by decide +kernel
theorem dX3_tell_55 : decode cX3_tell 55 = .ok (.iload 4, 2) := by decide +kernel
theorem dX3_tell_57 : decode cX3_tell 57 = .ok (.aload_n 3, 1) := by decide +kernel
theorem dX3_tell_58 : decode cX3_tell 58 = .ok (.arraylength, 1) := by decide +kernel
theorem dX3_tell_59 : decode cX3_tell 59 = .ok (.if_icmp .ge 130, 3) := by decide +kernel
theorem dX3_tell_62 : decode cX3_tell 62 = .ok (.aload_n 3, 1) := by decide +kernel
theorem dX3_tell_63 : decode cX3_tell 63 = .ok (.iload 4, 2) := by decide +kernel
theorem dX3_tell_65 : decode cX3_tell 65 = .ok (.iload 6, 2) := by decide +kernel
theorem dX3_tell_67 : decode cX3_tell 67 = .ok (.ifCond .lt 8, 3) := by decide +kernel
theorem dX3_tell_70 : decode cX3_tell 70 = .ok (.iload 6, 2) := by decide +kernel
theorem dX3_tell_72 : decode cX3_tell 72 = .ok (.goto 9, 3) := by decide +kernel
theorem dX3_tell_75 : decode cX3_tell 75 = .ok (.aload_n 2, 1) := by decide +kernel
theorem dX3_tell_76 : decode cX3_tell 76 = .ok (.iload 6, 2) := by decide +kernel
theorem dX3_tell_78 : decode cX3_tell 78 = .ok (.iconst (-1), 1) := by decide +kernel
theorem dX3_tell_79 : decode cX3_tell 79 = .ok (.ixor, 1) := by decide +kernel
theorem dX3_tell_80 : decode cX3_tell 80 = .ok (.iaload, 1) := by decide +kernel
theorem dX3_tell_81 : decode cX3_tell 81 = .ok (.iastore, 1) := by decide +kernel
theorem dX3_tell_82 : decode cX3_tell 82 = .ok (.iinc 4 1, 3) := by decide +kernel
theorem dX3_tell_85 : decode cX3_tell 85 = .ok (.goto 104, 3) := by decide +kernel
theorem dX3_tell_88 : decode cX3_tell 88 = .ok (.iload 6, 2) := by decide +kernel
theorem dX3_tell_90 : decode cX3_tell 90 = .ok (.iconst (-1), 1) := by decide +kernel
theorem dX3_tell_91 : decode cX3_tell 91 = .ok (.ixor, 1) := by decide +kernel
theorem dX3_tell_92 : decode cX3_tell 92 = .ok (.bipush 11, 2) := by decide +kernel
theorem dX3_tell_94 : decode cX3_tell 94 = .ok (.if_icmp .eq 12, 3) := by decide +kernel
theorem dX3_tell_97 : decode cX3_tell 97 = .ok (.iload 6, 2) := by decide +kernel
theorem dX3_tell_99 : decode cX3_tell 99 = .ok (.iconst (-1), 1) := by decide +kernel
theorem dX3_tell_100 : decode cX3_tell 100 = .ok (.ixor, 1) := by decide +kernel
theorem dX3_tell_101 : decode cX3_tell 101 = .ok (.bipush 23, 2) := by decide +kernel
theorem dX3_tell_103 : decode cX3_tell 103 = .ok (.if_icmp .ne 54, 3) := by decide +kernel
theorem dX3_tell_106 : decode cX3_tell 106 = .ok (.iload 4, 2) := by decide +kernel
theorem dX3_tell_108 : decode cX3_tell 108 = .ok (.iconst 1, 1) := by decide +kernel
theorem dX3_tell_109 : decode cX3_tell 109 = .ok (.if_icmp .lt 80, 3) := by decide +kernel
theorem dX3_tell_112 : decode cX3_tell 112 = .ok (.aload_n 3, 1) := by decide +kernel
theorem dX3_tell_113 : decode cX3_tell 113 = .ok (.iload 4, 2) := by decide +kernel
theorem dX3_tell_115 : decode cX3_tell 115 = .ok (.iconst 1, 1) := by decide +kernel
theorem dX3_tell_116 : decode cX3_tell 116 = .ok (.isub, 1) := by decide +kernel
theorem dX3_tell_117 : decode cX3_tell 117 = .ok (.iload 6, 2) := by decide +kernel
theorem dX3_tell_119 : decode cX3_tell 119 = .ok (.iconst (-1), 1) := by decide +kernel
theorem dX3_tell_120 : decode cX3_tell 120 = .ok (.ixor, 1) := by decide +kernel
theorem dX3_tell_121 : decode cX3_tell 121 = .ok (.bipush 23, 2) := by decide +kernel
theorem dX3_tell_123 : decode cX3_tell 123 = .ok (.if_icmp .ne 13, 3) := by decide +kernel
theorem dX3_tell_126 : decode cX3_tell 126 = .ok (.aload_n 3, 1) := by decide +kernel
theorem dX3_tell_127 : decode cX3_tell 127 = .ok (.iload 4, 2) := by decide +kernel
theorem dX3_tell_129 : decode cX3_tell 129 = .ok (.iconst 1, 1) := by decide +kernel
theorem dX3_tell_130 : decode cX3_tell 130 = .ok (.isub, 1) := by decide +kernel
theorem dX3_tell_131 : decode cX3_tell 131 = .ok (.iaload, 1) := by decide +kernel
theorem dX3_tell_132 : decode cX3_tell 132 = .ok (.ineg, 1) := by decide +kernel
theorem dX3_tell_133 : decode cX3_tell 133 = .ok (.goto 20, 3) := by decide +kernel
theorem dX3_tell_136 : decode cX3_tell 136 = .ok (.aload_n 3, 1) := by decide +kernel
theorem dX3_tell_137 : decode cX3_tell 137 = .ok (.iload 4, 2) := by decide +kernel
theorem dX3_tell_139 : decode cX3_tell 139 = .ok (.iconst 1, 1) := by decide +kernel
theorem dX3_tell_140 : decode cX3_tell 140 = .ok (.isub, 1) := by decide +kernel
theorem dX3_tell_141 : decode cX3_tell 141 = .ok (.iaload, 1) := by decide +kernel
theorem dX3_tell_142 : decode cX3_tell 142 = .ok (.ifCond .ne 7, 3) := by decide +kernel
theorem dX3_tell_145 : decode cX3_tell 145 = .ok (.iconst 1, 1) := by decide +kernel
theorem dX3_tell_146 : decode cX3_tell 146 = .ok (.goto 4, 3) := by decide +kernel
