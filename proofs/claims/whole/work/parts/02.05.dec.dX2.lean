theorem dX2_init_0 : decode cX2_init 0 = .ok (.aload_n 0, 1) := by decide +kernel
theorem dX2_init_1 : decode cX2_init 1 = .ok (.invokespecial 3, 3) := by decide +kernel
theorem dX2_init_4 : decode cX2_init 4 = .ok (.aload_n 0, 1) := by decide +kernel
theorem dX2_init_5 : decode cX2_init 5 = .ok (.iconst 0, 1) := by decide +kernel
theorem dX2_init_6 : decode cX2_init 6 = .ok (.putfield 9, 3) := by decide +kernel
theorem dX2_init_9 : decode cX2_init 9 = .ok (.aload_n 0, 1) := by decide +kernel
theorem dX2_init_10 : decode cX2_init 10 = .ok (.iconst 0, 1) := by decide +kernel
theorem dX2_init_11 : decode cX2_init 11 = .ok (.putfield 15, 3) := by decide +kernel
theorem dX2_init_14 : decode cX2_init 14 = .ok (.aload_n 0, 1) := by decide +kernel
theorem dX2_init_15 : decode cX2_init 15 = .ok (.bipush 55, 2) := by decide +kernel
theorem dX2_init_17 : decode cX2_init 17 = .ok (.newarray .int, 2) := by decide +kernel
theorem dX2_init_19 : decode cX2_init 19 = .ok (.putfield 18, 3) := by decide +kernel
theorem dX2_init_22 : decode cX2_init 22 = .ok (.aload_n 0, 1) := by decide +kernel
theorem dX2_init_23 : decode cX2_init 23 = .ok (.sipush 275, 3) := by decide +kernel
theorem dX2_init_26 : decode cX2_init 26 = .ok (.newarray .long, 2) := by decide +kernel
theorem dX2_init_28 : decode cX2_init 28 = .ok (.putfield 22, 3) := by decide +kernel
theorem dX2_init_31 : decode cX2_init 31 = .ok (.aload_n 0, 1) := by decide +kernel
theorem dX2_init_32 : decode cX2_init 32 = .ok (.iconst 1, 1) := by decide +kernel
theorem dX2_init_33 : decode cX2_init 33 = .ok (.putfield 26, 3) := by decide +kernel
theorem dX2_init_36 : decode cX2_init 36 = .ok (.aload_n 0, 1) := by decide +kernel
theorem dX2_init_37 : decode cX2_init 37 = .ok (.iconst (-1), 1) := by decide +kernel
theorem dX2_init_38 : decode cX2_init 38 = .ok (.putfield 30, 3) := by decide +kernel
theorem dX2_init_41 : decode cX2_init 41 = .ok (.return_, 1) := by decide +kernel
theorem dX2_restart_0 : decode cX2_restart 0 = .ok (.aload_n 0, 1) := by decide +kernel
theorem dX2_restart_1 : decode cX2_restart 1 = .ok (.iconst 0, 1) := by decide +kernel
theorem dX2_restart_2 : decode cX2_restart 2 = .ok (.putfield 9, 3) := by decide +kernel
theorem dX2_restart_5 : decode cX2_restart 5 = .ok (.aload_n 0, 1) := by decide +kernel
theorem dX2_restart_6 : decode cX2_restart 6 = .ok (.iconst 0, 1) := by decide +kernel
theorem dX2_restart_7 : decode cX2_restart 7 = .ok (.putfield 15, 3) := by decide +kernel
theorem dX2_restart_10 : decode cX2_restart 10 = .ok (.aload_n 0, 1) := by decide +kernel
theorem dX2_restart_11 : decode cX2_restart 11 = .ok (.getfield 18, 3) := by decide +kernel
theorem dX2_restart_14 : decode cX2_restart 14 = .ok (.iconst 0, 1) := by decide +kernel
theorem dX2_restart_15 : decode cX2_restart 15 = .ok (.invokestatic 33, 3) := by decide +kernel
theorem dX2_restart_18 : decode cX2_restart 18 = .ok (.aload_n 0, 1) := by decide +kernel
theorem dX2_restart_19 : decode cX2_restart 19 = .ok (.iconst 1, 1) := by decide +kernel
theorem dX2_restart_20 : decode cX2_restart 20 = .ok (.putfield 26, 3) := by decide +kernel
theorem dX2_restart_23 : decode cX2_restart 23 = .ok (.return_, 1) := by decide +kernel
theorem dX2_join_0 : decode cX2_join 0 = .ok (.aload_n 0, 1) := by decide +kernel
theorem dX2_join_1 : decode cX2_join 1 = .ok (.getfield 18, 3) := by decide +kernel
theorem dX2_join_4 : decode cX2_join 4 = .ok (.iload_n 1, 1) := by decide +kernel
theorem dX2_join_5 : decode cX2_join 5 = .ok (.iconst 5, 1) := by decide +kernel
theorem dX2_join_6 : decode cX2_join 6 = .ok (.imul, 1) := by decide +kernel
theorem dX2_join_7 : decode cX2_join 7 = .ok (.iload_n 2, 1) := by decide +kernel
theorem dX2_join_8 : decode cX2_join 8 = .ok (.iadd, 1) := by decide +kernel
theorem dX2_join_9 : decode cX2_join 9 = .ok (.dup2, 1) := by decide +kernel
theorem dX2_join_10 : decode cX2_join 10 = .ok (.iaload, 1) := by decide +kernel
theorem dX2_join_11 : decode cX2_join 11 = .ok (.iconst 1, 1) := by decide +kernel
theorem dX2_join_12 : decode cX2_join 12 = .ok (.iload_n 3, 1) := by decide +kernel
theorem dX2_join_13 : decode cX2_join 13 = .ok (.ishl, 1) := by decide +kernel
theorem dX2_join_14 : decode cX2_join 14 = .ok (.ior, 1) := by decide +kernel
theorem dX2_join_15 : decode cX2_join 15 = .ok (.iastore, 1) := by decide +kernel
theorem dX2_join_16 : decode cX2_join 16 = .ok (.aload_n 0, 1) := by decide +kernel
theorem dX2_join_17 : decode cX2_join 17 = .ok (.dup, 1) := by decide +kernel
theorem dX2_join_18 : decode cX2_join 18 = .ok (.getfield 9, 3) := by decide +kernel
theorem dX2_join_21 : decode cX2_join 21 = .ok (.iconst 1, 1) := by decide +kernel
theorem dX2_join_22 : decode cX2_join 22 = .ok (.iadd, 1) := by decide +kernel
theorem dX2_join_23 : decode cX2_join 23 = .ok (.putfield 9, 3) := by decide +kernel
theorem dX2_join_26 : decode cX2_join 26 = .ok (.aload_n 0, 1) := by decide +kernel
theorem dX2_join_27 : decode cX2_join 27 = .ok (.iconst 1, 1) := by decide +kernel
theorem dX2_join_28 : decode cX2_join 28 = .ok (.putfield 26, 3) := by decide +kernel
theorem dX2_join_31 : decode cX2_join 31 = .ok (.aload_n 0, 1) := by decide +kernel
theorem dX2_join_32 : decode cX2_join 32 = .ok (.getfield 9, 3) := by decide +kernel
theorem dX2_join_35 : decode cX2_join 35 = .ok (.ireturn, 1) := by decide +kernel
theorem dX2_mark_0 : decode cX2_mark 0 = .ok (.aload_n 0, 1) := by decide +kernel
theorem dX2_mark_1 : decode cX2_mark 1 = .ok (.iload_n 1, 1) := by decide +kernel
theorem dX2_mark_2 : decode cX2_mark 2 = .ok (.invokevirtual 39, 3) := by decide +kernel
theorem dX2_mark_5 : decode cX2_mark 5 = .ok (.istore_n 3, 1) := by decide +kernel
theorem dX2_mark_6 : decode cX2_mark 6 = .ok (.aload_n 0, 1) := by decide +kernel
theorem dX2_mark_7 : decode cX2_mark 7 = .ok (.iload_n 2, 1) := by decide +kernel
theorem dX2_mark_8 : decode cX2_mark 8 = .ok (.ifCond .eq 14, 3) := by decide +kernel
theorem dX2_mark_11 : decode cX2_mark 11 = .ok (.aload_n 0, 1) := by decide +kernel
theorem dX2_mark_12 : decode cX2_mark 12 = .ok (.getfield 15, 3) := by decide +kernel
theorem dX2_mark_15 : decode cX2_mark 15 = .ok (.iconst 1, 1) := by decide +kernel
theorem dX2_mark_16 : decode cX2_mark 16 = .ok (.iload_n 1, 1) := by decide +kernel
theorem dX2_mark_17 : decode cX2_mark 17 = .ok (.ishl, 1) := by decide +kernel
theorem dX2_mark_18 : decode cX2_mark 18 = .ok (.ior, 1) := by decide +kernel
theorem dX2_mark_19 : decode cX2_mark 19 = .ok (.goto 13, 3) := by decide +kernel
theorem dX2_mark_22 : decode cX2_mark 22 = .ok (.aload_n 0, 1) := by decide +kernel
theorem dX2_mark_23 : decode cX2_mark 23 = .ok (.getfield 15, 3) := by decide +kernel
theorem dX2_mark_26 : decode cX2_mark 26 = .ok (.iconst 1, 1) := by decide +kernel
theorem dX2_mark_27 : decode cX2_mark 27 = .ok (.iload_n 1, 1) := by decide +kernel
theorem dX2_mark_28 : decode cX2_mark 28 = .ok (.ishl, 1) := by decide +kernel
theorem dX2_mark_29 : decode cX2_mark 29 = .ok (.iconst (-1), 1) := by decide +kernel
theorem dX2_mark_30 : decode cX2_mark 30 = .ok (.ixor, 1) := by decide +kernel
theorem dX2_mark_31 : decode cX2_mark 31 = .ok (.iand, 1) := by decide +kernel
theorem dX2_mark_32 : decode cX2_mark 32 = .ok (.putfield 15, 3) := by decide +kernel
theorem dX2_mark_35 : decode cX2_mark 35 = .ok (.iload_n 3, 1) := by decide +kernel
theorem dX2_mark_36 : decode cX2_mark 36 = .ok (.ireturn, 1) := by decide +kernel
theorem dX2_isLast_0 : decode cX2_isLast 0 = .ok (.aload_n 0, 1) := by decide +kernel
theorem dX2_isLast_1 : decode cX2_isLast 1 = .ok (.getfield 15, 3) := by decide +kernel
theorem dX2_isLast_4 : decode cX2_isLast 4 = .ok (.iload_n 1, 1) := by decide +kernel
theorem dX2_isLast_5 : decode cX2_isLast 5 = .ok (.invokestatic 43, 3) := by decide +kernel
theorem dX2_isLast_8 : decode cX2_isLast 8 = .ok (.ireturn, 1) := by decide +kernel
theorem dX2_hasHop_0 : decode cX2_hasHop 0 = .ok (.aload_n 0, 1) := by decide +kernel
theorem dX2_hasHop_1 : decode cX2_hasHop 1 = .ok (.getfield 18, 3) := by decide +kernel
theorem dX2_hasHop_4 : decode cX2_hasHop 4 = .ok (.iload_n 1, 1) := by decide +kernel
theorem dX2_hasHop_5 : decode cX2_hasHop 5 = .ok (.iconst 5, 1) := by decide +kernel
theorem dX2_hasHop_6 : decode cX2_hasHop 6 = .ok (.imul, 1) := by decide +kernel
theorem dX2_hasHop_7 : decode cX2_hasHop 7 = .ok (.iload_n 2, 1) := by decide +kernel
theorem dX2_hasHop_8 : decode cX2_hasHop 8 = .ok (.iadd, 1) := by decide +kernel
theorem dX2_hasHop_9 : decode cX2_hasHop 9 = .ok (.iaload, 1) := by decide +kernel
theorem dX2_hasHop_10 : decode cX2_hasHop 10 = .ok (.iload_n 3, 1) := by decide +kernel
theorem dX2_hasHop_11 : decode cX2_hasHop 11 = .ok (.invokestatic 43, 3) := by decide +kernel
theorem dX2_hasHop_14 : decode cX2_hasHop 14 = .ok (.ireturn, 1) := by decide +kernel
theorem dX2_holds_0 : decode cX2_holds 0 = .ok (.iconst 1, 1) := by decide +kernel
theorem dX2_holds_1 : decode cX2_holds 1 = .ok (.aload_n 1, 1) := by decide +kernel
theorem dX2_holds_2 : decode cX2_holds 2 = .ok (.getfield 47, 3) := by decide +kernel
theorem dX2_holds_5 : decode cX2_holds 5 = .ok (.ishl, 1) := by decide +kernel
theorem dX2_holds_6 : decode cX2_holds 6 = .ok (.istore_n 2, 1) := by decide +kernel
theorem dX2_holds_7 : decode cX2_holds 7 = .ok (.aload_n 1, 1) := by decide +kernel
theorem dX2_holds_8 : decode cX2_holds 8 = .ok (.getfield 52, 3) := by decide +kernel
theorem dX2_holds_11 : decode cX2_holds 11 = .ok (.iconst 1, 1) := by decide +kernel
theorem dX2_holds_12 : decode cX2_holds 12 = .ok (.isub, 1) := by decide +kernel
theorem dX2_holds_13 : decode cX2_holds 13 = .ok (.istore_n 3, 1) := by decide +kernel
theorem dX2_holds_14 : decode cX2_holds 14 = .ok (.iload_n 3, 1) := by decide +kernel
theorem dX2_holds_15 : decode cX2_holds 15 = .ok (.ifCond .lt 23, 3) := by decide +kernel
theorem dX2_holds_18 : decode cX2_holds 18 = .ok (.aload_n 0, 1) := by decide +kernel
theorem dX2_holds_19 : decode cX2_holds 19 = .ok (.iload_n 2, 1) := by decide +kernel
theorem dX2_holds_20 : decode cX2_holds 20 = .ok (.aload_n 1, 1) := by decide +kernel
theorem dX2_holds_21 : decode cX2_holds 21 = .ok (.getfield 55, 3) := by decide +kernel
theorem dX2_holds_24 : decode cX2_holds 24 = .ok (.iload_n 3, 1) := by decide +kernel
theorem dX2_holds_25 : decode cX2_holds 25 = .ok (.iaload, 1) := by decide +kernel
theorem dX2_holds_26 : decode cX2_holds 26 = .ok (.invokevirtual 58, 3) := by decide +kernel
theorem dX2_holds_29 : decode cX2_holds 29 = .ok (.iconst 5, 1) := by decide +kernel
theorem dX2_holds_30 : decode cX2_holds 30 = .ok (.ishl, 1) := by decide +kernel
theorem dX2_holds_31 : decode cX2_holds 31 = .ok (.istore_n 2, 1) := by decide +kernel
theorem dX2_holds_32 : decode cX2_holds 32 = .ok (.iinc 3 (-1), 3) := by decide +kernel
theorem dX2_holds_35 : decode cX2_holds 35 = .ok (.goto (-21), 3) := by decide +kernel
theorem dX2_holds_38 : decode cX2_holds 38 = .ok (.iload_n 2, 1) := by decide +kernel
theorem dX2_holds_39 : decode cX2_holds 39 = .ok (.aload_n 0, 1) := by decide +kernel
theorem dX2_holds_40 : decode cX2_holds 40 = .ok (.getfield 15, 3) := by decide +kernel
theorem dX2_holds_43 : decode cX2_holds 43 = .ok (.iand, 1) := by decide +kernel
theorem dX2_holds_44 : decode cX2_holds 44 = .ok (.ifCond .eq 7, 3) := by decide +kernel
theorem dX2_holds_47 : decode cX2_holds 47 = .ok (.iconst 1, 1) := by decide +kernel
theorem dX2_holds_48 : decode cX2_holds 48 = .ok (.goto 4, 3) := by decide +kernel
theorem dX2_holds_51 : decode cX2_holds 51 = .ok (.iconst 0, 1) := by decide +kernel
theorem dX2_holds_52 : decode cX2_holds 52 = .ok (.ireturn, 1) := by decide +kernel
theorem dX2_allHops_0 : decode cX2_allHops 0 = .ok (.iconst 0, 1) := by decide +kernel
theorem dX2_allHops_1 : decode cX2_allHops 1 = .ok (.istore_n 3, 1) := by decide +kernel
theorem dX2_allHops_2 : decode cX2_allHops 2 = .ok (.iconst 0, 1) := by decide +kernel
theorem dX2_allHops_3 : decode cX2_allHops 3 = .ok (.istore 4, 2) := by decide +kernel
theorem dX2_allHops_5 : decode cX2_allHops 5 = .ok (.iload 4, 2) := by decide +kernel
theorem dX2_allHops_7 : decode cX2_allHops 7 = .ok (.bipush 11, 2) := by decide +kernel
theorem dX2_allHops_9 : decode cX2_allHops 9 = .ok (.if_icmp .ge 32, 3) := by decide +kernel
theorem dX2_allHops_12 : decode cX2_allHops 12 = .ok (.iload_n 1, 1) := by decide +kernel
theorem dX2_allHops_13 : decode cX2_allHops 13 = .ok (.iload 4, 2) := by decide +kernel
theorem dX2_allHops_15 : decode cX2_allHops 15 = .ok (.invokestatic 43, 3) := by decide +kernel
theorem dX2_allHops_18 : decode cX2_allHops 18 = .ok (.ifCond .eq 17, 3) := by decide +kernel
theorem dX2_allHops_21 : decode cX2_allHops 21 = .ok (.iload_n 3, 1) := by decide +kernel
theorem dX2_allHops_22 : decode cX2_allHops 22 = .ok (.aload_n 0, 1) := by decide +kernel
theorem dX2_allHops_23 : decode cX2_allHops 23 = .ok (.getfield 18, 3) := by decide +kernel
theorem dX2_allHops_26 : decode cX2_allHops 26 = .ok (.iload 4, 2) := by decide +kernel
theorem dX2_allHops_28 : decode cX2_allHops 28 = .ok (.iconst 5, 1) := by decide +kernel
theorem dX2_allHops_29 : decode cX2_allHops 29 = .ok (.imul, 1) := by decide +kernel
theorem dX2_allHops_30 : decode cX2_allHops 30 = .ok (.iload_n 2, 1) := by decide +kernel
theorem dX2_allHops_31 : decode cX2_allHops 31 = .ok (.iadd, 1) := by decide +kernel
theorem dX2_allHops_32 : decode cX2_allHops 32 = .ok (.iaload, 1) := by decide +kernel
theorem dX2_allHops_33 : decode cX2_allHops 33 = .ok (.ior, 1) := by decide +kernel
theorem dX2_allHops_34 : decode cX2_allHops 34 = .ok (.istore_n 3, 1) := by decide +kernel
theorem dX2_allHops_35 : decode cX2_allHops 35 = .ok (.iinc 4 1, 3) := by decide +kernel
theorem dX2_allHops_38 : decode cX2_allHops 38 = .ok (.goto (-33), 3) := by decide +kernel
theorem dX2_allHops_41 : decode cX2_allHops 41 = .ok (.iload_n 3, 1) := by decide +kernel
theorem dX2_allHops_42 : decode cX2_allHops 42 = .ok (.ireturn, 1) := by decide +kernel
theorem dX2_renew_0 : decode cX2_renew 0 = .ok (.aload_n 0, 1) := by decide +kernel
theorem dX2_renew_1 : decode cX2_renew 1 = .ok (.getfield 26, 3) := by decide +kernel
theorem dX2_renew_4 : decode cX2_renew 4 = .ok (.ifCond .ne 15, 3) := by decide +kernel
theorem dX2_renew_7 : decode cX2_renew 7 = .ok (.aload_n 0, 1) := by decide +kernel
theorem dX2_renew_8 : decode cX2_renew 8 = .ok (.getfield 30, 3) := by decide +kernel
theorem dX2_renew_11 : decode cX2_renew 11 = .ok (.aload_n 1, 1) := by decide +kernel
theorem dX2_renew_12 : decode cX2_renew 12 = .ok (.getfield 62, 3) := by decide +kernel
theorem dX2_renew_15 : decode cX2_renew 15 = .ok (.if_icmp .ne 4, 3) := by decide +kernel
theorem dX2_renew_18 : decode cX2_renew 18 = .ok (.return_, 1) := by decide +kernel
theorem dX2_renew_19 : decode cX2_renew 19 = .ok (.aload_n 0, 1) := by decide +kernel
theorem dX2_renew_20 : decode cX2_renew 20 = .ok (.iconst 0, 1) := by decide +kernel
theorem dX2_renew_21 : decode cX2_renew 21 = .ok (.putfield 26, 3) := by decide +kernel
theorem dX2_renew_24 : decode cX2_renew 24 = .ok (.aload_n 0, 1) := by decide +kernel
theorem dX2_renew_25 : decode cX2_renew 25 = .ok (.aload_n 1, 1) := by decide +kernel
theorem dX2_renew_26 : decode cX2_renew 26 = .ok (.getfield 62, 3) := by decide +kernel
theorem dX2_renew_29 : decode cX2_renew 29 = .ok (.putfield 30, 3) := by decide +kernel
theorem dX2_renew_32 : decode cX2_renew 32 = .ok (.aload_n 0, 1) := by decide +kernel
theorem dX2_renew_33 : decode cX2_renew 33 = .ok (.aload_n 2, 1) := by decide +kernel
theorem dX2_renew_34 : decode cX2_renew 34 = .ok (.invokevirtual 67, 3) := by decide +kernel
theorem dX2_renew_37 : decode cX2_renew 37 = .ok (.iconst 1, 1) := by decide +kernel
theorem dX2_renew_38 : decode cX2_renew 38 = .ok (.istore_n 3, 1) := by decide +kernel
theorem dX2_renew_39 : decode cX2_renew 39 = .ok (.iconst 0, 1) := by decide +kernel
theorem dX2_renew_40 : decode cX2_renew 40 = .ok (.istore 4, 2) := by decide +kernel
theorem dX2_renew_42 : decode cX2_renew 42 = .ok (.iload_n 3, 1) := by decide +kernel
theorem dX2_renew_43 : decode cX2_renew 43 = .ok (.ifCond .eq 59, 3) := by decide +kernel
theorem dX2_renew_46 : decode cX2_renew 46 = .ok (.iload 4, 2) := by decide +kernel
theorem dX2_renew_48 : decode cX2_renew 48 = .ok (.aload_n 0, 1) := by decide +kernel
theorem dX2_renew_49 : decode cX2_renew 49 = .ok (.getfield 22, 3) := by decide +kernel
theorem dX2_renew_52 : decode cX2_renew 52 = .ok (.arraylength, 1) := by decide +kernel
theorem dX2_renew_53 : decode cX2_renew 53 = .ok (.if_icmp .gt 49, 3) := by decide +kernel
theorem dX2_renew_56 : decode cX2_renew 56 = .ok (.iconst 0, 1) := by decide +kernel
theorem dX2_renew_57 : decode cX2_renew 57 = .ok (.istore_n 3, 1) := by decide +kernel
theorem dX2_renew_58 : decode cX2_renew 58 = .ok (.iconst 0, 1) := by decide +kernel
theorem dX2_renew_59 : decode cX2_renew 59 = .ok (.istore 5, 2) := by decide +kernel
theorem dX2_renew_61 : decode cX2_renew 61 = .ok (.iload 5, 2) := by decide +kernel
theorem dX2_renew_63 : decode cX2_renew 63 = .ok (.aload_n 1, 1) := by decide +kernel
theorem dX2_renew_64 : decode cX2_renew 64 = .ok (.getfield 71, 3) := by decide +kernel
theorem dX2_renew_67 : decode cX2_renew 67 = .ok (.if_icmp .ge 29, 3) := by decide +kernel
theorem dX2_renew_70 : decode cX2_renew 70 = .ok (.aload_n 0, 1) := by decide +kernel
theorem dX2_renew_71 : decode cX2_renew 71 = .ok (.aload_n 1, 1) := by decide +kernel
theorem dX2_renew_72 : decode cX2_renew 72 = .ok (.iload 5, 2) := by decide +kernel
theorem dX2_renew_74 : decode cX2_renew 74 = .ok (.invokevirtual 74, 3) := by decide +kernel
theorem dX2_renew_77 : decode cX2_renew 77 = .ok (.ifCond .ne 7, 3) := by decide +kernel
theorem dX2_renew_80 : decode cX2_renew 80 = .ok (.iload_n 3, 1) := by decide +kernel
theorem dX2_renew_81 : decode cX2_renew 81 = .ok (.ifCond .eq 7, 3) := by decide +kernel
theorem dX2_renew_84 : decode cX2_renew 84 = .ok (.iconst 1, 1) := by decide +kernel
theorem dX2_renew_85 : decode cX2_renew 85 = .ok (.goto 4, 3) := by decide +kernel
theorem dX2_renew_88 : decode cX2_renew 88 = .ok (.iconst 0, 1) := by decide +kernel
theorem dX2_renew_89 : decode cX2_renew 89 = .ok (.istore_n 3, 1) := by decide +kernel
theorem dX2_renew_90 : decode cX2_renew 90 = .ok (.iinc 5 1, 3) := by decide +kernel
theorem dX2_renew_93 : decode cX2_renew 93 = .ok (.goto (-32), 3) := by decide +kernel
theorem dX2_renew_96 : decode cX2_renew 96 = .ok (.iinc 4 1, 3) := by decide +kernel
theorem dX2_renew_99 : decode cX2_renew 99 = .ok (.goto (-57), 3) := by decide +kernel
theorem dX2_renew_102 : decode cX2_renew 102 = .ok (.return_, 1) := by decide +kernel
theorem dX2_startFrom_0 : decode cX2_startFrom 0 = .ok (.iconst 0, 1) := by decide +kernel
theorem dX2_startFrom_1 : decode cX2_startFrom 1 = .ok (.istore_n 2, 1) := by decide +kernel
theorem dX2_startFrom_2 : decode cX2_startFrom 2 = .ok (.iload_n 2, 1) := by decide +kernel
theorem dX2_startFrom_3 : decode cX2_startFrom 3 = .ok (.bipush 25, 2) := by decide +kernel
theorem dX2_startFrom_5 : decode cX2_startFrom 5 = .ok (.if_icmp .ge 95, 3) := by decide +kernel
theorem dX2_startFrom_8 : decode cX2_startFrom 8 = .ok (.iconst 0, 1) := by decide +kernel
theorem dX2_startFrom_9 : decode cX2_startFrom 9 = .ok (.istore_n 3, 1) := by decide +kernel
theorem dX2_startFrom_10 : decode cX2_startFrom 10 = .ok (.iload_n 3, 1) := by decide +kernel
theorem dX2_startFrom_11 : decode cX2_startFrom 11 = .ok (.iconst 5, 1) := by decide +kernel
theorem dX2_startFrom_12 : decode cX2_startFrom 12 = .ok (.if_icmp .ge 30, 3) := by decide +kernel
theorem dX2_startFrom_15 : decode cX2_startFrom 15 = .ok (.aload_n 0, 1) := by decide +kernel
theorem dX2_startFrom_16 : decode cX2_startFrom 16 = .ok (.getfield 22, 3) := by decide +kernel
theorem dX2_startFrom_19 : decode cX2_startFrom 19 = .ok (.iload_n 2, 1) := by decide +kernel
theorem dX2_startFrom_20 : decode cX2_startFrom 20 = .ok (.bipush 11, 2) := by decide +kernel
theorem dX2_startFrom_22 : decode cX2_startFrom 22 = .ok (.imul, 1) := by decide +kernel
theorem dX2_startFrom_23 : decode cX2_startFrom 23 = .ok (.iload_n 3, 1) := by decide +kernel
theorem dX2_startFrom_24 : decode cX2_startFrom 24 = .ok (.iadd, 1) := by decide +kernel
theorem dX2_startFrom_25 : decode cX2_startFrom 25 = .ok (.aload_n 1, 1) := by decide +kernel
theorem dX2_startFrom_26 : decode cX2_startFrom 26 = .ok (.getfield 78, 3) := by decide +kernel
theorem dX2_startFrom_29 : decode cX2_startFrom 29 = .ok (.iload_n 2, 1) := by decide +kernel
theorem dX2_startFrom_30 : decode cX2_startFrom 30 = .ok (.iconst 5, 1) := by decide +kernel
theorem dX2_startFrom_31 : decode cX2_startFrom 31 = .ok (.imul, 1) := by decide +kernel
theorem dX2_startFrom_32 : decode cX2_startFrom 32 = .ok (.iload_n 3, 1) := by decide +kernel
theorem dX2_startFrom_33 : decode cX2_startFrom 33 = .ok (.iadd, 1) := by decide +kernel
theorem dX2_startFrom_34 : decode cX2_startFrom 34 = .ok (.laload, 1) := by decide +kernel
theorem dX2_startFrom_35 : decode cX2_startFrom 35 = .ok (.lastore, 1) := by decide +kernel
theorem dX2_startFrom_36 : decode cX2_startFrom 36 = .ok (.iinc 3 1, 3) := by decide +kernel
theorem dX2_startFrom_39 : decode cX2_startFrom 39 = .ok (.goto (-29), 3) := by decide +kernel
theorem dX2_startFrom_42 : decode cX2_startFrom 42 = .ok (.iconst 0, 1) := by decide +kernel
theorem dX2_startFrom_43 : decode cX2_startFrom 43 = .ok (.istore_n 3, 1) := by decide +kernel
theorem dX2_startFrom_44 : decode cX2_startFrom 44 = .ok (.iload_n 3, 1) := by decide +kernel
theorem dX2_startFrom_45 : decode cX2_startFrom 45 = .ok (.bipush 6, 2) := by decide +kernel
theorem dX2_startFrom_47 : decode cX2_startFrom 47 = .ok (.if_icmp .ge 47, 3) := by decide +kernel
theorem dX2_startFrom_50 : decode cX2_startFrom 50 = .ok (.aload_n 0, 1) := by decide +kernel
theorem dX2_startFrom_51 : decode cX2_startFrom 51 = .ok (.iload_n 2, 1) := by decide +kernel
theorem dX2_startFrom_52 : decode cX2_startFrom 52 = .ok (.iconst 5, 1) := by decide +kernel
theorem dX2_startFrom_53 : decode cX2_startFrom 53 = .ok (.idiv, 1) := by decide +kernel
theorem dX2_startFrom_54 : decode cX2_startFrom 54 = .ok (.iload_n 2, 1) := by decide +kernel
theorem dX2_startFrom_55 : decode cX2_startFrom 55 = .ok (.iconst 5, 1) := by decide +kernel
theorem dX2_startFrom_56 : decode cX2_startFrom 56 = .ok (.irem, 1) := by decide +kernel
theorem dX2_startFrom_57 : decode cX2_startFrom 57 = .ok (.iload_n 3, 1) := by decide +kernel
theorem dX2_startFrom_58 : decode cX2_startFrom 58 = .ok (.invokevirtual 83, 3) := by decide +kernel
theorem dX2_startFrom_61 : decode cX2_startFrom 61 = .ok (.istore 4, 2) := by decide +kernel
theorem dX2_startFrom_63 : decode cX2_startFrom 63 = .ok (.aload_n 0, 1) := by decide +kernel
theorem dX2_startFrom_64 : decode cX2_startFrom 64 = .ok (.getfield 22, 3) := by decide +kernel
theorem dX2_startFrom_67 : decode cX2_startFrom 67 = .ok (.iload_n 2, 1) := by decide +kernel
theorem dX2_startFrom_68 : decode cX2_startFrom 68 = .ok (.bipush 11, 2) := by decide +kernel
theorem dX2_startFrom_70 : decode cX2_startFrom 70 = .ok (.imul, 1) := by decide +kernel
theorem dX2_startFrom_71 : decode cX2_startFrom 71 = .ok (.iconst 5, 1) := by decide +kernel
theorem dX2_startFrom_72 : decode cX2_startFrom 72 = .ok (.iadd, 1) := by decide +kernel
theorem dX2_startFrom_73 : decode cX2_startFrom 73 = .ok (.iload_n 3, 1) := by decide +kernel
theorem dX2_startFrom_74 : decode cX2_startFrom 74 = .ok (.iadd, 1) := by decide +kernel
theorem dX2_startFrom_75 : decode cX2_startFrom 75 = .ok (.iload 4, 2) := by decide +kernel
theorem dX2_startFrom_77 : decode cX2_startFrom 77 = .ok (.ifCond .eq 7, 3) := by decide +kernel
theorem dX2_startFrom_80 : decode cX2_startFrom 80 = .ok (.lconst 0, 1) := by decide +kernel
theorem dX2_startFrom_81 : decode cX2_startFrom 81 = .ok (.goto 6, 3) := by decide +kernel
theorem dX2_startFrom_84 : decode cX2_startFrom 84 = .ok (.ldc2_w 87, 3) := by decide +kernel
theorem dX2_startFrom_87 : decode cX2_startFrom 87 = .ok (.lastore, 1) := by decide +kernel
theorem dX2_startFrom_88 : decode cX2_startFrom 88 = .ok (.iinc 3 1, 3) := by decide +kernel
theorem dX2_startFrom_91 : decode cX2_startFrom 91 = .ok (.goto (-47), 3) := by decide +kernel
theorem dX2_startFrom_94 : decode cX2_startFrom 94 = .ok (.iinc 2 1, 3) := by decide +kernel
theorem dX2_startFrom_97 : decode cX2_startFrom 97 = .ok (.goto (-95), 3) := by decide +kernel
theorem dX2_startFrom_100 : decode cX2_startFrom 100 = .ok (.return_, 1) := by decide +kernel
theorem dX2_lowerBy_0 : decode cX2_lowerBy 0 = .ok (.aload_n 1, 1) := by decide +kernel
theorem dX2_lowerBy_1 : decode cX2_lowerBy 1 = .ok (.getfield 89, 3) := by decide +kernel
theorem dX2_lowerBy_4 : decode cX2_lowerBy 4 = .ok (.iload_n 2, 1) := by decide +kernel
theorem dX2_lowerBy_5 : decode cX2_lowerBy 5 = .ok (.iaload, 1) := by decide +kernel
theorem dX2_lowerBy_6 : decode cX2_lowerBy 6 = .ok (.iconst (-1), 1) := by decide +kernel
theorem dX2_lowerBy_7 : decode cX2_lowerBy 7 = .ok (.if_icmp .ne 5, 3) := by decide +kernel
theorem dX2_lowerBy_10 : decode cX2_lowerBy 10 = .ok (.iconst 0, 1) := by decide +kernel
theorem dX2_lowerBy_11 : decode cX2_lowerBy 11 = .ok (.ireturn, 1) := by decide +kernel
theorem dX2_lowerBy_12 : decode cX2_lowerBy 12 = .ok (.aload_n 1, 1) := by decide +kernel
theorem dX2_lowerBy_13 : decode cX2_lowerBy 13 = .ok (.getfield 92, 3) := by decide +kernel
theorem dX2_lowerBy_16 : decode cX2_lowerBy 16 = .ok (.iload_n 2, 1) := by decide +kernel
theorem dX2_lowerBy_17 : decode cX2_lowerBy 17 = .ok (.iaload, 1) := by decide +kernel
theorem dX2_lowerBy_18 : decode cX2_lowerBy 18 = .ok (.aload_n 1, 1) := by decide +kernel
theorem dX2_lowerBy_19 : decode cX2_lowerBy 19 = .ok (.getfield 89, 3) := by decide +kernel
theorem dX2_lowerBy_22 : decode cX2_lowerBy 22 = .ok (.iload_n 2, 1) := by decide +kernel
theorem dX2_lowerBy_23 : decode cX2_lowerBy 23 = .ok (.iaload, 1) := by decide +kernel
theorem dX2_lowerBy_24 : decode cX2_lowerBy 24 = .ok (.invokestatic 95, 3) := by decide +kernel
theorem dX2_lowerBy_27 : decode cX2_lowerBy 27 = .ok (.bipush 11, 2) := by decide +kernel
theorem dX2_lowerBy_29 : decode cX2_lowerBy 29 = .ok (.imul, 1) := by decide +kernel
theorem dX2_lowerBy_30 : decode cX2_lowerBy 30 = .ok (.istore_n 3, 1) := by decide +kernel
theorem dX2_lowerBy_31 : decode cX2_lowerBy 31 = .ok (.iconst 0, 1) := by decide +kernel
theorem dX2_lowerBy_32 : decode cX2_lowerBy 32 = .ok (.istore 4, 2) := by decide +kernel
theorem dX2_lowerBy_34 : decode cX2_lowerBy 34 = .ok (.iconst 0, 1) := by decide +kernel
theorem dX2_lowerBy_35 : decode cX2_lowerBy 35 = .ok (.istore 5, 2) := by decide +kernel
theorem dX2_lowerBy_37 : decode cX2_lowerBy 37 = .ok (.iload 5, 2) := by decide +kernel
theorem dX2_lowerBy_39 : decode cX2_lowerBy 39 = .ok (.bipush 11, 2) := by decide +kernel
theorem dX2_lowerBy_41 : decode cX2_lowerBy 41 = .ok (.if_icmp .ge 99, 3) := by decide +kernel
theorem dX2_lowerBy_44 : decode cX2_lowerBy 44 = .ok (.lconst 1, 1) := by decide +kernel
theorem dX2_lowerBy_45 : decode cX2_lowerBy 45 = .ok (.aload_n 0, 1) := by decide +kernel
theorem dX2_lowerBy_46 : decode cX2_lowerBy 46 = .ok (.getfield 22, 3) := by decide +kernel
theorem dX2_lowerBy_49 : decode cX2_lowerBy 49 = .ok (.iload_n 3, 1) := by decide +kernel
theorem dX2_lowerBy_50 : decode cX2_lowerBy 50 = .ok (.iload 5, 2) := by decide +kernel
theorem dX2_lowerBy_52 : decode cX2_lowerBy 52 = .ok (.iadd, 1) := by decide +kernel
theorem dX2_lowerBy_53 : decode cX2_lowerBy 53 = .ok (.laload, 1) := by decide +kernel
theorem dX2_lowerBy_54 : decode cX2_lowerBy 54 = .ok (.invokestatic 98, 3) := by decide +kernel
theorem dX2_lowerBy_57 : decode cX2_lowerBy 57 = .ok (.lstore 6, 2) := by decide +kernel
theorem dX2_lowerBy_59 : decode cX2_lowerBy 59 = .ok (.lload 6, 2) := by decide +kernel
theorem dX2_lowerBy_61 : decode cX2_lowerBy 61 = .ok (.ldc2_w 87, 3) := by decide +kernel
theorem dX2_lowerBy_64 : decode cX2_lowerBy 64 = .ok (.lcmp, 1) := by decide +kernel
theorem dX2_lowerBy_65 : decode cX2_lowerBy 65 = .ok (.ifCond .eq 69, 3) := by decide +kernel
theorem dX2_lowerBy_68 : decode cX2_lowerBy 68 = .ok (.aload_n 1, 1) := by decide +kernel
theorem dX2_lowerBy_69 : decode cX2_lowerBy 69 = .ok (.getfield 102, 3) := by decide +kernel
theorem dX2_lowerBy_72 : decode cX2_lowerBy 72 = .ok (.iload_n 2, 1) := by decide +kernel
theorem dX2_lowerBy_73 : decode cX2_lowerBy 73 = .ok (.iaload, 1) := by decide +kernel
theorem dX2_lowerBy_74 : decode cX2_lowerBy 74 = .ok (.iconst (-1), 1) := by decide +kernel
theorem dX2_lowerBy_75 : decode cX2_lowerBy 75 = .ok (.if_icmp .ne 20, 3) := by decide +kernel
theorem dX2_lowerBy_78 : decode cX2_lowerBy 78 = .ok (.aload_n 0, 1) := by decide +kernel
theorem dX2_lowerBy_79 : decode cX2_lowerBy 79 = .ok (.aload_n 1, 1) := by decide +kernel
theorem dX2_lowerBy_80 : decode cX2_lowerBy 80 = .ok (.getfield 105, 3) := by decide +kernel
theorem dX2_lowerBy_83 : decode cX2_lowerBy 83 = .ok (.iload_n 2, 1) := by decide +kernel
theorem dX2_lowerBy_84 : decode cX2_lowerBy 84 = .ok (.iaload, 1) := by decide +kernel
theorem dX2_lowerBy_85 : decode cX2_lowerBy 85 = .ok (.iload 5, 2) := by decide +kernel
theorem dX2_lowerBy_87 : decode cX2_lowerBy 87 = .ok (.lload 6, 2) := by decide +kernel
theorem dX2_lowerBy_89 : decode cX2_lowerBy 89 = .ok (.invokevirtual 108, 3) := by decide +kernel
theorem dX2_lowerBy_92 : decode cX2_lowerBy 92 = .ok (.goto 23, 3) := by decide +kernel
theorem dX2_lowerBy_95 : decode cX2_lowerBy 95 = .ok (.aload_n 0, 1) := by decide +kernel
theorem dX2_lowerBy_96 : decode cX2_lowerBy 96 = .ok (.aload_n 1, 1) := by decide +kernel
theorem dX2_lowerBy_97 : decode cX2_lowerBy 97 = .ok (.getfield 105, 3) := by decide +kernel
theorem dX2_lowerBy_100 : decode cX2_lowerBy 100 = .ok (.iload_n 2, 1) := by decide +kernel
theorem dX2_lowerBy_101 : decode cX2_lowerBy 101 = .ok (.iaload, 1) := by decide +kernel
theorem dX2_lowerBy_102 : decode cX2_lowerBy 102 = .ok (.lload 6, 2) := by decide +kernel
theorem dX2_lowerBy_104 : decode cX2_lowerBy 104 = .ok (.iload 5, 2) := by decide +kernel
theorem dX2_lowerBy_106 : decode cX2_lowerBy 106 = .ok (.aload_n 1, 1) := by decide +kernel
theorem dX2_lowerBy_107 : decode cX2_lowerBy 107 = .ok (.getfield 102, 3) := by decide +kernel
theorem dX2_lowerBy_110 : decode cX2_lowerBy 110 = .ok (.iload_n 2, 1) := by decide +kernel
theorem dX2_lowerBy_111 : decode cX2_lowerBy 111 = .ok (.iaload, 1) := by decide +kernel
theorem dX2_lowerBy_112 : decode cX2_lowerBy 112 = .ok (.invokevirtual 112, 3) := by decide +kernel
theorem dX2_lowerBy_115 : decode cX2_lowerBy 115 = .ok (.istore 8, 2) := by decide +kernel
theorem dX2_lowerBy_117 : decode cX2_lowerBy 117 = .ok (.iload 8, 2) := by decide +kernel
theorem dX2_lowerBy_119 : decode cX2_lowerBy 119 = .ok (.ifCond .ne 8, 3) := by decide +kernel
theorem dX2_lowerBy_122 : decode cX2_lowerBy 122 = .ok (.iload 4, 2) := by decide +kernel
theorem dX2_lowerBy_124 : decode cX2_lowerBy 124 = .ok (.ifCond .eq 7, 3) := by decide +kernel
theorem dX2_lowerBy_127 : decode cX2_lowerBy 127 = .ok (.iconst 1, 1) := by decide +kernel
theorem dX2_lowerBy_128 : decode cX2_lowerBy 128 = .ok (.goto 4, 3) := by decide +kernel
theorem dX2_lowerBy_131 : decode cX2_lowerBy 131 = .ok (.iconst 0, 1) := by decide +kernel
theorem dX2_lowerBy_132 : decode cX2_lowerBy 132 = .ok (.istore 4, 2) := by decide +kernel
theorem dX2_lowerBy_134 : decode cX2_lowerBy 134 = .ok (.iinc 5 1, 3) := by decide +kernel
theorem dX2_lowerBy_137 : decode cX2_lowerBy 137 = .ok (.goto (-100), 3) := by decide +kernel
theorem dX2_lowerBy_140 : decode cX2_lowerBy 140 = .ok (.iload 4, 2) := by decide +kernel
theorem dX2_lowerBy_142 : decode cX2_lowerBy 142 = .ok (.ireturn, 1) := by decide +kernel
theorem dX2_lowerRow_0 : decode cX2_lowerRow 0 = .ok (.iconst 0, 1) := by decide +kernel
theorem dX2_lowerRow_1 : decode cX2_lowerRow 1 = .ok (.istore 6, 2) := by decide +kernel
theorem dX2_lowerRow_3 : decode cX2_lowerRow 3 = .ok (.iconst 5, 1) := by decide +kernel
theorem dX2_lowerRow_4 : decode cX2_lowerRow 4 = .ok (.istore 7, 2) := by decide +kernel
theorem dX2_lowerRow_6 : decode cX2_lowerRow 6 = .ok (.iload 7, 2) := by decide +kernel
theorem dX2_lowerRow_8 : decode cX2_lowerRow 8 = .ok (.bipush 11, 2) := by decide +kernel
theorem dX2_lowerRow_10 : decode cX2_lowerRow 10 = .ok (.if_icmp .ge 45, 3) := by decide +kernel
theorem dX2_lowerRow_13 : decode cX2_lowerRow 13 = .ok (.aload_n 0, 1) := by decide +kernel
theorem dX2_lowerRow_14 : decode cX2_lowerRow 14 = .ok (.iload_n 1, 1) := by decide +kernel
theorem dX2_lowerRow_15 : decode cX2_lowerRow 15 = .ok (.iload 7, 2) := by decide +kernel
theorem dX2_lowerRow_17 : decode cX2_lowerRow 17 = .ok (.lload_n 2, 1) := by decide +kernel
theorem dX2_lowerRow_18 : decode cX2_lowerRow 18 = .ok (.aload_n 0, 1) := by decide +kernel
theorem dX2_lowerRow_19 : decode cX2_lowerRow 19 = .ok (.iload 4, 2) := by decide +kernel
theorem dX2_lowerRow_21 : decode cX2_lowerRow 21 = .ok (.iload 5, 2) := by decide +kernel
theorem dX2_lowerRow_23 : decode cX2_lowerRow 23 = .ok (.iload 7, 2) := by decide +kernel
theorem dX2_lowerRow_25 : decode cX2_lowerRow 25 = .ok (.invokevirtual 116, 3) := by decide +kernel
theorem dX2_lowerRow_28 : decode cX2_lowerRow 28 = .ok (.invokestatic 98, 3) := by decide +kernel
theorem dX2_lowerRow_31 : decode cX2_lowerRow 31 = .ok (.invokevirtual 108, 3) := by decide +kernel
theorem dX2_lowerRow_34 : decode cX2_lowerRow 34 = .ok (.ifCond .ne 8, 3) := by decide +kernel
theorem dX2_lowerRow_37 : decode cX2_lowerRow 37 = .ok (.iload 6, 2) := by decide +kernel
theorem dX2_lowerRow_39 : decode cX2_lowerRow 39 = .ok (.ifCond .eq 7, 3) := by decide +kernel
theorem dX2_lowerRow_42 : decode cX2_lowerRow 42 = .ok (.iconst 1, 1) := by decide +kernel
theorem dX2_lowerRow_43 : decode cX2_lowerRow 43 = .ok (.goto 4, 3) := by decide +kernel
theorem dX2_lowerRow_46 : decode cX2_lowerRow 46 = .ok (.iconst 0, 1) := by decide +kernel
theorem dX2_lowerRow_47 : decode cX2_lowerRow 47 = .ok (.istore 6, 2) := by decide +kernel
theorem dX2_lowerRow_49 : decode cX2_lowerRow 49 = .ok (.iinc 7 1, 3) := by decide +kernel
theorem dX2_lowerRow_52 : decode cX2_lowerRow 52 = .ok (.goto (-46), 3) := by decide +kernel
theorem dX2_lowerRow_55 : decode cX2_lowerRow 55 = .ok (.iload 6, 2) := by decide +kernel
theorem dX2_lowerRow_57 : decode cX2_lowerRow 57 = .ok (.ireturn, 1) := by decide +kernel
theorem dX2_lower_0 : decode cX2_lower 0 = .ok (.lload_n 3, 1) := by decide +kernel
theorem dX2_lower_1 : decode cX2_lower 1 = .ok (.aload_n 0, 1) := by decide +kernel
theorem dX2_lower_2 : decode cX2_lower 2 = .ok (.getfield 22, 3) := by decide +kernel
theorem dX2_lower_5 : decode cX2_lower 5 = .ok (.iload_n 1, 1) := by decide +kernel
theorem dX2_lower_6 : decode cX2_lower 6 = .ok (.bipush 11, 2) := by decide +kernel
theorem dX2_lower_8 : decode cX2_lower 8 = .ok (.imul, 1) := by decide +kernel
theorem dX2_lower_9 : decode cX2_lower 9 = .ok (.iload_n 2, 1) := by decide +kernel
theorem dX2_lower_10 : decode cX2_lower 10 = .ok (.iadd, 1) := by decide +kernel
theorem dX2_lower_11 : decode cX2_lower 11 = .ok (.laload, 1) := by decide +kernel
theorem dX2_lower_12 : decode cX2_lower 12 = .ok (.lcmp, 1) := by decide +kernel
theorem dX2_lower_13 : decode cX2_lower 13 = .ok (.ifCond .lt 5, 3) := by decide +kernel
theorem dX2_lower_16 : decode cX2_lower 16 = .ok (.iconst 0, 1) := by decide +kernel
theorem dX2_lower_17 : decode cX2_lower 17 = .ok (.ireturn, 1) := by decide +kernel
theorem dX2_lower_18 : decode cX2_lower 18 = .ok (.aload_n 0, 1) := by decide +kernel
theorem dX2_lower_19 : decode cX2_lower 19 = .ok (.getfield 22, 3) := by decide +kernel
theorem dX2_lower_22 : decode cX2_lower 22 = .ok (.iload_n 1, 1) := by decide +kernel
theorem dX2_lower_23 : decode cX2_lower 23 = .ok (.bipush 11, 2) := by decide +kernel
theorem dX2_lower_25 : decode cX2_lower 25 = .ok (.imul, 1) := by decide +kernel
theorem dX2_lower_26 : decode cX2_lower 26 = .ok (.iload_n 2, 1) := by decide +kernel
theorem dX2_lower_27 : decode cX2_lower 27 = .ok (.iadd, 1) := by decide +kernel
theorem dX2_lower_28 : decode cX2_lower 28 = .ok (.lload_n 3, 1) := by decide +kernel
theorem dX2_lower_29 : decode cX2_lower 29 = .ok (.lastore, 1) := by decide +kernel
theorem dX2_lower_30 : decode cX2_lower 30 = .ok (.iconst 1, 1) := by decide +kernel
theorem dX2_lower_31 : decode cX2_lower 31 = .ok (.ireturn, 1) := by decide +kernel
theorem dX2_through_0 : decode cX2_through 0 = .ok (.iload_n 1, 1) := by decide +kernel
theorem dX2_through_1 : decode cX2_through 1 = .ok (.iconst 5, 1) := by decide +kernel
theorem dX2_through_2 : decode cX2_through 2 = .ok (.if_icmp .ge 19, 3) := by decide +kernel
theorem dX2_through_5 : decode cX2_through 5 = .ok (.aload_n 0, 1) := by decide +kernel
theorem dX2_through_6 : decode cX2_through 6 = .ok (.getfield 22, 3) := by decide +kernel
theorem dX2_through_9 : decode cX2_through 9 = .ok (.iload_n 1, 1) := by decide +kernel
theorem dX2_through_10 : decode cX2_through 10 = .ok (.iload_n 2, 1) := by decide +kernel
theorem dX2_through_11 : decode cX2_through 11 = .ok (.invokestatic 95, 3) := by decide +kernel
theorem dX2_through_14 : decode cX2_through 14 = .ok (.bipush 11, 2) := by decide +kernel
theorem dX2_through_16 : decode cX2_through 16 = .ok (.imul, 1) := by decide +kernel
theorem dX2_through_17 : decode cX2_through 17 = .ok (.iload_n 3, 1) := by decide +kernel
theorem dX2_through_18 : decode cX2_through 18 = .ok (.iadd, 1) := by decide +kernel
theorem dX2_through_19 : decode cX2_through 19 = .ok (.laload, 1) := by decide +kernel
theorem dX2_through_20 : decode cX2_through 20 = .ok (.lreturn, 1) := by decide +kernel
theorem dX2_through_21 : decode cX2_through 21 = .ok (.iload_n 3, 1) := by decide +kernel
theorem dX2_through_22 : decode cX2_through 22 = .ok (.iconst 5, 1) := by decide +kernel
theorem dX2_through_23 : decode cX2_through 23 = .ok (.if_icmp .lt 19, 3) := by decide +kernel
theorem dX2_through_26 : decode cX2_through 26 = .ok (.aload_n 0, 1) := by decide +kernel
theorem dX2_through_27 : decode cX2_through 27 = .ok (.iload_n 1, 1) := by decide +kernel
theorem dX2_through_28 : decode cX2_through 28 = .ok (.iload_n 2, 1) := by decide +kernel
theorem dX2_through_29 : decode cX2_through 29 = .ok (.iload_n 3, 1) := by decide +kernel
theorem dX2_through_30 : decode cX2_through 30 = .ok (.iconst 5, 1) := by decide +kernel
theorem dX2_through_31 : decode cX2_through 31 = .ok (.isub, 1) := by decide +kernel
theorem dX2_through_32 : decode cX2_through 32 = .ok (.invokevirtual 83, 3) := by decide +kernel
theorem dX2_through_35 : decode cX2_through 35 = .ok (.ifCond .eq 7, 3) := by decide +kernel
theorem dX2_through_38 : decode cX2_through 38 = .ok (.lconst 0, 1) := by decide +kernel
theorem dX2_through_39 : decode cX2_through 39 = .ok (.goto 6, 3) := by decide +kernel
theorem dX2_through_42 : decode cX2_through 42 = .ok (.ldc2_w 87, 3) := by decide +kernel
theorem dX2_through_45 : decode cX2_through 45 = .ok (.lreturn, 1) := by decide +kernel
