theorem dX4_init_0 : decode cX4_init 0 = .ok (.aload_n 0, 1) := by decide +kernel
theorem dX4_init_1 : decode cX4_init 1 = .ok (.invokespecial 3, 3) := by decide +kernel
theorem dX4_init_4 : decode cX4_init 4 = .ok (.aload_n 0, 1) := by decide +kernel
theorem dX4_init_5 : decode cX4_init 5 = .ok (.iconst 2, 1) := by decide +kernel
theorem dX4_init_6 : decode cX4_init 6 = .ok (.putfield 9, 3) := by decide +kernel
theorem dX4_init_9 : decode cX4_init 9 = .ok (.aload_n 0, 1) := by decide +kernel
theorem dX4_init_10 : decode cX4_init 10 = .ok (.iconst 2, 1) := by decide +kernel
theorem dX4_init_11 : decode cX4_init 11 = .ok (.putfield 15, 3) := by decide +kernel
theorem dX4_init_14 : decode cX4_init 14 = .ok (.aload_n 0, 1) := by decide +kernel
theorem dX4_init_15 : decode cX4_init 15 = .ok (.iconst 0, 1) := by decide +kernel
theorem dX4_init_16 : decode cX4_init 16 = .ok (.putfield 18, 3) := by decide +kernel
theorem dX4_init_19 : decode cX4_init 19 = .ok (.aload_n 0, 1) := by decide +kernel
theorem dX4_init_20 : decode cX4_init 20 = .ok (.iconst 0, 1) := by decide +kernel
theorem dX4_init_21 : decode cX4_init 21 = .ok (.putfield 21, 3) := by decide +kernel
theorem dX4_init_24 : decode cX4_init 24 = .ok (.aload_n 0, 1) := by decide +kernel
theorem dX4_init_25 : decode cX4_init 25 = .ok (.bipush 30, 2) := by decide +kernel
theorem dX4_init_27 : decode cX4_init 27 = .ok (.newarray .int, 2) := by decide +kernel
theorem dX4_init_29 : decode cX4_init 29 = .ok (.putfield 24, 3) := by decide +kernel
theorem dX4_init_32 : decode cX4_init 32 = .ok (.aload_n 0, 1) := by decide +kernel
theorem dX4_init_33 : decode cX4_init 33 = .ok (.bipush 30, 2) := by decide +kernel
theorem dX4_init_35 : decode cX4_init 35 = .ok (.newarray .int, 2) := by decide +kernel
theorem dX4_init_37 : decode cX4_init 37 = .ok (.putfield 28, 3) := by decide +kernel
theorem dX4_init_40 : decode cX4_init 40 = .ok (.aload_n 0, 1) := by decide +kernel
theorem dX4_init_41 : decode cX4_init 41 = .ok (.bipush 30, 2) := by decide +kernel
theorem dX4_init_43 : decode cX4_init 43 = .ok (.newarray .int, 2) := by decide +kernel
theorem dX4_init_45 : decode cX4_init 45 = .ok (.putfield 31, 3) := by decide +kernel
theorem dX4_init_48 : decode cX4_init 48 = .ok (.aload_n 0, 1) := by decide +kernel
theorem dX4_init_49 : decode cX4_init 49 = .ok (.bipush 30, 2) := by decide +kernel
theorem dX4_init_51 : decode cX4_init 51 = .ok (.newarray .int, 2) := by decide +kernel
theorem dX4_init_53 : decode cX4_init 53 = .ok (.putfield 34, 3) := by decide +kernel
theorem dX4_init_56 : decode cX4_init 56 = .ok (.return_, 1) := by decide +kernel
theorem dX4_restart_0 : decode cX4_restart 0 = .ok (.aload_n 0, 1) := by decide +kernel
theorem dX4_restart_1 : decode cX4_restart 1 = .ok (.iload_n 1, 1) := by decide +kernel
theorem dX4_restart_2 : decode cX4_restart 2 = .ok (.putfield 9, 3) := by decide +kernel
theorem dX4_restart_5 : decode cX4_restart 5 = .ok (.aload_n 0, 1) := by decide +kernel
theorem dX4_restart_6 : decode cX4_restart 6 = .ok (.iload_n 2, 1) := by decide +kernel
theorem dX4_restart_7 : decode cX4_restart 7 = .ok (.putfield 15, 3) := by decide +kernel
theorem dX4_restart_10 : decode cX4_restart 10 = .ok (.aload_n 0, 1) := by decide +kernel
theorem dX4_restart_11 : decode cX4_restart 11 = .ok (.iconst 0, 1) := by decide +kernel
theorem dX4_restart_12 : decode cX4_restart 12 = .ok (.putfield 18, 3) := by decide +kernel
theorem dX4_restart_15 : decode cX4_restart 15 = .ok (.aload_n 0, 1) := by decide +kernel
theorem dX4_restart_16 : decode cX4_restart 16 = .ok (.dup, 1) := by decide +kernel
theorem dX4_restart_17 : decode cX4_restart 17 = .ok (.getfield 21, 3) := by decide +kernel
theorem dX4_restart_20 : decode cX4_restart 20 = .ok (.iconst 1, 1) := by decide +kernel
theorem dX4_restart_21 : decode cX4_restart 21 = .ok (.iadd, 1) := by decide +kernel
theorem dX4_restart_22 : decode cX4_restart 22 = .ok (.putfield 21, 3) := by decide +kernel
theorem dX4_restart_25 : decode cX4_restart 25 = .ok (.return_, 1) := by decide +kernel
theorem dX4_isControl_0 : decode cX4_isControl 0 = .ok (.iload_n 1, 1) := by decide +kernel
theorem dX4_isControl_1 : decode cX4_isControl 1 = .ok (.ifCond .lt 15, 3) := by decide +kernel
theorem dX4_isControl_4 : decode cX4_isControl 4 = .ok (.iload_n 1, 1) := by decide +kernel
theorem dX4_isControl_5 : decode cX4_isControl 5 = .ok (.aload_n 0, 1) := by decide +kernel
theorem dX4_isControl_6 : decode cX4_isControl 6 = .ok (.getfield 9, 3) := by decide +kernel
theorem dX4_isControl_9 : decode cX4_isControl 9 = .ok (.if_icmp .ge 7, 3) := by decide +kernel
theorem dX4_isControl_12 : decode cX4_isControl 12 = .ok (.iconst 1, 1) := by decide +kernel
theorem dX4_isControl_13 : decode cX4_isControl 13 = .ok (.goto 4, 3) := by decide +kernel
theorem dX4_isControl_16 : decode cX4_isControl 16 = .ok (.iconst 0, 1) := by decide +kernel
theorem dX4_isControl_17 : decode cX4_isControl 17 = .ok (.ireturn, 1) := by decide +kernel
theorem dX4_isSign_0 : decode cX4_isSign 0 = .ok (.iload_n 1, 1) := by decide +kernel
theorem dX4_isSign_1 : decode cX4_isSign 1 = .ok (.ifCond .lt 15, 3) := by decide +kernel
theorem dX4_isSign_4 : decode cX4_isSign 4 = .ok (.iload_n 1, 1) := by decide +kernel
theorem dX4_isSign_5 : decode cX4_isSign 5 = .ok (.aload_n 0, 1) := by decide +kernel
theorem dX4_isSign_6 : decode cX4_isSign 6 = .ok (.getfield 15, 3) := by decide +kernel
theorem dX4_isSign_9 : decode cX4_isSign 9 = .ok (.if_icmp .ge 7, 3) := by decide +kernel
theorem dX4_isSign_12 : decode cX4_isSign 12 = .ok (.iconst 1, 1) := by decide +kernel
theorem dX4_isSign_13 : decode cX4_isSign 13 = .ok (.goto 4, 3) := by decide +kernel
theorem dX4_isSign_16 : decode cX4_isSign 16 = .ok (.iconst 0, 1) := by decide +kernel
theorem dX4_isSign_17 : decode cX4_isSign 17 = .ok (.ireturn, 1) := by decide +kernel
theorem dX4_add_0 : decode cX4_add 0 = .ok (.aload_n 0, 1) := by decide +kernel
theorem dX4_add_1 : decode cX4_add 1 = .ok (.getfield 24, 3) := by decide +kernel
theorem dX4_add_4 : decode cX4_add 4 = .ok (.aload_n 0, 1) := by decide +kernel
theorem dX4_add_5 : decode cX4_add 5 = .ok (.getfield 18, 3) := by decide +kernel
theorem dX4_add_8 : decode cX4_add 8 = .ok (.iload_n 1, 1) := by decide +kernel
theorem dX4_add_9 : decode cX4_add 9 = .ok (.iastore, 1) := by decide +kernel
theorem dX4_add_10 : decode cX4_add 10 = .ok (.aload_n 0, 1) := by decide +kernel
theorem dX4_add_11 : decode cX4_add 11 = .ok (.getfield 28, 3) := by decide +kernel
theorem dX4_add_14 : decode cX4_add 14 = .ok (.aload_n 0, 1) := by decide +kernel
theorem dX4_add_15 : decode cX4_add 15 = .ok (.getfield 18, 3) := by decide +kernel
theorem dX4_add_18 : decode cX4_add 18 = .ok (.iload_n 2, 1) := by decide +kernel
theorem dX4_add_19 : decode cX4_add 19 = .ok (.iastore, 1) := by decide +kernel
theorem dX4_add_20 : decode cX4_add 20 = .ok (.aload_n 0, 1) := by decide +kernel
theorem dX4_add_21 : decode cX4_add 21 = .ok (.getfield 31, 3) := by decide +kernel
theorem dX4_add_24 : decode cX4_add 24 = .ok (.aload_n 0, 1) := by decide +kernel
theorem dX4_add_25 : decode cX4_add 25 = .ok (.getfield 18, 3) := by decide +kernel
theorem dX4_add_28 : decode cX4_add 28 = .ok (.iload_n 3, 1) := by decide +kernel
theorem dX4_add_29 : decode cX4_add 29 = .ok (.iastore, 1) := by decide +kernel
theorem dX4_add_30 : decode cX4_add 30 = .ok (.aload_n 0, 1) := by decide +kernel
theorem dX4_add_31 : decode cX4_add 31 = .ok (.getfield 34, 3) := by decide +kernel
theorem dX4_add_34 : decode cX4_add 34 = .ok (.aload_n 0, 1) := by decide +kernel
theorem dX4_add_35 : decode cX4_add 35 = .ok (.getfield 18, 3) := by decide +kernel
theorem dX4_add_38 : decode cX4_add 38 = .ok (.iload 4, 2) := by decide +kernel
theorem dX4_add_40 : decode cX4_add 40 = .ok (.iastore, 1) := by decide +kernel
theorem dX4_add_41 : decode cX4_add 41 = .ok (.aload_n 0, 1) := by decide +kernel
theorem dX4_add_42 : decode cX4_add 42 = .ok (.dup, 1) := by decide +kernel
theorem dX4_add_43 : decode cX4_add 43 = .ok (.getfield 18, 3) := by decide +kernel
theorem dX4_add_46 : decode cX4_add 46 = .ok (.iconst 1, 1) := by decide +kernel
theorem dX4_add_47 : decode cX4_add 47 = .ok (.iadd, 1) := by decide +kernel
theorem dX4_add_48 : decode cX4_add 48 = .ok (.putfield 18, 3) := by decide +kernel
theorem dX4_add_51 : decode cX4_add 51 = .ok (.aload_n 0, 1) := by decide +kernel
theorem dX4_add_52 : decode cX4_add 52 = .ok (.dup, 1) := by decide +kernel
theorem dX4_add_53 : decode cX4_add 53 = .ok (.getfield 21, 3) := by decide +kernel
theorem dX4_add_56 : decode cX4_add 56 = .ok (.iconst 1, 1) := by decide +kernel
theorem dX4_add_57 : decode cX4_add 57 = .ok (.iadd, 1) := by decide +kernel
theorem dX4_add_58 : decode cX4_add 58 = .ok (.putfield 21, 3) := by decide +kernel
theorem dX4_add_61 : decode cX4_add 61 = .ok (.aload_n 0, 1) := by decide +kernel
theorem dX4_add_62 : decode cX4_add 62 = .ok (.getfield 18, 3) := by decide +kernel
theorem dX4_add_65 : decode cX4_add 65 = .ok (.iconst 1, 1) := by decide +kernel
theorem dX4_add_66 : decode cX4_add 66 = .ok (.isub, 1) := by decide +kernel
theorem dX4_add_67 : decode cX4_add 67 = .ok (.ireturn, 1) := by decide +kernel
theorem dX4_dropNewest_0 : decode cX4_dropNewest 0 = .ok (.aload_n 0, 1) := by decide +kernel
theorem dX4_dropNewest_1 : decode cX4_dropNewest 1 = .ok (.dup, 1) := by decide +kernel
theorem dX4_dropNewest_2 : decode cX4_dropNewest 2 = .ok (.getfield 18, 3) := by decide +kernel
theorem dX4_dropNewest_5 : decode cX4_dropNewest 5 = .ok (.iconst 1, 1) := by decide +kernel
theorem dX4_dropNewest_6 : decode cX4_dropNewest 6 = .ok (.isub, 1) := by decide +kernel
theorem dX4_dropNewest_7 : decode cX4_dropNewest 7 = .ok (.putfield 18, 3) := by decide +kernel
theorem dX4_dropNewest_10 : decode cX4_dropNewest 10 = .ok (.aload_n 0, 1) := by decide +kernel
theorem dX4_dropNewest_11 : decode cX4_dropNewest 11 = .ok (.dup, 1) := by decide +kernel
theorem dX4_dropNewest_12 : decode cX4_dropNewest 12 = .ok (.getfield 21, 3) := by decide +kernel
theorem dX4_dropNewest_15 : decode cX4_dropNewest 15 = .ok (.iconst 1, 1) := by decide +kernel
theorem dX4_dropNewest_16 : decode cX4_dropNewest 16 = .ok (.iadd, 1) := by decide +kernel
theorem dX4_dropNewest_17 : decode cX4_dropNewest 17 = .ok (.putfield 21, 3) := by decide +kernel
theorem dX4_dropNewest_20 : decode cX4_dropNewest 20 = .ok (.aload_n 0, 1) := by decide +kernel
theorem dX4_dropNewest_21 : decode cX4_dropNewest 21 = .ok (.getfield 18, 3) := by decide +kernel
theorem dX4_dropNewest_24 : decode cX4_dropNewest 24 = .ok (.ireturn, 1) := by decide +kernel
theorem dX4_matching_0 : decode cX4_matching 0 = .ok (.iconst 0, 1) := by decide +kernel
theorem dX4_matching_1 : decode cX4_matching 1 = .ok (.istore_n 2, 1) := by decide +kernel
theorem dX4_matching_2 : decode cX4_matching 2 = .ok (.iconst 0, 1) := by decide +kernel
theorem dX4_matching_3 : decode cX4_matching 3 = .ok (.istore_n 3, 1) := by decide +kernel
theorem dX4_matching_4 : decode cX4_matching 4 = .ok (.iload_n 3, 1) := by decide +kernel
theorem dX4_matching_5 : decode cX4_matching 5 = .ok (.aload_n 0, 1) := by decide +kernel
theorem dX4_matching_6 : decode cX4_matching 6 = .ok (.getfield 18, 3) := by decide +kernel
theorem dX4_matching_9 : decode cX4_matching 9 = .ok (.if_icmp .ge 22, 3) := by decide +kernel
theorem dX4_matching_12 : decode cX4_matching 12 = .ok (.aload_n 0, 1) := by decide +kernel
theorem dX4_matching_13 : decode cX4_matching 13 = .ok (.getfield 24, 3) := by decide +kernel
theorem dX4_matching_16 : decode cX4_matching 16 = .ok (.iload_n 3, 1) := by decide +kernel
theorem dX4_matching_17 : decode cX4_matching 17 = .ok (.iaload, 1) := by decide +kernel
theorem dX4_matching_18 : decode cX4_matching 18 = .ok (.iload_n 1, 1) := by decide +kernel
theorem dX4_matching_19 : decode cX4_matching 19 = .ok (.if_icmp .ne 6, 3) := by decide +kernel
theorem dX4_matching_22 : decode cX4_matching 22 = .ok (.iinc 2 1, 3) := by decide +kernel
theorem dX4_matching_25 : decode cX4_matching 25 = .ok (.iinc 3 1, 3) := by decide +kernel
theorem dX4_matching_28 : decode cX4_matching 28 = .ok (.goto (-24), 3) := by decide +kernel
theorem dX4_matching_31 : decode cX4_matching 31 = .ok (.iload_n 2, 1) := by decide +kernel
theorem dX4_matching_32 : decode cX4_matching 32 = .ok (.ireturn, 1) := by decide +kernel
