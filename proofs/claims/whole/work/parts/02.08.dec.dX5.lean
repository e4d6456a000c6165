theorem dX5_init_0 : decode cX5_init 0 = .ok (.aload_n 0, 1) := by decide +kernel
theorem dX5_init_1 : decode cX5_init 1 = .ok (.invokespecial 3, 3) := by decide +kernel
theorem dX5_init_4 : decode cX5_init 4 = .ok (.aload_n 0, 1) := by decide +kernel
theorem dX5_init_5 : decode cX5_init 5 = .ok (.iconst 0, 1) := by decide +kernel
theorem dX5_init_6 : decode cX5_init 6 = .ok (.putfield 9, 3) := by decide +kernel
theorem dX5_init_9 : decode cX5_init 9 = .ok (.aload_n 0, 1) := by decide +kernel
theorem dX5_init_10 : decode cX5_init 10 = .ok (.iconst 0, 1) := by decide +kernel
theorem dX5_init_11 : decode cX5_init 11 = .ok (.putfield 15, 3) := by decide +kernel
theorem dX5_init_14 : decode cX5_init 14 = .ok (.aload_n 0, 1) := by decide +kernel
theorem dX5_init_15 : decode cX5_init 15 = .ok (.bipush 60, 2) := by decide +kernel
theorem dX5_init_17 : decode cX5_init 17 = .ok (.newarray .int, 2) := by decide +kernel
theorem dX5_init_19 : decode cX5_init 19 = .ok (.putfield 18, 3) := by decide +kernel
theorem dX5_init_22 : decode cX5_init 22 = .ok (.return_, 1) := by decide +kernel
theorem dX5_restart_0 : decode cX5_restart 0 = .ok (.aload_n 0, 1) := by decide +kernel
theorem dX5_restart_1 : decode cX5_restart 1 = .ok (.iload_n 1, 1) := by decide +kernel
theorem dX5_restart_2 : decode cX5_restart 2 = .ok (.putfield 9, 3) := by decide +kernel
theorem dX5_restart_5 : decode cX5_restart 5 = .ok (.aload_n 0, 1) := by decide +kernel
theorem dX5_restart_6 : decode cX5_restart 6 = .ok (.iconst 0, 1) := by decide +kernel
theorem dX5_restart_7 : decode cX5_restart 7 = .ok (.putfield 15, 3) := by decide +kernel
theorem dX5_restart_10 : decode cX5_restart 10 = .ok (.return_, 1) := by decide +kernel
theorem dX5_cover_0 : decode cX5_cover 0 = .ok (.aload_n 0, 1) := by decide +kernel
theorem dX5_cover_1 : decode cX5_cover 1 = .ok (.getfield 18, 3) := by decide +kernel
theorem dX5_cover_4 : decode cX5_cover 4 = .ok (.aload_n 0, 1) := by decide +kernel
theorem dX5_cover_5 : decode cX5_cover 5 = .ok (.getfield 15, 3) := by decide +kernel
theorem dX5_cover_8 : decode cX5_cover 8 = .ok (.iload_n 1, 1) := by decide +kernel
theorem dX5_cover_9 : decode cX5_cover 9 = .ok (.iastore, 1) := by decide +kernel
theorem dX5_cover_10 : decode cX5_cover 10 = .ok (.aload_n 0, 1) := by decide +kernel
theorem dX5_cover_11 : decode cX5_cover 11 = .ok (.dup, 1) := by decide +kernel
theorem dX5_cover_12 : decode cX5_cover 12 = .ok (.getfield 15, 3) := by decide +kernel
theorem dX5_cover_15 : decode cX5_cover 15 = .ok (.iconst 1, 1) := by decide +kernel
theorem dX5_cover_16 : decode cX5_cover 16 = .ok (.iadd, 1) := by decide +kernel
theorem dX5_cover_17 : decode cX5_cover 17 = .ok (.putfield 15, 3) := by decide +kernel
theorem dX5_cover_20 : decode cX5_cover 20 = .ok (.return_, 1) := by decide +kernel
theorem dX5_head_0 : decode cX5_head 0 = .ok (.aload_n 0, 1) := by decide +kernel
theorem dX5_head_1 : decode cX5_head 1 = .ok (.getfield 15, 3) := by decide +kernel
theorem dX5_head_4 : decode cX5_head 4 = .ok (.ifCond .ne 7, 3) := by decide +kernel
theorem dX5_head_7 : decode cX5_head 7 = .ok (.iconst (-1), 1) := by decide +kernel
theorem dX5_head_8 : decode cX5_head 8 = .ok (.goto 21, 3) := by decide +kernel
theorem dX5_head_11 : decode cX5_head 11 = .ok (.aload_n 0, 1) := by decide +kernel
theorem dX5_head_12 : decode cX5_head 12 = .ok (.getfield 9, 3) := by decide +kernel
theorem dX5_head_15 : decode cX5_head 15 = .ok (.aload_n 0, 1) := by decide +kernel
theorem dX5_head_16 : decode cX5_head 16 = .ok (.getfield 18, 3) := by decide +kernel
theorem dX5_head_19 : decode cX5_head 19 = .ok (.aload_n 0, 1) := by decide +kernel
theorem dX5_head_20 : decode cX5_head 20 = .ok (.getfield 15, 3) := by decide +kernel
theorem dX5_head_23 : decode cX5_head 23 = .ok (.iconst 1, 1) := by decide +kernel
theorem dX5_head_24 : decode cX5_head 24 = .ok (.isub, 1) := by decide +kernel
theorem dX5_head_25 : decode cX5_head 25 = .ok (.iaload, 1) := by decide +kernel
theorem dX5_head_26 : decode cX5_head 26 = .ok (.invokestatic 22, 3) := by decide +kernel
theorem dX5_head_29 : decode cX5_head 29 = .ok (.ireturn, 1) := by decide +kernel
theorem dX5_hasRoom_0 : decode cX5_hasRoom 0 = .ok (.aload_n 1, 1) := by decide +kernel
theorem dX5_hasRoom_1 : decode cX5_hasRoom 1 = .ok (.getfield 26, 3) := by decide +kernel
theorem dX5_hasRoom_4 : decode cX5_hasRoom 4 = .ok (.iload_n 2, 1) := by decide +kernel
theorem dX5_hasRoom_5 : decode cX5_hasRoom 5 = .ok (.iaload, 1) := by decide +kernel
theorem dX5_hasRoom_6 : decode cX5_hasRoom 6 = .ok (.iconst (-1), 1) := by decide +kernel
theorem dX5_hasRoom_7 : decode cX5_hasRoom 7 = .ok (.if_icmp .eq 12, 3) := by decide +kernel
theorem dX5_hasRoom_10 : decode cX5_hasRoom 10 = .ok (.aload_n 0, 1) := by decide +kernel
theorem dX5_hasRoom_11 : decode cX5_hasRoom 11 = .ok (.getfield 15, 3) := by decide +kernel
theorem dX5_hasRoom_14 : decode cX5_hasRoom 14 = .ok (.bipush 60, 2) := by decide +kernel
theorem dX5_hasRoom_16 : decode cX5_hasRoom 16 = .ok (.if_icmp .ge 7, 3) := by decide +kernel
theorem dX5_hasRoom_19 : decode cX5_hasRoom 19 = .ok (.iconst 1, 1) := by decide +kernel
theorem dX5_hasRoom_20 : decode cX5_hasRoom 20 = .ok (.goto 4, 3) := by decide +kernel
theorem dX5_hasRoom_23 : decode cX5_hasRoom 23 = .ok (.iconst 0, 1) := by decide +kernel
theorem dX5_hasRoom_24 : decode cX5_hasRoom 24 = .ok (.ireturn, 1) := by decide +kernel
theorem dX5_change_0 : decode cX5_change 0 = .ok (.aload_n 0, 1) := by decide +kernel
theorem dX5_change_1 : decode cX5_change 1 = .ok (.dup, 1) := by decide +kernel
theorem dX5_change_2 : decode cX5_change 2 = .ok (.getfield 15, 3) := by decide +kernel
theorem dX5_change_5 : decode cX5_change 5 = .ok (.iconst 1, 1) := by decide +kernel
theorem dX5_change_6 : decode cX5_change 6 = .ok (.isub, 1) := by decide +kernel
theorem dX5_change_7 : decode cX5_change 7 = .ok (.putfield 15, 3) := by decide +kernel
theorem dX5_change_10 : decode cX5_change 10 = .ok (.aload_n 1, 1) := by decide +kernel
theorem dX5_change_11 : decode cX5_change 11 = .ok (.getfield 26, 3) := by decide +kernel
theorem dX5_change_14 : decode cX5_change 14 = .ok (.iload_n 2, 1) := by decide +kernel
theorem dX5_change_15 : decode cX5_change 15 = .ok (.iaload, 1) := by decide +kernel
theorem dX5_change_16 : decode cX5_change 16 = .ok (.iconst (-1), 1) := by decide +kernel
theorem dX5_change_17 : decode cX5_change 17 = .ok (.if_icmp .eq 13, 3) := by decide +kernel
theorem dX5_change_20 : decode cX5_change 20 = .ok (.aload_n 0, 1) := by decide +kernel
theorem dX5_change_21 : decode cX5_change 21 = .ok (.aload_n 1, 1) := by decide +kernel
theorem dX5_change_22 : decode cX5_change 22 = .ok (.getfield 26, 3) := by decide +kernel
theorem dX5_change_25 : decode cX5_change 25 = .ok (.iload_n 2, 1) := by decide +kernel
theorem dX5_change_26 : decode cX5_change 26 = .ok (.iaload, 1) := by decide +kernel
theorem dX5_change_27 : decode cX5_change 27 = .ok (.invokevirtual 31, 3) := by decide +kernel
theorem dX5_change_30 : decode cX5_change 30 = .ok (.aload_n 1, 1) := by decide +kernel
theorem dX5_change_31 : decode cX5_change 31 = .ok (.getfield 35, 3) := by decide +kernel
theorem dX5_change_34 : decode cX5_change 34 = .ok (.iload_n 2, 1) := by decide +kernel
theorem dX5_change_35 : decode cX5_change 35 = .ok (.iaload, 1) := by decide +kernel
theorem dX5_change_36 : decode cX5_change 36 = .ok (.iconst (-1), 1) := by decide +kernel
theorem dX5_change_37 : decode cX5_change 37 = .ok (.if_icmp .eq 13, 3) := by decide +kernel
theorem dX5_change_40 : decode cX5_change 40 = .ok (.aload_n 0, 1) := by decide +kernel
theorem dX5_change_41 : decode cX5_change 41 = .ok (.aload_n 1, 1) := by decide +kernel
theorem dX5_change_42 : decode cX5_change 42 = .ok (.getfield 35, 3) := by decide +kernel
theorem dX5_change_45 : decode cX5_change 45 = .ok (.iload_n 2, 1) := by decide +kernel
theorem dX5_change_46 : decode cX5_change 46 = .ok (.iaload, 1) := by decide +kernel
theorem dX5_change_47 : decode cX5_change 47 = .ok (.invokevirtual 31, 3) := by decide +kernel
theorem dX5_change_50 : decode cX5_change 50 = .ok (.aload_n 0, 1) := by decide +kernel
theorem dX5_change_51 : decode cX5_change 51 = .ok (.aload_n 1, 1) := by decide +kernel
theorem dX5_change_52 : decode cX5_change 52 = .ok (.getfield 38, 3) := by decide +kernel
theorem dX5_change_55 : decode cX5_change 55 = .ok (.iload_n 2, 1) := by decide +kernel
theorem dX5_change_56 : decode cX5_change 56 = .ok (.iaload, 1) := by decide +kernel
theorem dX5_change_57 : decode cX5_change 57 = .ok (.putfield 9, 3) := by decide +kernel
theorem dX5_change_60 : decode cX5_change 60 = .ok (.return_, 1) := by decide +kernel
