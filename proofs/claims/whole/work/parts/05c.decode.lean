theorem dX5_init_0 : decode cX5_init 0 = .ok (.aload_n 0, 1) := by decide +kernel
theorem dX5_init_1 : decode cX5_init 1 = .ok (.invokespecial 1, 3) := by decide +kernel
theorem dX5_init_4 : decode cX5_init 4 = .ok (.aload_n 0, 1) := by decide +kernel
theorem dX5_init_5 : decode cX5_init 5 = .ok (.bipush 75, 2) := by decide +kernel
theorem dX5_init_7 : decode cX5_init 7 = .ok (.newarray .int, 2) := by decide +kernel
theorem dX5_init_9 : decode cX5_init 9 = .ok (.putfield 9, 3) := by decide +kernel
theorem dX5_init_12 : decode cX5_init 12 = .ok (.aload_n 0, 1) := by decide +kernel
theorem dX5_init_13 : decode cX5_init 13 = .ok (.bipush 75, 2) := by decide +kernel
theorem dX5_init_15 : decode cX5_init 15 = .ok (.newarray .int, 2) := by decide +kernel
theorem dX5_init_17 : decode cX5_init 17 = .ok (.putfield 13, 3) := by decide +kernel
theorem dX5_init_20 : decode cX5_init 20 = .ok (.aload_n 0, 1) := by decide +kernel
theorem dX5_init_21 : decode cX5_init 21 = .ok (.bipush 75, 2) := by decide +kernel
theorem dX5_init_23 : decode cX5_init 23 = .ok (.newarray .int, 2) := by decide +kernel
theorem dX5_init_25 : decode cX5_init 25 = .ok (.putfield 16, 3) := by decide +kernel
theorem dX5_init_28 : decode cX5_init 28 = .ok (.aload_n 0, 1) := by decide +kernel
theorem dX5_init_29 : decode cX5_init 29 = .ok (.bipush 75, 2) := by decide +kernel
theorem dX5_init_31 : decode cX5_init 31 = .ok (.newarray .int, 2) := by decide +kernel
theorem dX5_init_33 : decode cX5_init 33 = .ok (.putfield 19, 3) := by decide +kernel
theorem dX5_init_36 : decode cX5_init 36 = .ok (.aload_n 0, 1) := by decide +kernel
theorem dX5_init_37 : decode cX5_init 37 = .ok (.bipush 96, 2) := by decide +kernel
theorem dX5_init_39 : decode cX5_init 39 = .ok (.newarray .int, 2) := by decide +kernel
theorem dX5_init_41 : decode cX5_init 41 = .ok (.putfield 22, 3) := by decide +kernel
theorem dX5_init_44 : decode cX5_init 44 = .ok (.aload_n 0, 1) := by decide +kernel
theorem dX5_init_45 : decode cX5_init 45 = .ok (.bipush 16, 2) := by decide +kernel
theorem dX5_init_47 : decode cX5_init 47 = .ok (.newarray .int, 2) := by decide +kernel
theorem dX5_init_49 : decode cX5_init 49 = .ok (.putfield 25, 3) := by decide +kernel
theorem dX5_init_52 : decode cX5_init 52 = .ok (.aload_n 0, 1) := by decide +kernel
theorem dX5_init_53 : decode cX5_init 53 = .ok (.bipush 7, 2) := by decide +kernel
theorem dX5_init_55 : decode cX5_init 55 = .ok (.newarray .int, 2) := by decide +kernel
theorem dX5_init_57 : decode cX5_init 57 = .ok (.putfield 28, 3) := by decide +kernel
theorem dX5_init_60 : decode cX5_init 60 = .ok (.aload_n 0, 1) := by decide +kernel
theorem dX5_init_61 : decode cX5_init 61 = .ok (.iconst 4, 1) := by decide +kernel
theorem dX5_init_62 : decode cX5_init 62 = .ok (.newarray .int, 2) := by decide +kernel
theorem dX5_init_64 : decode cX5_init 64 = .ok (.putfield 31, 3) := by decide +kernel
theorem dX5_init_67 : decode cX5_init 67 = .ok (.aload_n 0, 1) := by decide +kernel
theorem dX5_init_68 : decode cX5_init 68 = .ok (.bipush 7, 2) := by decide +kernel
theorem dX5_init_70 : decode cX5_init 70 = .ok (.newarray .int, 2) := by decide +kernel
theorem dX5_init_72 : decode cX5_init 72 = .ok (.putfield 34, 3) := by decide +kernel
theorem dX5_init_75 : decode cX5_init 75 = .ok (.return_, 1) := by decide +kernel
theorem dX5_isIn_0 : decode cX5_isIn 0 = .ok (.iload_n 0, 1) := by decide +kernel
theorem dX5_isIn_1 : decode cX5_isIn 1 = .ok (.iload_n 1, 1) := by decide +kernel
theorem dX5_isIn_2 : decode cX5_isIn 2 = .ok (.if_icmp .lt 12, 3) := by decide +kernel
theorem dX5_isIn_5 : decode cX5_isIn 5 = .ok (.iload_n 0, 1) := by decide +kernel
theorem dX5_isIn_6 : decode cX5_isIn 6 = .ok (.iload_n 2, 1) := by decide +kernel
theorem dX5_isIn_7 : decode cX5_isIn 7 = .ok (.if_icmp .gt 7, 3) := by decide +kernel
theorem dX5_isIn_10 : decode cX5_isIn 10 = .ok (.iconst 1, 1) := by decide +kernel
theorem dX5_isIn_11 : decode cX5_isIn 11 = .ok (.goto 4, 3) := by decide +kernel
theorem dX5_isIn_14 : decode cX5_isIn 14 = .ok (.iconst 0, 1) := by decide +kernel
theorem dX5_isIn_15 : decode cX5_isIn 15 = .ok (.ireturn, 1) := by decide +kernel
theorem dX5_held_0 : decode cX5_held 0 = .ok (.iload_n 0, 1) := by decide +kernel
theorem dX5_held_1 : decode cX5_held 1 = .ok (.ifCond .ge 7, 3) := by decide +kernel
theorem dX5_held_4 : decode cX5_held 4 = .ok (.iconst 0, 1) := by decide +kernel
theorem dX5_held_5 : decode cX5_held 5 = .ok (.goto 15, 3) := by decide +kernel
theorem dX5_held_8 : decode cX5_held 8 = .ok (.iload_n 0, 1) := by decide +kernel
theorem dX5_held_9 : decode cX5_held 9 = .ok (.bipush 99, 2) := by decide +kernel
theorem dX5_held_11 : decode cX5_held 11 = .ok (.if_icmp .le 8, 3) := by decide +kernel
theorem dX5_held_14 : decode cX5_held 14 = .ok (.bipush 99, 2) := by decide +kernel
theorem dX5_held_16 : decode cX5_held 16 = .ok (.goto 4, 3) := by decide +kernel
theorem dX5_held_19 : decode cX5_held 19 = .ok (.iload_n 0, 1) := by decide +kernel
theorem dX5_held_20 : decode cX5_held 20 = .ok (.ireturn, 1) := by decide +kernel
theorem dX5_copies_0 : decode cX5_copies 0 = .ok (.iconst 0, 1) := by decide +kernel
theorem dX5_copies_1 : decode cX5_copies 1 = .ok (.istore_n 2, 1) := by decide +kernel
theorem dX5_copies_2 : decode cX5_copies 2 = .ok (.iload_n 2, 1) := by decide +kernel
theorem dX5_copies_3 : decode cX5_copies 3 = .ok (.bipush 75, 2) := by decide +kernel
theorem dX5_copies_5 : decode cX5_copies 5 = .ok (.if_icmp .ge 15, 3) := by decide +kernel
theorem dX5_copies_8 : decode cX5_copies 8 = .ok (.aload_n 1, 1) := by decide +kernel
theorem dX5_copies_9 : decode cX5_copies 9 = .ok (.iload_n 2, 1) := by decide +kernel
theorem dX5_copies_10 : decode cX5_copies 10 = .ok (.aload_n 0, 1) := by decide +kernel
theorem dX5_copies_11 : decode cX5_copies 11 = .ok (.iload_n 2, 1) := by decide +kernel
theorem dX5_copies_12 : decode cX5_copies 12 = .ok (.iaload, 1) := by decide +kernel
theorem dX5_copies_13 : decode cX5_copies 13 = .ok (.iastore, 1) := by decide +kernel
theorem dX5_copies_14 : decode cX5_copies 14 = .ok (.iinc 2 1, 3) := by decide +kernel
theorem dX5_copies_17 : decode cX5_copies 17 = .ok (.goto (-15), 3) := by decide +kernel
theorem dX5_copies_20 : decode cX5_copies 20 = .ok (.return_, 1) := by decide +kernel
theorem dX5_no_0 : decode cX5_no 0 = .ok (.aload_n 0, 1) := by decide +kernel
theorem dX5_no_1 : decode cX5_no 1 = .ok (.getfield 28, 3) := by decide +kernel
theorem dX5_no_4 : decode cX5_no 4 = .ok (.iload_n 1, 1) := by decide +kernel
theorem dX5_no_5 : decode cX5_no 5 = .ok (.ineg, 1) := by decide +kernel
theorem dX5_no_6 : decode cX5_no 6 = .ok (.dup2, 1) := by decide +kernel
theorem dX5_no_7 : decode cX5_no 7 = .ok (.iaload, 1) := by decide +kernel
theorem dX5_no_8 : decode cX5_no 8 = .ok (.iconst 1, 1) := by decide +kernel
theorem dX5_no_9 : decode cX5_no 9 = .ok (.iadd, 1) := by decide +kernel
theorem dX5_no_10 : decode cX5_no 10 = .ok (.iastore, 1) := by decide +kernel
theorem dX5_no_11 : decode cX5_no 11 = .ok (.iload_n 1, 1) := by decide +kernel
theorem dX5_no_12 : decode cX5_no 12 = .ok (.ireturn, 1) := by decide +kernel
theorem dX5_noFar_0 : decode cX5_noFar 0 = .ok (.ldc 37, 2) := by decide +kernel
theorem dX5_noFar_2 : decode cX5_noFar 2 = .ok (.aload_n 0, 1) := by decide +kernel
theorem dX5_noFar_3 : decode cX5_noFar 3 = .ok (.iload_n 1, 1) := by decide +kernel
theorem dX5_noFar_4 : decode cX5_noFar 4 = .ok (.invokevirtual 38, 3) := by decide +kernel
theorem dX5_noFar_7 : decode cX5_noFar 7 = .ok (.isub, 1) := by decide +kernel
theorem dX5_noFar_8 : decode cX5_noFar 8 = .ok (.ireturn, 1) := by decide +kernel
theorem dX5_noWide_0 : decode cX5_noWide 0 = .ok (.ldc2_w 42, 3) := by decide +kernel
theorem dX5_noWide_3 : decode cX5_noWide 3 = .ok (.aload_n 0, 1) := by decide +kernel
theorem dX5_noWide_4 : decode cX5_noWide 4 = .ok (.iload_n 1, 1) := by decide +kernel
theorem dX5_noWide_5 : decode cX5_noWide 5 = .ok (.invokevirtual 38, 3) := by decide +kernel
theorem dX5_noWide_8 : decode cX5_noWide 8 = .ok (.i2l, 1) := by decide +kernel
theorem dX5_noWide_9 : decode cX5_noWide 9 = .ok (.lsub, 1) := by decide +kernel
theorem dX5_noWide_10 : decode cX5_noWide 10 = .ok (.lreturn, 1) := by decide +kernel
theorem dX5_ofD_0 : decode cX5_ofD 0 = .ok (.iconst 3, 1) := by decide +kernel
theorem dX5_ofD_1 : decode cX5_ofD 1 = .ok (.bipush 6, 2) := by decide +kernel
theorem dX5_ofD_3 : decode cX5_ofD 3 = .ok (.iload_n 0, 1) := by decide +kernel
theorem dX5_ofD_4 : decode cX5_ofD 4 = .ok (.imul, 1) := by decide +kernel
theorem dX5_ofD_5 : decode cX5_ofD 5 = .ok (.iadd, 1) := by decide +kernel
theorem dX5_ofD_6 : decode cX5_ofD 6 = .ok (.iload_n 1, 1) := by decide +kernel
theorem dX5_ofD_7 : decode cX5_ofD 7 = .ok (.iadd, 1) := by decide +kernel
theorem dX5_ofD_8 : decode cX5_ofD 8 = .ok (.ireturn, 1) := by decide +kernel
theorem dX5_ofP_0 : decode cX5_ofP 0 = .ok (.bipush 57, 2) := by decide +kernel
theorem dX5_ofP_2 : decode cX5_ofP 2 = .ok (.iconst 3, 1) := by decide +kernel
theorem dX5_ofP_3 : decode cX5_ofP 3 = .ok (.iload_n 0, 1) := by decide +kernel
theorem dX5_ofP_4 : decode cX5_ofP 4 = .ok (.imul, 1) := by decide +kernel
theorem dX5_ofP_5 : decode cX5_ofP 5 = .ok (.iadd, 1) := by decide +kernel
theorem dX5_ofP_6 : decode cX5_ofP 6 = .ok (.iload_n 1, 1) := by decide +kernel
theorem dX5_ofP_7 : decode cX5_ofP 7 = .ok (.iadd, 1) := by decide +kernel
theorem dX5_ofP_8 : decode cX5_ofP 8 = .ok (.ireturn, 1) := by decide +kernel
theorem dX5_isDoor_0 : decode cX5_isDoor 0 = .ok (.iload_n 1, 1) := by decide +kernel
theorem dX5_isDoor_1 : decode cX5_isDoor 1 = .ok (.iconst 0, 1) := by decide +kernel
theorem dX5_isDoor_2 : decode cX5_isDoor 2 = .ok (.aload_n 0, 1) := by decide +kernel
theorem dX5_isDoor_3 : decode cX5_isDoor 3 = .ok (.getfield 9, 3) := by decide +kernel
theorem dX5_isDoor_6 : decode cX5_isDoor 6 = .ok (.iconst 0, 1) := by decide +kernel
theorem dX5_isDoor_7 : decode cX5_isDoor 7 = .ok (.iaload, 1) := by decide +kernel
theorem dX5_isDoor_8 : decode cX5_isDoor 8 = .ok (.iconst 1, 1) := by decide +kernel
theorem dX5_isDoor_9 : decode cX5_isDoor 9 = .ok (.isub, 1) := by decide +kernel
theorem dX5_isDoor_10 : decode cX5_isDoor 10 = .ok (.invokestatic 44, 3) := by decide +kernel
theorem dX5_isDoor_13 : decode cX5_isDoor 13 = .ok (.ireturn, 1) := by decide +kernel
theorem dX5_isPerson_0 : decode cX5_isPerson 0 = .ok (.iload_n 1, 1) := by decide +kernel
theorem dX5_isPerson_1 : decode cX5_isPerson 1 = .ok (.iconst 0, 1) := by decide +kernel
theorem dX5_isPerson_2 : decode cX5_isPerson 2 = .ok (.aload_n 0, 1) := by decide +kernel
theorem dX5_isPerson_3 : decode cX5_isPerson 3 = .ok (.getfield 9, 3) := by decide +kernel
theorem dX5_isPerson_6 : decode cX5_isPerson 6 = .ok (.iconst 1, 1) := by decide +kernel
theorem dX5_isPerson_7 : decode cX5_isPerson 7 = .ok (.iaload, 1) := by decide +kernel
theorem dX5_isPerson_8 : decode cX5_isPerson 8 = .ok (.iconst 1, 1) := by decide +kernel
theorem dX5_isPerson_9 : decode cX5_isPerson 9 = .ok (.isub, 1) := by decide +kernel
theorem dX5_isPerson_10 : decode cX5_isPerson 10 = .ok (.invokestatic 44, 3) := by decide +kernel
theorem dX5_isPerson_13 : decode cX5_isPerson 13 = .ok (.ireturn, 1) := by decide +kernel
theorem dX5_isRoom_0 : decode cX5_isRoom 0 = .ok (.iload_n 0, 1) := by decide +kernel
theorem dX5_isRoom_1 : decode cX5_isRoom 1 = .ok (.iconst 0, 1) := by decide +kernel
theorem dX5_isRoom_2 : decode cX5_isRoom 2 = .ok (.bipush 6, 2) := by decide +kernel
theorem dX5_isRoom_4 : decode cX5_isRoom 4 = .ok (.invokestatic 44, 3) := by decide +kernel
theorem dX5_isRoom_7 : decode cX5_isRoom 7 = .ok (.ireturn, 1) := by decide +kernel
theorem dX5_has_0 : decode cX5_has 0 = .ok (.iload_n 0, 1) := by decide +kernel
theorem dX5_has_1 : decode cX5_has 1 = .ok (.iload_n 1, 1) := by decide +kernel
theorem dX5_has_2 : decode cX5_has 2 = .ok (.ishr, 1) := by decide +kernel
theorem dX5_has_3 : decode cX5_has 3 = .ok (.iconst 1, 1) := by decide +kernel
theorem dX5_has_4 : decode cX5_has 4 = .ok (.iand, 1) := by decide +kernel
theorem dX5_has_5 : decode cX5_has 5 = .ok (.iconst 1, 1) := by decide +kernel
theorem dX5_has_6 : decode cX5_has 6 = .ok (.if_icmp .ne 7, 3) := by decide +kernel
theorem dX5_has_9 : decode cX5_has 9 = .ok (.iconst 1, 1) := by decide +kernel
theorem dX5_has_10 : decode cX5_has 10 = .ok (.goto 4, 3) := by decide +kernel
theorem dX5_has_13 : decode cX5_has 13 = .ok (.iconst 0, 1) := by decide +kernel
theorem dX5_has_14 : decode cX5_has 14 = .ok (.ireturn, 1) := by decide +kernel
theorem dX5_gives_0 : decode cX5_gives 0 = .ok (.aload_n 0, 1) := by decide +kernel
theorem dX5_gives_1 : decode cX5_gives 1 = .ok (.iload_n 1, 1) := by decide +kernel
theorem dX5_gives_2 : decode cX5_gives 2 = .ok (.iconst 4, 1) := by decide +kernel
theorem dX5_gives_3 : decode cX5_gives 3 = .ok (.invokestatic 48, 3) := by decide +kernel
theorem dX5_gives_6 : decode cX5_gives 6 = .ok (.iaload, 1) := by decide +kernel
theorem dX5_gives_7 : decode cX5_gives 7 = .ok (.istore_n 2, 1) := by decide +kernel
theorem dX5_gives_8 : decode cX5_gives 8 = .ok (.iload_n 2, 1) := by decide +kernel
theorem dX5_gives_9 : decode cX5_gives 9 = .ok (.ifCond .ne 7, 3) := by decide +kernel
theorem dX5_gives_12 : decode cX5_gives 12 = .ok (.iconst 0, 1) := by decide +kernel
theorem dX5_gives_13 : decode cX5_gives 13 = .ok (.goto 12, 3) := by decide +kernel
theorem dX5_gives_16 : decode cX5_gives 16 = .ok (.iload_n 2, 1) := by decide +kernel
theorem dX5_gives_17 : decode cX5_gives 17 = .ok (.aload_n 0, 1) := by decide +kernel
theorem dX5_gives_18 : decode cX5_gives 18 = .ok (.iload_n 1, 1) := by decide +kernel
theorem dX5_gives_19 : decode cX5_gives 19 = .ok (.iconst 1, 1) := by decide +kernel
theorem dX5_gives_20 : decode cX5_gives 20 = .ok (.invokestatic 48, 3) := by decide +kernel
theorem dX5_gives_23 : decode cX5_gives 23 = .ok (.iaload, 1) := by decide +kernel
theorem dX5_gives_24 : decode cX5_gives 24 = .ok (.iadd, 1) := by decide +kernel
theorem dX5_gives_25 : decode cX5_gives 25 = .ok (.istore_n 3, 1) := by decide +kernel
theorem dX5_gives_26 : decode cX5_gives 26 = .ok (.aload_n 0, 1) := by decide +kernel
theorem dX5_gives_27 : decode cX5_gives 27 = .ok (.iload_n 1, 1) := by decide +kernel
theorem dX5_gives_28 : decode cX5_gives 28 = .ok (.iconst 0, 1) := by decide +kernel
theorem dX5_gives_29 : decode cX5_gives 29 = .ok (.invokestatic 48, 3) := by decide +kernel
theorem dX5_gives_32 : decode cX5_gives 32 = .ok (.iaload, 1) := by decide +kernel
theorem dX5_gives_33 : decode cX5_gives 33 = .ok (.tableswitch 45 1 5 #[35, 37, 39, 45, 41], 35) := by decide +kernel
theorem dX5_gives_68 : decode cX5_gives 68 = .ok (.iload_n 2, 1) := by decide +kernel
theorem dX5_gives_69 : decode cX5_gives 69 = .ok (.ireturn, 1) := by decide +kernel
theorem dX5_gives_70 : decode cX5_gives 70 = .ok (.iconst 0, 1) := by decide +kernel
theorem dX5_gives_71 : decode cX5_gives 71 = .ok (.ireturn, 1) := by decide +kernel
theorem dX5_gives_72 : decode cX5_gives 72 = .ok (.iload_n 3, 1) := by decide +kernel
theorem dX5_gives_73 : decode cX5_gives 73 = .ok (.ireturn, 1) := by decide +kernel
theorem dX5_gives_74 : decode cX5_gives 74 = .ok (.iload_n 3, 1) := by decide +kernel
theorem dX5_gives_75 : decode cX5_gives 75 = .ok (.iconst 2, 1) := by decide +kernel
theorem dX5_gives_76 : decode cX5_gives 76 = .ok (.idiv, 1) := by decide +kernel
theorem dX5_gives_77 : decode cX5_gives 77 = .ok (.ireturn, 1) := by decide +kernel
theorem dX5_gives_78 : decode cX5_gives 78 = .ok (.iload_n 2, 1) := by decide +kernel
theorem dX5_gives_79 : decode cX5_gives 79 = .ok (.iconst 2, 1) := by decide +kernel
theorem dX5_gives_80 : decode cX5_gives 80 = .ok (.idiv, 1) := by decide +kernel
theorem dX5_gives_81 : decode cX5_gives 81 = .ok (.ireturn, 1) := by decide +kernel
theorem dX5_keeps_0 : decode cX5_keeps 0 = .ok (.aload_n 0, 1) := by decide +kernel
theorem dX5_keeps_1 : decode cX5_keeps 1 = .ok (.iload_n 1, 1) := by decide +kernel
theorem dX5_keeps_2 : decode cX5_keeps 2 = .ok (.iconst 0, 1) := by decide +kernel
theorem dX5_keeps_3 : decode cX5_keeps 3 = .ok (.invokestatic 48, 3) := by decide +kernel
theorem dX5_keeps_6 : decode cX5_keeps 6 = .ok (.iaload, 1) := by decide +kernel
theorem dX5_keeps_7 : decode cX5_keeps 7 = .ok (.tableswitch 43 2 5 #[29, 33, 29, 33], 29) := by decide +kernel
theorem dX5_keeps_36 : decode cX5_keeps 36 = .ok (.iload_n 2, 1) := by decide +kernel
theorem dX5_keeps_37 : decode cX5_keeps 37 = .ok (.iconst 4, 1) := by decide +kernel
theorem dX5_keeps_38 : decode cX5_keeps 38 = .ok (.idiv, 1) := by decide +kernel
theorem dX5_keeps_39 : decode cX5_keeps 39 = .ok (.ireturn, 1) := by decide +kernel
theorem dX5_keeps_40 : decode cX5_keeps 40 = .ok (.iload_n 2, 1) := by decide +kernel
theorem dX5_keeps_41 : decode cX5_keeps 41 = .ok (.aload_n 0, 1) := by decide +kernel
theorem dX5_keeps_42 : decode cX5_keeps 42 = .ok (.iload_n 1, 1) := by decide +kernel
theorem dX5_keeps_43 : decode cX5_keeps 43 = .ok (.iconst 1, 1) := by decide +kernel
theorem dX5_keeps_44 : decode cX5_keeps 44 = .ok (.invokestatic 48, 3) := by decide +kernel
theorem dX5_keeps_47 : decode cX5_keeps 47 = .ok (.iaload, 1) := by decide +kernel
theorem dX5_keeps_48 : decode cX5_keeps 48 = .ok (.iadd, 1) := by decide +kernel
theorem dX5_keeps_49 : decode cX5_keeps 49 = .ok (.ireturn, 1) := by decide +kernel
theorem dX5_keeps_50 : decode cX5_keeps 50 = .ok (.iload_n 2, 1) := by decide +kernel
theorem dX5_keeps_51 : decode cX5_keeps 51 = .ok (.ireturn, 1) := by decide +kernel
theorem dX5_cools_0 : decode cX5_cools 0 = .ok (.aload_n 0, 1) := by decide +kernel
theorem dX5_cools_1 : decode cX5_cools 1 = .ok (.iload_n 1, 1) := by decide +kernel
theorem dX5_cools_2 : decode cX5_cools 2 = .ok (.iconst 0, 1) := by decide +kernel
theorem dX5_cools_3 : decode cX5_cools 3 = .ok (.invokestatic 48, 3) := by decide +kernel
theorem dX5_cools_6 : decode cX5_cools 6 = .ok (.iaload, 1) := by decide +kernel
theorem dX5_cools_7 : decode cX5_cools 7 = .ok (.tableswitch 47 1 5 #[33, 47, 35, 37, 35], 33) := by decide +kernel
theorem dX5_cools_40 : decode cX5_cools 40 = .ok (.iconst 1, 1) := by decide +kernel
theorem dX5_cools_41 : decode cX5_cools 41 = .ok (.ireturn, 1) := by decide +kernel
theorem dX5_cools_42 : decode cX5_cools 42 = .ok (.iconst 0, 1) := by decide +kernel
theorem dX5_cools_43 : decode cX5_cools 43 = .ok (.ireturn, 1) := by decide +kernel
theorem dX5_cools_44 : decode cX5_cools 44 = .ok (.iconst 2, 1) := by decide +kernel
theorem dX5_cools_45 : decode cX5_cools 45 = .ok (.aload_n 0, 1) := by decide +kernel
theorem dX5_cools_46 : decode cX5_cools 46 = .ok (.iload_n 1, 1) := by decide +kernel
theorem dX5_cools_47 : decode cX5_cools 47 = .ok (.iconst 1, 1) := by decide +kernel
theorem dX5_cools_48 : decode cX5_cools 48 = .ok (.invokestatic 48, 3) := by decide +kernel
theorem dX5_cools_51 : decode cX5_cools 51 = .ok (.iaload, 1) := by decide +kernel
theorem dX5_cools_52 : decode cX5_cools 52 = .ok (.iadd, 1) := by decide +kernel
theorem dX5_cools_53 : decode cX5_cools 53 = .ok (.ireturn, 1) := by decide +kernel
theorem dX5_cools_54 : decode cX5_cools 54 = .ok (.iconst 2, 1) := by decide +kernel
theorem dX5_cools_55 : decode cX5_cools 55 = .ok (.ireturn, 1) := by decide +kernel
theorem dX5_heats_0 : decode cX5_heats 0 = .ok (.aload_n 0, 1) := by decide +kernel
theorem dX5_heats_1 : decode cX5_heats 1 = .ok (.iload_n 1, 1) := by decide +kernel
theorem dX5_heats_2 : decode cX5_heats 2 = .ok (.iconst 4, 1) := by decide +kernel
theorem dX5_heats_3 : decode cX5_heats 3 = .ok (.invokestatic 48, 3) := by decide +kernel
theorem dX5_heats_6 : decode cX5_heats 6 = .ok (.iload_n 2, 1) := by decide +kernel
theorem dX5_heats_7 : decode cX5_heats 7 = .ok (.invokestatic 52, 3) := by decide +kernel
theorem dX5_heats_10 : decode cX5_heats 10 = .ok (.iastore, 1) := by decide +kernel
theorem dX5_heats_11 : decode cX5_heats 11 = .ok (.aload_n 0, 1) := by decide +kernel
theorem dX5_heats_12 : decode cX5_heats 12 = .ok (.iload_n 1, 1) := by decide +kernel
theorem dX5_heats_13 : decode cX5_heats 13 = .ok (.iconst 5, 1) := by decide +kernel
theorem dX5_heats_14 : decode cX5_heats 14 = .ok (.invokestatic 48, 3) := by decide +kernel
theorem dX5_heats_17 : decode cX5_heats 17 = .ok (.iload_n 2, 1) := by decide +kernel
theorem dX5_heats_18 : decode cX5_heats 18 = .ok (.ifCond .le 7, 3) := by decide +kernel
theorem dX5_heats_21 : decode cX5_heats 21 = .ok (.iload_n 3, 1) := by decide +kernel
theorem dX5_heats_22 : decode cX5_heats 22 = .ok (.goto 5, 3) := by decide +kernel
theorem dX5_heats_25 : decode cX5_heats 25 = .ok (.bipush 9, 2) := by decide +kernel
theorem dX5_heats_27 : decode cX5_heats 27 = .ok (.iastore, 1) := by decide +kernel
theorem dX5_heats_28 : decode cX5_heats 28 = .ok (.return_, 1) := by decide +kernel
theorem dX5_coolsTo_0 : decode cX5_coolsTo 0 = .ok (.aload_n 0, 1) := by decide +kernel
theorem dX5_coolsTo_1 : decode cX5_coolsTo 1 = .ok (.iload_n 1, 1) := by decide +kernel
theorem dX5_coolsTo_2 : decode cX5_coolsTo 2 = .ok (.iconst 4, 1) := by decide +kernel
theorem dX5_coolsTo_3 : decode cX5_coolsTo 3 = .ok (.invokestatic 48, 3) := by decide +kernel
theorem dX5_coolsTo_6 : decode cX5_coolsTo 6 = .ok (.iload_n 2, 1) := by decide +kernel
theorem dX5_coolsTo_7 : decode cX5_coolsTo 7 = .ok (.invokestatic 52, 3) := by decide +kernel
theorem dX5_coolsTo_10 : decode cX5_coolsTo 10 = .ok (.iastore, 1) := by decide +kernel
theorem dX5_coolsTo_11 : decode cX5_coolsTo 11 = .ok (.iload_n 2, 1) := by decide +kernel
theorem dX5_coolsTo_12 : decode cX5_coolsTo 12 = .ok (.ifCond .gt 12, 3) := by decide +kernel
theorem dX5_coolsTo_15 : decode cX5_coolsTo 15 = .ok (.aload_n 0, 1) := by decide +kernel
theorem dX5_coolsTo_16 : decode cX5_coolsTo 16 = .ok (.iload_n 1, 1) := by decide +kernel
theorem dX5_coolsTo_17 : decode cX5_coolsTo 17 = .ok (.iconst 5, 1) := by decide +kernel
theorem dX5_coolsTo_18 : decode cX5_coolsTo 18 = .ok (.invokestatic 48, 3) := by decide +kernel
theorem dX5_coolsTo_21 : decode cX5_coolsTo 21 = .ok (.bipush 9, 2) := by decide +kernel
theorem dX5_coolsTo_23 : decode cX5_coolsTo 23 = .ok (.iastore, 1) := by decide +kernel
theorem dX5_coolsTo_24 : decode cX5_coolsTo 24 = .ok (.return_, 1) := by decide +kernel
theorem dX5_says_0 : decode cX5_says 0 = .ok (.aload_n 0, 1) := by decide +kernel
theorem dX5_says_1 : decode cX5_says 1 = .ok (.iload_n 1, 1) := by decide +kernel
theorem dX5_says_2 : decode cX5_says 2 = .ok (.iconst 2, 1) := by decide +kernel
theorem dX5_says_3 : decode cX5_says 3 = .ok (.invokestatic 55, 3) := by decide +kernel
theorem dX5_says_6 : decode cX5_says 6 = .ok (.iaload, 1) := by decide +kernel
theorem dX5_says_7 : decode cX5_says 7 = .ok (.iconst 2, 1) := by decide +kernel
theorem dX5_says_8 : decode cX5_says 8 = .ok (.idiv, 1) := by decide +kernel
theorem dX5_says_9 : decode cX5_says 9 = .ok (.aload_n 0, 1) := by decide +kernel
theorem dX5_says_10 : decode cX5_says 10 = .ok (.iload_n 1, 1) := by decide +kernel
theorem dX5_says_11 : decode cX5_says 11 = .ok (.iconst 0, 1) := by decide +kernel
theorem dX5_says_12 : decode cX5_says 12 = .ok (.invokestatic 55, 3) := by decide +kernel
theorem dX5_says_15 : decode cX5_says 15 = .ok (.iaload, 1) := by decide +kernel
theorem dX5_says_16 : decode cX5_says 16 = .ok (.iadd, 1) := by decide +kernel
theorem dX5_says_17 : decode cX5_says 17 = .ok (.ireturn, 1) := by decide +kernel
theorem dX5_isOf_0 : decode cX5_isOf 0 = .ok (.aload_n 0, 1) := by decide +kernel
theorem dX5_isOf_1 : decode cX5_isOf 1 = .ok (.iload_n 1, 1) := by decide +kernel
theorem dX5_isOf_2 : decode cX5_isOf 2 = .ok (.iconst 2, 1) := by decide +kernel
theorem dX5_isOf_3 : decode cX5_isOf 3 = .ok (.invokestatic 48, 3) := by decide +kernel
theorem dX5_isOf_6 : decode cX5_isOf 6 = .ok (.iaload, 1) := by decide +kernel
theorem dX5_isOf_7 : decode cX5_isOf 7 = .ok (.iload_n 2, 1) := by decide +kernel
theorem dX5_isOf_8 : decode cX5_isOf 8 = .ok (.if_icmp .eq 14, 3) := by decide +kernel
theorem dX5_isOf_11 : decode cX5_isOf 11 = .ok (.aload_n 0, 1) := by decide +kernel
theorem dX5_isOf_12 : decode cX5_isOf 12 = .ok (.iload_n 1, 1) := by decide +kernel
theorem dX5_isOf_13 : decode cX5_isOf 13 = .ok (.iconst 3, 1) := by decide +kernel
theorem dX5_isOf_14 : decode cX5_isOf 14 = .ok (.invokestatic 48, 3) := by decide +kernel
theorem dX5_isOf_17 : decode cX5_isOf 17 = .ok (.iaload, 1) := by decide +kernel
theorem dX5_isOf_18 : decode cX5_isOf 18 = .ok (.iload_n 2, 1) := by decide +kernel
theorem dX5_isOf_19 : decode cX5_isOf 19 = .ok (.if_icmp .ne 7, 3) := by decide +kernel
theorem dX5_isOf_22 : decode cX5_isOf 22 = .ok (.iconst 1, 1) := by decide +kernel
theorem dX5_isOf_23 : decode cX5_isOf 23 = .ok (.goto 4, 3) := by decide +kernel
theorem dX5_isOf_26 : decode cX5_isOf 26 = .ok (.iconst 0, 1) := by decide +kernel
theorem dX5_isOf_27 : decode cX5_isOf 27 = .ok (.ireturn, 1) := by decide +kernel
theorem dX5_beyond_0 : decode cX5_beyond 0 = .ok (.aload_n 0, 1) := by decide +kernel
theorem dX5_beyond_1 : decode cX5_beyond 1 = .ok (.iload_n 1, 1) := by decide +kernel
theorem dX5_beyond_2 : decode cX5_beyond 2 = .ok (.iconst 2, 1) := by decide +kernel
theorem dX5_beyond_3 : decode cX5_beyond 3 = .ok (.invokestatic 48, 3) := by decide +kernel
theorem dX5_beyond_6 : decode cX5_beyond 6 = .ok (.iaload, 1) := by decide +kernel
theorem dX5_beyond_7 : decode cX5_beyond 7 = .ok (.aload_n 0, 1) := by decide +kernel
theorem dX5_beyond_8 : decode cX5_beyond 8 = .ok (.iload_n 1, 1) := by decide +kernel
theorem dX5_beyond_9 : decode cX5_beyond 9 = .ok (.iconst 3, 1) := by decide +kernel
theorem dX5_beyond_10 : decode cX5_beyond 10 = .ok (.invokestatic 48, 3) := by decide +kernel
theorem dX5_beyond_13 : decode cX5_beyond 13 = .ok (.iaload, 1) := by decide +kernel
theorem dX5_beyond_14 : decode cX5_beyond 14 = .ok (.iadd, 1) := by decide +kernel
theorem dX5_beyond_15 : decode cX5_beyond 15 = .ok (.iload_n 2, 1) := by decide +kernel
theorem dX5_beyond_16 : decode cX5_beyond 16 = .ok (.isub, 1) := by decide +kernel
theorem dX5_beyond_17 : decode cX5_beyond 17 = .ok (.ireturn, 1) := by decide +kernel
theorem dX5_opensIn_0 : decode cX5_opensIn 0 = .ok (.aload_n 0, 1) := by decide +kernel
theorem dX5_opensIn_1 : decode cX5_opensIn 1 = .ok (.iload_n 1, 1) := by decide +kernel
theorem dX5_opensIn_2 : decode cX5_opensIn 2 = .ok (.iconst 2, 1) := by decide +kernel
theorem dX5_opensIn_3 : decode cX5_opensIn 3 = .ok (.invokestatic 55, 3) := by decide +kernel
theorem dX5_opensIn_6 : decode cX5_opensIn 6 = .ok (.aload_n 0, 1) := by decide +kernel
theorem dX5_opensIn_7 : decode cX5_opensIn 7 = .ok (.iload_n 1, 1) := by decide +kernel
theorem dX5_opensIn_8 : decode cX5_opensIn 8 = .ok (.iconst 2, 1) := by decide +kernel
theorem dX5_opensIn_9 : decode cX5_opensIn 9 = .ok (.invokestatic 55, 3) := by decide +kernel
theorem dX5_opensIn_12 : decode cX5_opensIn 12 = .ok (.iaload, 1) := by decide +kernel
theorem dX5_opensIn_13 : decode cX5_opensIn 13 = .ok (.aload_n 0, 1) := by decide +kernel
theorem dX5_opensIn_14 : decode cX5_opensIn 14 = .ok (.iload_n 2, 1) := by decide +kernel
theorem dX5_opensIn_15 : decode cX5_opensIn 15 = .ok (.invokestatic 58, 3) := by decide +kernel
theorem dX5_opensIn_18 : decode cX5_opensIn 18 = .ok (.iadd, 1) := by decide +kernel
theorem dX5_opensIn_19 : decode cX5_opensIn 19 = .ok (.invokestatic 52, 3) := by decide +kernel
theorem dX5_opensIn_22 : decode cX5_opensIn 22 = .ok (.iastore, 1) := by decide +kernel
theorem dX5_opensIn_23 : decode cX5_opensIn 23 = .ok (.aload_n 0, 1) := by decide +kernel
theorem dX5_opensIn_24 : decode cX5_opensIn 24 = .ok (.iload_n 2, 1) := by decide +kernel
theorem dX5_opensIn_25 : decode cX5_opensIn 25 = .ok (.aload_n 0, 1) := by decide +kernel
theorem dX5_opensIn_26 : decode cX5_opensIn 26 = .ok (.iload_n 2, 1) := by decide +kernel
theorem dX5_opensIn_27 : decode cX5_opensIn 27 = .ok (.aload_n 0, 1) := by decide +kernel
theorem dX5_opensIn_28 : decode cX5_opensIn 28 = .ok (.iload_n 1, 1) := by decide +kernel
theorem dX5_opensIn_29 : decode cX5_opensIn 29 = .ok (.invokestatic 62, 3) := by decide +kernel
theorem dX5_opensIn_32 : decode cX5_opensIn 32 = .ok (.invokestatic 65, 3) := by decide +kernel
theorem dX5_opensIn_35 : decode cX5_opensIn 35 = .ok (.iload_n 1, 1) := by decide +kernel
theorem dX5_opensIn_36 : decode cX5_opensIn 36 = .ok (.invokestatic 69, 3) := by decide +kernel
theorem dX5_opensIn_39 : decode cX5_opensIn 39 = .ok (.aload_n 0, 1) := by decide +kernel
theorem dX5_opensIn_40 : decode cX5_opensIn 40 = .ok (.iload_n 1, 1) := by decide +kernel
theorem dX5_opensIn_41 : decode cX5_opensIn 41 = .ok (.iconst 1, 1) := by decide +kernel
theorem dX5_opensIn_42 : decode cX5_opensIn 42 = .ok (.invokestatic 55, 3) := by decide +kernel
theorem dX5_opensIn_45 : decode cX5_opensIn 45 = .ok (.aload_n 0, 1) := by decide +kernel
theorem dX5_opensIn_46 : decode cX5_opensIn 46 = .ok (.iload_n 2, 1) := by decide +kernel
theorem dX5_opensIn_47 : decode cX5_opensIn 47 = .ok (.aload_n 0, 1) := by decide +kernel
theorem dX5_opensIn_48 : decode cX5_opensIn 48 = .ok (.iload_n 1, 1) := by decide +kernel
theorem dX5_opensIn_49 : decode cX5_opensIn 49 = .ok (.iconst 1, 1) := by decide +kernel
theorem dX5_opensIn_50 : decode cX5_opensIn 50 = .ok (.invokestatic 55, 3) := by decide +kernel
theorem dX5_opensIn_53 : decode cX5_opensIn 53 = .ok (.iaload, 1) := by decide +kernel
theorem dX5_opensIn_54 : decode cX5_opensIn 54 = .ok (.invokestatic 73, 3) := by decide +kernel
theorem dX5_opensIn_57 : decode cX5_opensIn 57 = .ok (.iastore, 1) := by decide +kernel
theorem dX5_opensIn_58 : decode cX5_opensIn 58 = .ok (.aload_n 0, 1) := by decide +kernel
theorem dX5_opensIn_59 : decode cX5_opensIn 59 = .ok (.iload_n 1, 1) := by decide +kernel
theorem dX5_opensIn_60 : decode cX5_opensIn 60 = .ok (.iconst 2, 1) := by decide +kernel
theorem dX5_opensIn_61 : decode cX5_opensIn 61 = .ok (.invokestatic 55, 3) := by decide +kernel
theorem dX5_opensIn_64 : decode cX5_opensIn 64 = .ok (.aload_n 0, 1) := by decide +kernel
theorem dX5_opensIn_65 : decode cX5_opensIn 65 = .ok (.iload_n 1, 1) := by decide +kernel
theorem dX5_opensIn_66 : decode cX5_opensIn 66 = .ok (.iconst 2, 1) := by decide +kernel
theorem dX5_opensIn_67 : decode cX5_opensIn 67 = .ok (.invokestatic 55, 3) := by decide +kernel
theorem dX5_opensIn_70 : decode cX5_opensIn 70 = .ok (.iaload, 1) := by decide +kernel
theorem dX5_opensIn_71 : decode cX5_opensIn 71 = .ok (.iconst 5, 1) := by decide +kernel
theorem dX5_opensIn_72 : decode cX5_opensIn 72 = .ok (.isub, 1) := by decide +kernel
theorem dX5_opensIn_73 : decode cX5_opensIn 73 = .ok (.invokestatic 52, 3) := by decide +kernel
theorem dX5_opensIn_76 : decode cX5_opensIn 76 = .ok (.iastore, 1) := by decide +kernel
theorem dX5_opensIn_77 : decode cX5_opensIn 77 = .ok (.return_, 1) := by decide +kernel
theorem dX5_hour_0 : decode cX5_hour 0 = .ok (.aload_n 0, 1) := by decide +kernel
theorem dX5_hour_1 : decode cX5_hour 1 = .ok (.iconst 2, 1) := by decide +kernel
theorem dX5_hour_2 : decode cX5_hour 2 = .ok (.dup2, 1) := by decide +kernel
theorem dX5_hour_3 : decode cX5_hour 3 = .ok (.iaload, 1) := by decide +kernel
theorem dX5_hour_4 : decode cX5_hour 4 = .ok (.iconst 1, 1) := by decide +kernel
theorem dX5_hour_5 : decode cX5_hour 5 = .ok (.iadd, 1) := by decide +kernel
theorem dX5_hour_6 : decode cX5_hour 6 = .ok (.iastore, 1) := by decide +kernel
theorem dX5_hour_7 : decode cX5_hour 7 = .ok (.iconst 0, 1) := by decide +kernel
theorem dX5_hour_8 : decode cX5_hour 8 = .ok (.istore_n 1, 1) := by decide +kernel
theorem dX5_hour_9 : decode cX5_hour 9 = .ok (.iload_n 1, 1) := by decide +kernel
theorem dX5_hour_10 : decode cX5_hour 10 = .ok (.aload_n 0, 1) := by decide +kernel
theorem dX5_hour_11 : decode cX5_hour 11 = .ok (.iconst 0, 1) := by decide +kernel
theorem dX5_hour_12 : decode cX5_hour 12 = .ok (.iaload, 1) := by decide +kernel
theorem dX5_hour_13 : decode cX5_hour 13 = .ok (.if_icmp .ge 27, 3) := by decide +kernel
theorem dX5_hour_16 : decode cX5_hour 16 = .ok (.aload_n 0, 1) := by decide +kernel
theorem dX5_hour_17 : decode cX5_hour 17 = .ok (.iload_n 1, 1) := by decide +kernel
theorem dX5_hour_18 : decode cX5_hour 18 = .ok (.aload_n 0, 1) := by decide +kernel
theorem dX5_hour_19 : decode cX5_hour 19 = .ok (.iload_n 1, 1) := by decide +kernel
theorem dX5_hour_20 : decode cX5_hour 20 = .ok (.iconst 4, 1) := by decide +kernel
theorem dX5_hour_21 : decode cX5_hour 21 = .ok (.invokestatic 48, 3) := by decide +kernel
theorem dX5_hour_24 : decode cX5_hour 24 = .ok (.iaload, 1) := by decide +kernel
theorem dX5_hour_25 : decode cX5_hour 25 = .ok (.aload_n 0, 1) := by decide +kernel
theorem dX5_hour_26 : decode cX5_hour 26 = .ok (.iload_n 1, 1) := by decide +kernel
theorem dX5_hour_27 : decode cX5_hour 27 = .ok (.invokestatic 76, 3) := by decide +kernel
theorem dX5_hour_30 : decode cX5_hour 30 = .ok (.isub, 1) := by decide +kernel
theorem dX5_hour_31 : decode cX5_hour 31 = .ok (.invokestatic 79, 3) := by decide +kernel
theorem dX5_hour_34 : decode cX5_hour 34 = .ok (.iinc 1 1, 3) := by decide +kernel
theorem dX5_hour_37 : decode cX5_hour 37 = .ok (.goto (-28), 3) := by decide +kernel
theorem dX5_hour_40 : decode cX5_hour 40 = .ok (.iconst 0, 1) := by decide +kernel
theorem dX5_hour_41 : decode cX5_hour 41 = .ok (.istore_n 1, 1) := by decide +kernel
theorem dX5_hour_42 : decode cX5_hour 42 = .ok (.iload_n 1, 1) := by decide +kernel
theorem dX5_hour_43 : decode cX5_hour 43 = .ok (.aload_n 0, 1) := by decide +kernel
theorem dX5_hour_44 : decode cX5_hour 44 = .ok (.iconst 1, 1) := by decide +kernel
theorem dX5_hour_45 : decode cX5_hour 45 = .ok (.iaload, 1) := by decide +kernel
theorem dX5_hour_46 : decode cX5_hour 46 = .ok (.if_icmp .ge 28, 3) := by decide +kernel
theorem dX5_hour_49 : decode cX5_hour 49 = .ok (.aload_n 0, 1) := by decide +kernel
theorem dX5_hour_50 : decode cX5_hour 50 = .ok (.iload_n 1, 1) := by decide +kernel
theorem dX5_hour_51 : decode cX5_hour 51 = .ok (.iconst 2, 1) := by decide +kernel
theorem dX5_hour_52 : decode cX5_hour 52 = .ok (.invokestatic 55, 3) := by decide +kernel
theorem dX5_hour_55 : decode cX5_hour 55 = .ok (.aload_n 0, 1) := by decide +kernel
theorem dX5_hour_56 : decode cX5_hour 56 = .ok (.iload_n 1, 1) := by decide +kernel
theorem dX5_hour_57 : decode cX5_hour 57 = .ok (.iconst 2, 1) := by decide +kernel
theorem dX5_hour_58 : decode cX5_hour 58 = .ok (.invokestatic 55, 3) := by decide +kernel
theorem dX5_hour_61 : decode cX5_hour 61 = .ok (.iaload, 1) := by decide +kernel
theorem dX5_hour_62 : decode cX5_hour 62 = .ok (.iconst 3, 1) := by decide +kernel
theorem dX5_hour_63 : decode cX5_hour 63 = .ok (.isub, 1) := by decide +kernel
theorem dX5_hour_64 : decode cX5_hour 64 = .ok (.invokestatic 52, 3) := by decide +kernel
theorem dX5_hour_67 : decode cX5_hour 67 = .ok (.iastore, 1) := by decide +kernel
theorem dX5_hour_68 : decode cX5_hour 68 = .ok (.iinc 1 1, 3) := by decide +kernel
theorem dX5_hour_71 : decode cX5_hour 71 = .ok (.goto (-29), 3) := by decide +kernel
theorem dX5_hour_74 : decode cX5_hour 74 = .ok (.return_, 1) := by decide +kernel
theorem dX5_hoursOn_0 : decode cX5_hoursOn 0 = .ok (.iconst 0, 1) := by decide +kernel
theorem dX5_hoursOn_1 : decode cX5_hoursOn 1 = .ok (.istore_n 2, 1) := by decide +kernel
theorem dX5_hoursOn_2 : decode cX5_hoursOn 2 = .ok (.iload_n 2, 1) := by decide +kernel
theorem dX5_hoursOn_3 : decode cX5_hoursOn 3 = .ok (.iload_n 1, 1) := by decide +kernel
theorem dX5_hoursOn_4 : decode cX5_hoursOn 4 = .ok (.if_icmp .ge 13, 3) := by decide +kernel
theorem dX5_hoursOn_7 : decode cX5_hoursOn 7 = .ok (.aload_n 0, 1) := by decide +kernel
theorem dX5_hoursOn_8 : decode cX5_hoursOn 8 = .ok (.invokestatic 83, 3) := by decide +kernel
theorem dX5_hoursOn_11 : decode cX5_hoursOn 11 = .ok (.iinc 2 1, 3) := by decide +kernel
theorem dX5_hoursOn_14 : decode cX5_hoursOn 14 = .ok (.goto (-12), 3) := by decide +kernel
theorem dX5_hoursOn_17 : decode cX5_hoursOn 17 = .ok (.return_, 1) := by decide +kernel
theorem dX5_allHeat_0 : decode cX5_allHeat 0 = .ok (.iconst 0, 1) := by decide +kernel
theorem dX5_allHeat_1 : decode cX5_allHeat 1 = .ok (.istore_n 1, 1) := by decide +kernel
theorem dX5_allHeat_2 : decode cX5_allHeat 2 = .ok (.iconst 0, 1) := by decide +kernel
theorem dX5_allHeat_3 : decode cX5_allHeat 3 = .ok (.istore_n 2, 1) := by decide +kernel
theorem dX5_allHeat_4 : decode cX5_allHeat 4 = .ok (.iload_n 2, 1) := by decide +kernel
theorem dX5_allHeat_5 : decode cX5_allHeat 5 = .ok (.aload_n 0, 1) := by decide +kernel
theorem dX5_allHeat_6 : decode cX5_allHeat 6 = .ok (.iconst 0, 1) := by decide +kernel
theorem dX5_allHeat_7 : decode cX5_allHeat 7 = .ok (.iaload, 1) := by decide +kernel
theorem dX5_allHeat_8 : decode cX5_allHeat 8 = .ok (.if_icmp .ge 19, 3) := by decide +kernel
theorem dX5_allHeat_11 : decode cX5_allHeat 11 = .ok (.iload_n 1, 1) := by decide +kernel
theorem dX5_allHeat_12 : decode cX5_allHeat 12 = .ok (.aload_n 0, 1) := by decide +kernel
theorem dX5_allHeat_13 : decode cX5_allHeat 13 = .ok (.iload_n 2, 1) := by decide +kernel
theorem dX5_allHeat_14 : decode cX5_allHeat 14 = .ok (.iconst 4, 1) := by decide +kernel
theorem dX5_allHeat_15 : decode cX5_allHeat 15 = .ok (.invokestatic 48, 3) := by decide +kernel
theorem dX5_allHeat_18 : decode cX5_allHeat 18 = .ok (.iaload, 1) := by decide +kernel
theorem dX5_allHeat_19 : decode cX5_allHeat 19 = .ok (.iadd, 1) := by decide +kernel
theorem dX5_allHeat_20 : decode cX5_allHeat 20 = .ok (.istore_n 1, 1) := by decide +kernel
theorem dX5_allHeat_21 : decode cX5_allHeat 21 = .ok (.iinc 2 1, 3) := by decide +kernel
theorem dX5_allHeat_24 : decode cX5_allHeat 24 = .ok (.goto (-20), 3) := by decide +kernel
theorem dX5_allHeat_27 : decode cX5_allHeat 27 = .ok (.iload_n 1, 1) := by decide +kernel
theorem dX5_allHeat_28 : decode cX5_allHeat 28 = .ok (.ireturn, 1) := by decide +kernel
theorem dX5_allMoods_0 : decode cX5_allMoods 0 = .ok (.iconst 0, 1) := by decide +kernel
theorem dX5_allMoods_1 : decode cX5_allMoods 1 = .ok (.istore_n 1, 1) := by decide +kernel
theorem dX5_allMoods_2 : decode cX5_allMoods 2 = .ok (.iconst 0, 1) := by decide +kernel
theorem dX5_allMoods_3 : decode cX5_allMoods 3 = .ok (.istore_n 2, 1) := by decide +kernel
theorem dX5_allMoods_4 : decode cX5_allMoods 4 = .ok (.iload_n 2, 1) := by decide +kernel
theorem dX5_allMoods_5 : decode cX5_allMoods 5 = .ok (.aload_n 0, 1) := by decide +kernel
theorem dX5_allMoods_6 : decode cX5_allMoods 6 = .ok (.iconst 1, 1) := by decide +kernel
theorem dX5_allMoods_7 : decode cX5_allMoods 7 = .ok (.iaload, 1) := by decide +kernel
theorem dX5_allMoods_8 : decode cX5_allMoods 8 = .ok (.if_icmp .ge 19, 3) := by decide +kernel
theorem dX5_allMoods_11 : decode cX5_allMoods 11 = .ok (.iload_n 1, 1) := by decide +kernel
theorem dX5_allMoods_12 : decode cX5_allMoods 12 = .ok (.aload_n 0, 1) := by decide +kernel
theorem dX5_allMoods_13 : decode cX5_allMoods 13 = .ok (.iload_n 2, 1) := by decide +kernel
theorem dX5_allMoods_14 : decode cX5_allMoods 14 = .ok (.iconst 2, 1) := by decide +kernel
theorem dX5_allMoods_15 : decode cX5_allMoods 15 = .ok (.invokestatic 55, 3) := by decide +kernel
theorem dX5_allMoods_18 : decode cX5_allMoods 18 = .ok (.iaload, 1) := by decide +kernel
theorem dX5_allMoods_19 : decode cX5_allMoods 19 = .ok (.iadd, 1) := by decide +kernel
theorem dX5_allMoods_20 : decode cX5_allMoods 20 = .ok (.istore_n 1, 1) := by decide +kernel
theorem dX5_allMoods_21 : decode cX5_allMoods 21 = .ok (.iinc 2 1, 3) := by decide +kernel
theorem dX5_allMoods_24 : decode cX5_allMoods 24 = .ok (.goto (-20), 3) := by decide +kernel
theorem dX5_allMoods_27 : decode cX5_allMoods 27 = .ok (.iload_n 1, 1) := by decide +kernel
theorem dX5_allMoods_28 : decode cX5_allMoods 28 = .ok (.ireturn, 1) := by decide +kernel
theorem dX5_letter_0 : decode cX5_letter 0 = .ok (.iload_n 1, 1) := by decide +kernel
theorem dX5_letter_1 : decode cX5_letter 1 = .ok (.ifCond .ge 10, 3) := by decide +kernel
theorem dX5_letter_4 : decode cX5_letter 4 = .ok (.aload_n 0, 1) := by decide +kernel
theorem dX5_letter_5 : decode cX5_letter 5 = .ok (.bipush (-4), 2) := by decide +kernel
theorem dX5_letter_7 : decode cX5_letter 7 = .ok (.invokevirtual 38, 3) := by decide +kernel
theorem dX5_letter_10 : decode cX5_letter 10 = .ok (.ireturn, 1) := by decide +kernel
theorem dX5_letter_11 : decode cX5_letter 11 = .ok (.iload_n 1, 1) := by decide +kernel
theorem dX5_letter_12 : decode cX5_letter 12 = .ok (.sipush 255, 3) := by decide +kernel
theorem dX5_letter_15 : decode cX5_letter 15 = .ok (.if_icmp .gt 12, 3) := by decide +kernel
theorem dX5_letter_18 : decode cX5_letter 18 = .ok (.aload_n 0, 1) := by decide +kernel
theorem dX5_letter_19 : decode cX5_letter 19 = .ok (.getfield 87, 3) := by decide +kernel
theorem dX5_letter_22 : decode cX5_letter 22 = .ok (.bipush 96, 2) := by decide +kernel
theorem dX5_letter_24 : decode cX5_letter 24 = .ok (.if_icmp .ne 10, 3) := by decide +kernel
theorem dX5_letter_27 : decode cX5_letter 27 = .ok (.aload_n 0, 1) := by decide +kernel
theorem dX5_letter_28 : decode cX5_letter 28 = .ok (.bipush (-6), 2) := by decide +kernel
theorem dX5_letter_30 : decode cX5_letter 30 = .ok (.invokevirtual 38, 3) := by decide +kernel
theorem dX5_letter_33 : decode cX5_letter 33 = .ok (.ireturn, 1) := by decide +kernel
theorem dX5_letter_34 : decode cX5_letter 34 = .ok (.aload_n 0, 1) := by decide +kernel
theorem dX5_letter_35 : decode cX5_letter 35 = .ok (.getfield 22, 3) := by decide +kernel
theorem dX5_letter_38 : decode cX5_letter 38 = .ok (.aload_n 0, 1) := by decide +kernel
theorem dX5_letter_39 : decode cX5_letter 39 = .ok (.getfield 87, 3) := by decide +kernel
theorem dX5_letter_42 : decode cX5_letter 42 = .ok (.iload_n 1, 1) := by decide +kernel
theorem dX5_letter_43 : decode cX5_letter 43 = .ok (.iastore, 1) := by decide +kernel
theorem dX5_letter_44 : decode cX5_letter 44 = .ok (.aload_n 0, 1) := by decide +kernel
theorem dX5_letter_45 : decode cX5_letter 45 = .ok (.dup, 1) := by decide +kernel
theorem dX5_letter_46 : decode cX5_letter 46 = .ok (.getfield 87, 3) := by decide +kernel
theorem dX5_letter_49 : decode cX5_letter 49 = .ok (.iconst 1, 1) := by decide +kernel
theorem dX5_letter_50 : decode cX5_letter 50 = .ok (.iadd, 1) := by decide +kernel
theorem dX5_letter_51 : decode cX5_letter 51 = .ok (.putfield 87, 3) := by decide +kernel
theorem dX5_letter_54 : decode cX5_letter 54 = .ok (.aload_n 0, 1) := by decide +kernel
theorem dX5_letter_55 : decode cX5_letter 55 = .ok (.getfield 87, 3) := by decide +kernel
theorem dX5_letter_58 : decode cX5_letter 58 = .ok (.ireturn, 1) := by decide +kernel
theorem dX5_here_0 : decode cX5_here 0 = .ok (.aload_n 0, 1) := by decide +kernel
theorem dX5_here_1 : decode cX5_here 1 = .ok (.getfield 91, 3) := by decide +kernel
theorem dX5_here_4 : decode cX5_here 4 = .ok (.aload_n 0, 1) := by decide +kernel
theorem dX5_here_5 : decode cX5_here 5 = .ok (.getfield 87, 3) := by decide +kernel
theorem dX5_here_8 : decode cX5_here 8 = .ok (.if_icmp .ge 15, 3) := by decide +kernel
theorem dX5_here_11 : decode cX5_here 11 = .ok (.aload_n 0, 1) := by decide +kernel
theorem dX5_here_12 : decode cX5_here 12 = .ok (.getfield 22, 3) := by decide +kernel
theorem dX5_here_15 : decode cX5_here 15 = .ok (.aload_n 0, 1) := by decide +kernel
theorem dX5_here_16 : decode cX5_here 16 = .ok (.getfield 91, 3) := by decide +kernel
theorem dX5_here_19 : decode cX5_here 19 = .ok (.iaload, 1) := by decide +kernel
theorem dX5_here_20 : decode cX5_here 20 = .ok (.goto 4, 3) := by decide +kernel
theorem dX5_here_23 : decode cX5_here 23 = .ok (.iconst (-1), 1) := by decide +kernel
theorem dX5_here_24 : decode cX5_here 24 = .ok (.ireturn, 1) := by decide +kernel
theorem dX5_readsNumber_0 : decode cX5_readsNumber 0 = .ok (.aload_n 0, 1) := by decide +kernel
theorem dX5_readsNumber_1 : decode cX5_readsNumber 1 = .ok (.getfield 31, 3) := by decide +kernel
theorem dX5_readsNumber_4 : decode cX5_readsNumber 4 = .ok (.iload_n 1, 1) := by decide +kernel
theorem dX5_readsNumber_5 : decode cX5_readsNumber 5 = .ok (.iconst 0, 1) := by decide +kernel
theorem dX5_readsNumber_6 : decode cX5_readsNumber 6 = .ok (.iastore, 1) := by decide +kernel
theorem dX5_readsNumber_7 : decode cX5_readsNumber 7 = .ok (.iconst 0, 1) := by decide +kernel
theorem dX5_readsNumber_8 : decode cX5_readsNumber 8 = .ok (.istore_n 3, 1) := by decide +kernel
theorem dX5_readsNumber_9 : decode cX5_readsNumber 9 = .ok (.iload_n 3, 1) := by decide +kernel
theorem dX5_readsNumber_10 : decode cX5_readsNumber 10 = .ok (.iload_n 2, 1) := by decide +kernel
theorem dX5_readsNumber_11 : decode cX5_readsNumber 11 = .ok (.if_icmp .ge 58, 3) := by decide +kernel
theorem dX5_readsNumber_14 : decode cX5_readsNumber 14 = .ok (.aload_n 0, 1) := by decide +kernel
theorem dX5_readsNumber_15 : decode cX5_readsNumber 15 = .ok (.invokevirtual 94, 3) := by decide +kernel
theorem dX5_readsNumber_18 : decode cX5_readsNumber 18 = .ok (.bipush 48, 2) := by decide +kernel
theorem dX5_readsNumber_20 : decode cX5_readsNumber 20 = .ok (.bipush 57, 2) := by decide +kernel
theorem dX5_readsNumber_22 : decode cX5_readsNumber 22 = .ok (.invokestatic 44, 3) := by decide +kernel
theorem dX5_readsNumber_25 : decode cX5_readsNumber 25 = .ok (.ifCond .ne 5, 3) := by decide +kernel
theorem dX5_readsNumber_28 : decode cX5_readsNumber 28 = .ok (.iconst 0, 1) := by decide +kernel
theorem dX5_readsNumber_29 : decode cX5_readsNumber 29 = .ok (.ireturn, 1) := by decide +kernel
theorem dX5_readsNumber_30 : decode cX5_readsNumber 30 = .ok (.aload_n 0, 1) := by decide +kernel
theorem dX5_readsNumber_31 : decode cX5_readsNumber 31 = .ok (.getfield 31, 3) := by decide +kernel
theorem dX5_readsNumber_34 : decode cX5_readsNumber 34 = .ok (.iload_n 1, 1) := by decide +kernel
theorem dX5_readsNumber_35 : decode cX5_readsNumber 35 = .ok (.bipush 10, 2) := by decide +kernel
theorem dX5_readsNumber_37 : decode cX5_readsNumber 37 = .ok (.aload_n 0, 1) := by decide +kernel
theorem dX5_readsNumber_38 : decode cX5_readsNumber 38 = .ok (.getfield 31, 3) := by decide +kernel
theorem dX5_readsNumber_41 : decode cX5_readsNumber 41 = .ok (.iload_n 1, 1) := by decide +kernel
theorem dX5_readsNumber_42 : decode cX5_readsNumber 42 = .ok (.iaload, 1) := by decide +kernel
theorem dX5_readsNumber_43 : decode cX5_readsNumber 43 = .ok (.imul, 1) := by decide +kernel
theorem dX5_readsNumber_44 : decode cX5_readsNumber 44 = .ok (.aload_n 0, 1) := by decide +kernel
theorem dX5_readsNumber_45 : decode cX5_readsNumber 45 = .ok (.invokevirtual 94, 3) := by decide +kernel
theorem dX5_readsNumber_48 : decode cX5_readsNumber 48 = .ok (.iadd, 1) := by decide +kernel
theorem dX5_readsNumber_49 : decode cX5_readsNumber 49 = .ok (.bipush 48, 2) := by decide +kernel
theorem dX5_readsNumber_51 : decode cX5_readsNumber 51 = .ok (.isub, 1) := by decide +kernel
theorem dX5_readsNumber_52 : decode cX5_readsNumber 52 = .ok (.iastore, 1) := by decide +kernel
theorem dX5_readsNumber_53 : decode cX5_readsNumber 53 = .ok (.aload_n 0, 1) := by decide +kernel
theorem dX5_readsNumber_54 : decode cX5_readsNumber 54 = .ok (.dup, 1) := by decide +kernel
theorem dX5_readsNumber_55 : decode cX5_readsNumber 55 = .ok (.getfield 91, 3) := by decide +kernel
theorem dX5_readsNumber_58 : decode cX5_readsNumber 58 = .ok (.iconst 1, 1) := by decide +kernel
theorem dX5_readsNumber_59 : decode cX5_readsNumber 59 = .ok (.iadd, 1) := by decide +kernel
theorem dX5_readsNumber_60 : decode cX5_readsNumber 60 = .ok (.putfield 91, 3) := by decide +kernel
theorem dX5_readsNumber_63 : decode cX5_readsNumber 63 = .ok (.iinc 3 1, 3) := by decide +kernel
theorem dX5_readsNumber_66 : decode cX5_readsNumber 66 = .ok (.goto (-57), 3) := by decide +kernel
theorem dX5_readsNumber_69 : decode cX5_readsNumber 69 = .ok (.iconst 1, 1) := by decide +kernel
theorem dX5_readsNumber_70 : decode cX5_readsNumber 70 = .ok (.ireturn, 1) := by decide +kernel
theorem dX5_kindBy_0 : decode cX5_kindBy 0 = .ok (.iload_n 0, 1) := by decide +kernel
theorem dX5_kindBy_1 : decode cX5_kindBy 1 = .ok (.tableswitch 99 98 115 #[97, 91, 87, 99, 99, 95, 99, 99, 99, 99, 99, 99, 99, 89, 99, 99, 99, 93], 87) := by decide +kernel
theorem dX5_kindBy_88 : decode cX5_kindBy 88 = .ok (.iconst 0, 1) := by decide +kernel
theorem dX5_kindBy_89 : decode cX5_kindBy 89 = .ok (.ireturn, 1) := by decide +kernel
theorem dX5_kindBy_90 : decode cX5_kindBy 90 = .ok (.iconst 1, 1) := by decide +kernel
theorem dX5_kindBy_91 : decode cX5_kindBy 91 = .ok (.ireturn, 1) := by decide +kernel
theorem dX5_kindBy_92 : decode cX5_kindBy 92 = .ok (.iconst 2, 1) := by decide +kernel
theorem dX5_kindBy_93 : decode cX5_kindBy 93 = .ok (.ireturn, 1) := by decide +kernel
theorem dX5_kindBy_94 : decode cX5_kindBy 94 = .ok (.iconst 3, 1) := by decide +kernel
theorem dX5_kindBy_95 : decode cX5_kindBy 95 = .ok (.ireturn, 1) := by decide +kernel
theorem dX5_kindBy_96 : decode cX5_kindBy 96 = .ok (.iconst 4, 1) := by decide +kernel
theorem dX5_kindBy_97 : decode cX5_kindBy 97 = .ok (.ireturn, 1) := by decide +kernel
theorem dX5_kindBy_98 : decode cX5_kindBy 98 = .ok (.iconst 5, 1) := by decide +kernel
theorem dX5_kindBy_99 : decode cX5_kindBy 99 = .ok (.ireturn, 1) := by decide +kernel
theorem dX5_kindBy_100 : decode cX5_kindBy 100 = .ok (.bipush (-9), 2) := by decide +kernel
theorem dX5_kindBy_102 : decode cX5_kindBy 102 = .ok (.ireturn, 1) := by decide +kernel
theorem dX5_readsKind_0 : decode cX5_readsKind 0 = .ok (.aload_n 0, 1) := by decide +kernel
theorem dX5_readsKind_1 : decode cX5_readsKind 1 = .ok (.getfield 31, 3) := by decide +kernel
theorem dX5_readsKind_4 : decode cX5_readsKind 4 = .ok (.iconst 0, 1) := by decide +kernel
theorem dX5_readsKind_5 : decode cX5_readsKind 5 = .ok (.aload_n 0, 1) := by decide +kernel
theorem dX5_readsKind_6 : decode cX5_readsKind 6 = .ok (.invokevirtual 94, 3) := by decide +kernel
theorem dX5_readsKind_9 : decode cX5_readsKind 9 = .ok (.invokestatic 98, 3) := by decide +kernel
theorem dX5_readsKind_12 : decode cX5_readsKind 12 = .ok (.iastore, 1) := by decide +kernel
theorem dX5_readsKind_13 : decode cX5_readsKind 13 = .ok (.aload_n 0, 1) := by decide +kernel
theorem dX5_readsKind_14 : decode cX5_readsKind 14 = .ok (.dup, 1) := by decide +kernel
theorem dX5_readsKind_15 : decode cX5_readsKind 15 = .ok (.getfield 91, 3) := by decide +kernel
theorem dX5_readsKind_18 : decode cX5_readsKind 18 = .ok (.aload_n 0, 1) := by decide +kernel
theorem dX5_readsKind_19 : decode cX5_readsKind 19 = .ok (.getfield 31, 3) := by decide +kernel
theorem dX5_readsKind_22 : decode cX5_readsKind 22 = .ok (.iconst 0, 1) := by decide +kernel
theorem dX5_readsKind_23 : decode cX5_readsKind 23 = .ok (.iaload, 1) := by decide +kernel
theorem dX5_readsKind_24 : decode cX5_readsKind 24 = .ok (.ifCond .ge 7, 3) := by decide +kernel
theorem dX5_readsKind_27 : decode cX5_readsKind 27 = .ok (.iconst 0, 1) := by decide +kernel
theorem dX5_readsKind_28 : decode cX5_readsKind 28 = .ok (.goto 4, 3) := by decide +kernel
theorem dX5_readsKind_31 : decode cX5_readsKind 31 = .ok (.iconst 1, 1) := by decide +kernel
theorem dX5_readsKind_32 : decode cX5_readsKind 32 = .ok (.iadd, 1) := by decide +kernel
theorem dX5_readsKind_33 : decode cX5_readsKind 33 = .ok (.putfield 91, 3) := by decide +kernel
theorem dX5_readsKind_36 : decode cX5_readsKind 36 = .ok (.aload_n 0, 1) := by decide +kernel
theorem dX5_readsKind_37 : decode cX5_readsKind 37 = .ok (.getfield 31, 3) := by decide +kernel
theorem dX5_readsKind_40 : decode cX5_readsKind 40 = .ok (.iconst 0, 1) := by decide +kernel
theorem dX5_readsKind_41 : decode cX5_readsKind 41 = .ok (.iaload, 1) := by decide +kernel
theorem dX5_readsKind_42 : decode cX5_readsKind 42 = .ok (.ifCond .lt 7, 3) := by decide +kernel
theorem dX5_readsKind_45 : decode cX5_readsKind 45 = .ok (.iconst 1, 1) := by decide +kernel
theorem dX5_readsKind_46 : decode cX5_readsKind 46 = .ok (.goto 4, 3) := by decide +kernel
theorem dX5_readsKind_49 : decode cX5_readsKind 49 = .ok (.iconst 0, 1) := by decide +kernel
theorem dX5_readsKind_50 : decode cX5_readsKind 50 = .ok (.ireturn, 1) := by decide +kernel
theorem dX5_readsStatement_0 : decode cX5_readsStatement 0 = .ok (.aload_n 0, 1) := by decide +kernel
theorem dX5_readsStatement_1 : decode cX5_readsStatement 1 = .ok (.invokevirtual 94, 3) := by decide +kernel
theorem dX5_readsStatement_4 : decode cX5_readsStatement 4 = .ok (.istore_n 1, 1) := by decide +kernel
theorem dX5_readsStatement_5 : decode cX5_readsStatement 5 = .ok (.aload_n 0, 1) := by decide +kernel
theorem dX5_readsStatement_6 : decode cX5_readsStatement 6 = .ok (.dup, 1) := by decide +kernel
theorem dX5_readsStatement_7 : decode cX5_readsStatement 7 = .ok (.getfield 91, 3) := by decide +kernel
theorem dX5_readsStatement_10 : decode cX5_readsStatement 10 = .ok (.iconst 1, 1) := by decide +kernel
theorem dX5_readsStatement_11 : decode cX5_readsStatement 11 = .ok (.iadd, 1) := by decide +kernel
theorem dX5_readsStatement_12 : decode cX5_readsStatement 12 = .ok (.putfield 91, 3) := by decide +kernel
theorem dX5_readsStatement_15 : decode cX5_readsStatement 15 = .ok (.iload_n 1, 1) := by decide +kernel
theorem dX5_readsStatement_16 : decode cX5_readsStatement 16 = .ok (.tableswitch 210 97 113 #[190, 210, 210, 84, 210, 210, 210, 200, 210, 210, 210, 210, 210, 210, 127, 127, 154], 84) := by decide +kernel
theorem dX5_readsStatement_100 : decode cX5_readsStatement 100 = .ok (.aload_n 0, 1) := by decide +kernel
theorem dX5_readsStatement_101 : decode cX5_readsStatement 101 = .ok (.invokevirtual 101, 3) := by decide +kernel
theorem dX5_readsStatement_104 : decode cX5_readsStatement 104 = .ok (.ifCond .eq 34, 3) := by decide +kernel
theorem dX5_readsStatement_107 : decode cX5_readsStatement 107 = .ok (.aload_n 0, 1) := by decide +kernel
theorem dX5_readsStatement_108 : decode cX5_readsStatement 108 = .ok (.iconst 1, 1) := by decide +kernel
theorem dX5_readsStatement_109 : decode cX5_readsStatement 109 = .ok (.iconst 1, 1) := by decide +kernel
theorem dX5_readsStatement_110 : decode cX5_readsStatement 110 = .ok (.invokevirtual 105, 3) := by decide +kernel
theorem dX5_readsStatement_113 : decode cX5_readsStatement 113 = .ok (.ifCond .eq 25, 3) := by decide +kernel
theorem dX5_readsStatement_116 : decode cX5_readsStatement 116 = .ok (.aload_n 0, 1) := by decide +kernel
theorem dX5_readsStatement_117 : decode cX5_readsStatement 117 = .ok (.iconst 2, 1) := by decide +kernel
theorem dX5_readsStatement_118 : decode cX5_readsStatement 118 = .ok (.iconst 1, 1) := by decide +kernel
theorem dX5_readsStatement_119 : decode cX5_readsStatement 119 = .ok (.invokevirtual 105, 3) := by decide +kernel
theorem dX5_readsStatement_122 : decode cX5_readsStatement 122 = .ok (.ifCond .eq 16, 3) := by decide +kernel
theorem dX5_readsStatement_125 : decode cX5_readsStatement 125 = .ok (.aload_n 0, 1) := by decide +kernel
theorem dX5_readsStatement_126 : decode cX5_readsStatement 126 = .ok (.iconst 3, 1) := by decide +kernel
theorem dX5_readsStatement_127 : decode cX5_readsStatement 127 = .ok (.iconst 1, 1) := by decide +kernel
theorem dX5_readsStatement_128 : decode cX5_readsStatement 128 = .ok (.invokevirtual 105, 3) := by decide +kernel
theorem dX5_readsStatement_131 : decode cX5_readsStatement 131 = .ok (.ifCond .eq 7, 3) := by decide +kernel
theorem dX5_readsStatement_134 : decode cX5_readsStatement 134 = .ok (.iconst 1, 1) := by decide +kernel
theorem dX5_readsStatement_135 : decode cX5_readsStatement 135 = .ok (.goto 4, 3) := by decide +kernel
theorem dX5_readsStatement_138 : decode cX5_readsStatement 138 = .ok (.iconst 0, 1) := by decide +kernel
theorem dX5_readsStatement_139 : decode cX5_readsStatement 139 = .ok (.istore_n 2, 1) := by decide +kernel
theorem dX5_readsStatement_140 : decode cX5_readsStatement 140 = .ok (.goto 98, 3) := by decide +kernel
theorem dX5_readsStatement_143 : decode cX5_readsStatement 143 = .ok (.aload_n 0, 1) := by decide +kernel
theorem dX5_readsStatement_144 : decode cX5_readsStatement 144 = .ok (.iconst 0, 1) := by decide +kernel
theorem dX5_readsStatement_145 : decode cX5_readsStatement 145 = .ok (.iconst 1, 1) := by decide +kernel
theorem dX5_readsStatement_146 : decode cX5_readsStatement 146 = .ok (.invokevirtual 105, 3) := by decide +kernel
theorem dX5_readsStatement_149 : decode cX5_readsStatement 149 = .ok (.ifCond .eq 16, 3) := by decide +kernel
theorem dX5_readsStatement_152 : decode cX5_readsStatement 152 = .ok (.aload_n 0, 1) := by decide +kernel
theorem dX5_readsStatement_153 : decode cX5_readsStatement 153 = .ok (.iconst 1, 1) := by decide +kernel
theorem dX5_readsStatement_154 : decode cX5_readsStatement 154 = .ok (.iconst 1, 1) := by decide +kernel
theorem dX5_readsStatement_155 : decode cX5_readsStatement 155 = .ok (.invokevirtual 105, 3) := by decide +kernel
theorem dX5_readsStatement_158 : decode cX5_readsStatement 158 = .ok (.ifCond .eq 7, 3) := by decide +kernel
theorem dX5_readsStatement_161 : decode cX5_readsStatement 161 = .ok (.iconst 1, 1) := by decide +kernel
theorem dX5_readsStatement_162 : decode cX5_readsStatement 162 = .ok (.goto 4, 3) := by decide +kernel
theorem dX5_readsStatement_165 : decode cX5_readsStatement 165 = .ok (.iconst 0, 1) := by decide +kernel
theorem dX5_readsStatement_166 : decode cX5_readsStatement 166 = .ok (.istore_n 2, 1) := by decide +kernel
theorem dX5_readsStatement_167 : decode cX5_readsStatement 167 = .ok (.goto 71, 3) := by decide +kernel
theorem dX5_readsStatement_170 : decode cX5_readsStatement 170 = .ok (.aload_n 0, 1) := by decide +kernel
theorem dX5_readsStatement_171 : decode cX5_readsStatement 171 = .ok (.iconst 0, 1) := by decide +kernel
theorem dX5_readsStatement_172 : decode cX5_readsStatement 172 = .ok (.iconst 1, 1) := by decide +kernel
theorem dX5_readsStatement_173 : decode cX5_readsStatement 173 = .ok (.invokevirtual 105, 3) := by decide +kernel
theorem dX5_readsStatement_176 : decode cX5_readsStatement 176 = .ok (.ifCond .eq 25, 3) := by decide +kernel
theorem dX5_readsStatement_179 : decode cX5_readsStatement 179 = .ok (.aload_n 0, 1) := by decide +kernel
theorem dX5_readsStatement_180 : decode cX5_readsStatement 180 = .ok (.iconst 1, 1) := by decide +kernel
theorem dX5_readsStatement_181 : decode cX5_readsStatement 181 = .ok (.iconst 2, 1) := by decide +kernel
theorem dX5_readsStatement_182 : decode cX5_readsStatement 182 = .ok (.invokevirtual 105, 3) := by decide +kernel
theorem dX5_readsStatement_185 : decode cX5_readsStatement 185 = .ok (.ifCond .eq 16, 3) := by decide +kernel
theorem dX5_readsStatement_188 : decode cX5_readsStatement 188 = .ok (.aload_n 0, 1) := by decide +kernel
theorem dX5_readsStatement_189 : decode cX5_readsStatement 189 = .ok (.iconst 2, 1) := by decide +kernel
theorem dX5_readsStatement_190 : decode cX5_readsStatement 190 = .ok (.iconst 1, 1) := by decide +kernel
theorem dX5_readsStatement_191 : decode cX5_readsStatement 191 = .ok (.invokevirtual 105, 3) := by decide +kernel
theorem dX5_readsStatement_194 : decode cX5_readsStatement 194 = .ok (.ifCond .eq 7, 3) := by decide +kernel
theorem dX5_readsStatement_197 : decode cX5_readsStatement 197 = .ok (.iconst 1, 1) := by decide +kernel
theorem dX5_readsStatement_198 : decode cX5_readsStatement 198 = .ok (.goto 4, 3) := by decide +kernel
theorem dX5_readsStatement_201 : decode cX5_readsStatement 201 = .ok (.iconst 0, 1) := by decide +kernel
theorem dX5_readsStatement_202 : decode cX5_readsStatement 202 = .ok (.istore_n 2, 1) := by decide +kernel
theorem dX5_readsStatement_203 : decode cX5_readsStatement 203 = .ok (.goto 35, 3) := by decide +kernel
theorem dX5_readsStatement_206 : decode cX5_readsStatement 206 = .ok (.aload_n 0, 1) := by decide +kernel
theorem dX5_readsStatement_207 : decode cX5_readsStatement 207 = .ok (.iconst 0, 1) := by decide +kernel
theorem dX5_readsStatement_208 : decode cX5_readsStatement 208 = .ok (.iconst 1, 1) := by decide +kernel
theorem dX5_readsStatement_209 : decode cX5_readsStatement 209 = .ok (.invokevirtual 105, 3) := by decide +kernel
theorem dX5_readsStatement_212 : decode cX5_readsStatement 212 = .ok (.istore_n 2, 1) := by decide +kernel
theorem dX5_readsStatement_213 : decode cX5_readsStatement 213 = .ok (.goto 25, 3) := by decide +kernel
theorem dX5_readsStatement_216 : decode cX5_readsStatement 216 = .ok (.aload_n 0, 1) := by decide +kernel
theorem dX5_readsStatement_217 : decode cX5_readsStatement 217 = .ok (.iconst 0, 1) := by decide +kernel
theorem dX5_readsStatement_218 : decode cX5_readsStatement 218 = .ok (.iconst 2, 1) := by decide +kernel
theorem dX5_readsStatement_219 : decode cX5_readsStatement 219 = .ok (.invokevirtual 105, 3) := by decide +kernel
theorem dX5_readsStatement_222 : decode cX5_readsStatement 222 = .ok (.istore_n 2, 1) := by decide +kernel
theorem dX5_readsStatement_223 : decode cX5_readsStatement 223 = .ok (.goto 15, 3) := by decide +kernel
theorem dX5_readsStatement_226 : decode cX5_readsStatement 226 = .ok (.aload_n 0, 1) := by decide +kernel
theorem dX5_readsStatement_227 : decode cX5_readsStatement 227 = .ok (.dup, 1) := by decide +kernel
theorem dX5_readsStatement_228 : decode cX5_readsStatement 228 = .ok (.getfield 91, 3) := by decide +kernel
theorem dX5_readsStatement_231 : decode cX5_readsStatement 231 = .ok (.iconst 1, 1) := by decide +kernel
theorem dX5_readsStatement_232 : decode cX5_readsStatement 232 = .ok (.isub, 1) := by decide +kernel
theorem dX5_readsStatement_233 : decode cX5_readsStatement 233 = .ok (.putfield 91, 3) := by decide +kernel
theorem dX5_readsStatement_236 : decode cX5_readsStatement 236 = .ok (.iconst 0, 1) := by decide +kernel
theorem dX5_readsStatement_237 : decode cX5_readsStatement 237 = .ok (.ireturn, 1) := by decide +kernel
theorem dX5_readsStatement_238 : decode cX5_readsStatement 238 = .ok (.iload_n 2, 1) := by decide +kernel
theorem dX5_readsStatement_239 : decode cX5_readsStatement 239 = .ok (.ifCond .eq 12, 3) := by decide +kernel
theorem dX5_readsStatement_242 : decode cX5_readsStatement 242 = .ok (.aload_n 0, 1) := by decide +kernel
theorem dX5_readsStatement_243 : decode cX5_readsStatement 243 = .ok (.invokevirtual 94, 3) := by decide +kernel
theorem dX5_readsStatement_246 : decode cX5_readsStatement 246 = .ok (.bipush 59, 2) := by decide +kernel
theorem dX5_readsStatement_248 : decode cX5_readsStatement 248 = .ok (.if_icmp .eq 5, 3) := by decide +kernel
theorem dX5_readsStatement_251 : decode cX5_readsStatement 251 = .ok (.iconst 0, 1) := by decide +kernel
theorem dX5_readsStatement_252 : decode cX5_readsStatement 252 = .ok (.ireturn, 1) := by decide +kernel
theorem dX5_readsStatement_253 : decode cX5_readsStatement 253 = .ok (.aload_n 0, 1) := by decide +kernel
theorem dX5_readsStatement_254 : decode cX5_readsStatement 254 = .ok (.dup, 1) := by decide +kernel
theorem dX5_readsStatement_255 : decode cX5_readsStatement 255 = .ok (.getfield 91, 3) := by decide +kernel
theorem dX5_readsStatement_258 : decode cX5_readsStatement 258 = .ok (.iconst 1, 1) := by decide +kernel
theorem dX5_readsStatement_259 : decode cX5_readsStatement 259 = .ok (.iadd, 1) := by decide +kernel
theorem dX5_readsStatement_260 : decode cX5_readsStatement 260 = .ok (.putfield 91, 3) := by decide +kernel
theorem dX5_readsStatement_263 : decode cX5_readsStatement 263 = .ok (.iconst 1, 1) := by decide +kernel
theorem dX5_readsStatement_264 : decode cX5_readsStatement 264 = .ok (.ireturn, 1) := by decide +kernel
theorem dX5_addsDoor_0 : decode cX5_addsDoor 0 = .ok (.iload_n 3, 1) := by decide +kernel
theorem dX5_addsDoor_1 : decode cX5_addsDoor 1 = .ok (.invokestatic 109, 3) := by decide +kernel
theorem dX5_addsDoor_4 : decode cX5_addsDoor 4 = .ok (.ifCond .eq 28, 3) := by decide +kernel
theorem dX5_addsDoor_7 : decode cX5_addsDoor 7 = .ok (.iload 4, 2) := by decide +kernel
theorem dX5_addsDoor_9 : decode cX5_addsDoor 9 = .ok (.invokestatic 109, 3) := by decide +kernel
theorem dX5_addsDoor_12 : decode cX5_addsDoor 12 = .ok (.ifCond .eq 20, 3) := by decide +kernel
theorem dX5_addsDoor_15 : decode cX5_addsDoor 15 = .ok (.iload_n 3, 1) := by decide +kernel
theorem dX5_addsDoor_16 : decode cX5_addsDoor 16 = .ok (.iload 4, 2) := by decide +kernel
theorem dX5_addsDoor_18 : decode cX5_addsDoor 18 = .ok (.if_icmp .eq 14, 3) := by decide +kernel
theorem dX5_addsDoor_21 : decode cX5_addsDoor 21 = .ok (.aload_n 0, 1) := by decide +kernel
theorem dX5_addsDoor_22 : decode cX5_addsDoor 22 = .ok (.getfield 9, 3) := by decide +kernel
theorem dX5_addsDoor_25 : decode cX5_addsDoor 25 = .ok (.iconst 0, 1) := by decide +kernel
theorem dX5_addsDoor_26 : decode cX5_addsDoor 26 = .ok (.iaload, 1) := by decide +kernel
theorem dX5_addsDoor_27 : decode cX5_addsDoor 27 = .ok (.bipush 9, 2) := by decide +kernel
theorem dX5_addsDoor_29 : decode cX5_addsDoor 29 = .ok (.if_icmp .ne 5, 3) := by decide +kernel
theorem dX5_addsDoor_32 : decode cX5_addsDoor 32 = .ok (.iconst 0, 1) := by decide +kernel
theorem dX5_addsDoor_33 : decode cX5_addsDoor 33 = .ok (.ireturn, 1) := by decide +kernel
theorem dX5_addsDoor_34 : decode cX5_addsDoor 34 = .ok (.aload_n 0, 1) := by decide +kernel
theorem dX5_addsDoor_35 : decode cX5_addsDoor 35 = .ok (.getfield 9, 3) := by decide +kernel
theorem dX5_addsDoor_38 : decode cX5_addsDoor 38 = .ok (.iconst 0, 1) := by decide +kernel
theorem dX5_addsDoor_39 : decode cX5_addsDoor 39 = .ok (.iaload, 1) := by decide +kernel
theorem dX5_addsDoor_40 : decode cX5_addsDoor 40 = .ok (.istore 5, 2) := by decide +kernel
theorem dX5_addsDoor_42 : decode cX5_addsDoor 42 = .ok (.aload_n 0, 1) := by decide +kernel
theorem dX5_addsDoor_43 : decode cX5_addsDoor 43 = .ok (.getfield 9, 3) := by decide +kernel
theorem dX5_addsDoor_46 : decode cX5_addsDoor 46 = .ok (.iload 5, 2) := by decide +kernel
theorem dX5_addsDoor_48 : decode cX5_addsDoor 48 = .ok (.iconst 0, 1) := by decide +kernel
theorem dX5_addsDoor_49 : decode cX5_addsDoor 49 = .ok (.invokestatic 48, 3) := by decide +kernel
theorem dX5_addsDoor_52 : decode cX5_addsDoor 52 = .ok (.iload_n 1, 1) := by decide +kernel
theorem dX5_addsDoor_53 : decode cX5_addsDoor 53 = .ok (.iastore, 1) := by decide +kernel
theorem dX5_addsDoor_54 : decode cX5_addsDoor 54 = .ok (.aload_n 0, 1) := by decide +kernel
theorem dX5_addsDoor_55 : decode cX5_addsDoor 55 = .ok (.getfield 9, 3) := by decide +kernel
theorem dX5_addsDoor_58 : decode cX5_addsDoor 58 = .ok (.iload 5, 2) := by decide +kernel
theorem dX5_addsDoor_60 : decode cX5_addsDoor 60 = .ok (.iconst 1, 1) := by decide +kernel
theorem dX5_addsDoor_61 : decode cX5_addsDoor 61 = .ok (.invokestatic 48, 3) := by decide +kernel
theorem dX5_addsDoor_64 : decode cX5_addsDoor 64 = .ok (.iload_n 2, 1) := by decide +kernel
theorem dX5_addsDoor_65 : decode cX5_addsDoor 65 = .ok (.iastore, 1) := by decide +kernel
theorem dX5_addsDoor_66 : decode cX5_addsDoor 66 = .ok (.aload_n 0, 1) := by decide +kernel
theorem dX5_addsDoor_67 : decode cX5_addsDoor 67 = .ok (.getfield 9, 3) := by decide +kernel
theorem dX5_addsDoor_70 : decode cX5_addsDoor 70 = .ok (.iload 5, 2) := by decide +kernel
theorem dX5_addsDoor_72 : decode cX5_addsDoor 72 = .ok (.iconst 2, 1) := by decide +kernel
theorem dX5_addsDoor_73 : decode cX5_addsDoor 73 = .ok (.invokestatic 48, 3) := by decide +kernel
theorem dX5_addsDoor_76 : decode cX5_addsDoor 76 = .ok (.iload_n 3, 1) := by decide +kernel
theorem dX5_addsDoor_77 : decode cX5_addsDoor 77 = .ok (.iastore, 1) := by decide +kernel
theorem dX5_addsDoor_78 : decode cX5_addsDoor 78 = .ok (.aload_n 0, 1) := by decide +kernel
theorem dX5_addsDoor_79 : decode cX5_addsDoor 79 = .ok (.getfield 9, 3) := by decide +kernel
theorem dX5_addsDoor_82 : decode cX5_addsDoor 82 = .ok (.iload 5, 2) := by decide +kernel
theorem dX5_addsDoor_84 : decode cX5_addsDoor 84 = .ok (.iconst 3, 1) := by decide +kernel
theorem dX5_addsDoor_85 : decode cX5_addsDoor 85 = .ok (.invokestatic 48, 3) := by decide +kernel
theorem dX5_addsDoor_88 : decode cX5_addsDoor 88 = .ok (.iload 4, 2) := by decide +kernel
theorem dX5_addsDoor_90 : decode cX5_addsDoor 90 = .ok (.iastore, 1) := by decide +kernel
theorem dX5_addsDoor_91 : decode cX5_addsDoor 91 = .ok (.aload_n 0, 1) := by decide +kernel
theorem dX5_addsDoor_92 : decode cX5_addsDoor 92 = .ok (.getfield 9, 3) := by decide +kernel
theorem dX5_addsDoor_95 : decode cX5_addsDoor 95 = .ok (.iload 5, 2) := by decide +kernel
theorem dX5_addsDoor_97 : decode cX5_addsDoor 97 = .ok (.iconst 4, 1) := by decide +kernel
theorem dX5_addsDoor_98 : decode cX5_addsDoor 98 = .ok (.invokestatic 48, 3) := by decide +kernel
theorem dX5_addsDoor_101 : decode cX5_addsDoor 101 = .ok (.iconst 0, 1) := by decide +kernel
theorem dX5_addsDoor_102 : decode cX5_addsDoor 102 = .ok (.iastore, 1) := by decide +kernel
theorem dX5_addsDoor_103 : decode cX5_addsDoor 103 = .ok (.aload_n 0, 1) := by decide +kernel
theorem dX5_addsDoor_104 : decode cX5_addsDoor 104 = .ok (.getfield 9, 3) := by decide +kernel
theorem dX5_addsDoor_107 : decode cX5_addsDoor 107 = .ok (.iload 5, 2) := by decide +kernel
theorem dX5_addsDoor_109 : decode cX5_addsDoor 109 = .ok (.iconst 5, 1) := by decide +kernel
theorem dX5_addsDoor_110 : decode cX5_addsDoor 110 = .ok (.invokestatic 48, 3) := by decide +kernel
theorem dX5_addsDoor_113 : decode cX5_addsDoor 113 = .ok (.bipush 9, 2) := by decide +kernel
theorem dX5_addsDoor_115 : decode cX5_addsDoor 115 = .ok (.iastore, 1) := by decide +kernel
theorem dX5_addsDoor_116 : decode cX5_addsDoor 116 = .ok (.aload_n 0, 1) := by decide +kernel
theorem dX5_addsDoor_117 : decode cX5_addsDoor 117 = .ok (.getfield 9, 3) := by decide +kernel
theorem dX5_addsDoor_120 : decode cX5_addsDoor 120 = .ok (.iconst 0, 1) := by decide +kernel
theorem dX5_addsDoor_121 : decode cX5_addsDoor 121 = .ok (.dup2, 1) := by decide +kernel
theorem dX5_addsDoor_122 : decode cX5_addsDoor 122 = .ok (.iaload, 1) := by decide +kernel
theorem dX5_addsDoor_123 : decode cX5_addsDoor 123 = .ok (.iconst 1, 1) := by decide +kernel
theorem dX5_addsDoor_124 : decode cX5_addsDoor 124 = .ok (.iadd, 1) := by decide +kernel
theorem dX5_addsDoor_125 : decode cX5_addsDoor 125 = .ok (.iastore, 1) := by decide +kernel
theorem dX5_addsDoor_126 : decode cX5_addsDoor 126 = .ok (.iconst 1, 1) := by decide +kernel
theorem dX5_addsDoor_127 : decode cX5_addsDoor 127 = .ok (.ireturn, 1) := by decide +kernel
theorem dX5_isDone_0 : decode cX5_isDone 0 = .ok (.aload_n 0, 1) := by decide +kernel
theorem dX5_isDone_1 : decode cX5_isDone 1 = .ok (.getfield 31, 3) := by decide +kernel
theorem dX5_isDone_4 : decode cX5_isDone 4 = .ok (.iconst 0, 1) := by decide +kernel
theorem dX5_isDone_5 : decode cX5_isDone 5 = .ok (.iaload, 1) := by decide +kernel
theorem dX5_isDone_6 : decode cX5_isDone 6 = .ok (.istore_n 2, 1) := by decide +kernel
theorem dX5_isDone_7 : decode cX5_isDone 7 = .ok (.aload_n 0, 1) := by decide +kernel
theorem dX5_isDone_8 : decode cX5_isDone 8 = .ok (.getfield 31, 3) := by decide +kernel
theorem dX5_isDone_11 : decode cX5_isDone 11 = .ok (.iconst 1, 1) := by decide +kernel
theorem dX5_isDone_12 : decode cX5_isDone 12 = .ok (.iaload, 1) := by decide +kernel
theorem dX5_isDone_13 : decode cX5_isDone 13 = .ok (.istore_n 3, 1) := by decide +kernel
theorem dX5_isDone_14 : decode cX5_isDone 14 = .ok (.iload_n 1, 1) := by decide +kernel
theorem dX5_isDone_15 : decode cX5_isDone 15 = .ok (.lookupswitch 261 #[(97, 238), (100, 49), (111, 148), (112, 68), (113, 198)], 49) := by decide +kernel
theorem dX5_isDone_64 : decode cX5_isDone 64 = .ok (.aload_n 0, 1) := by decide +kernel
theorem dX5_isDone_65 : decode cX5_isDone 65 = .ok (.iload_n 2, 1) := by decide +kernel
theorem dX5_isDone_66 : decode cX5_isDone 66 = .ok (.iload_n 3, 1) := by decide +kernel
theorem dX5_isDone_67 : decode cX5_isDone 67 = .ok (.aload_n 0, 1) := by decide +kernel
theorem dX5_isDone_68 : decode cX5_isDone 68 = .ok (.getfield 31, 3) := by decide +kernel
theorem dX5_isDone_71 : decode cX5_isDone 71 = .ok (.iconst 2, 1) := by decide +kernel
theorem dX5_isDone_72 : decode cX5_isDone 72 = .ok (.iaload, 1) := by decide +kernel
theorem dX5_isDone_73 : decode cX5_isDone 73 = .ok (.aload_n 0, 1) := by decide +kernel
theorem dX5_isDone_74 : decode cX5_isDone 74 = .ok (.getfield 31, 3) := by decide +kernel
theorem dX5_isDone_77 : decode cX5_isDone 77 = .ok (.iconst 3, 1) := by decide +kernel
theorem dX5_isDone_78 : decode cX5_isDone 78 = .ok (.iaload, 1) := by decide +kernel
theorem dX5_isDone_79 : decode cX5_isDone 79 = .ok (.invokevirtual 113, 3) := by decide +kernel
theorem dX5_isDone_82 : decode cX5_isDone 82 = .ok (.ireturn, 1) := by decide +kernel
theorem dX5_isDone_83 : decode cX5_isDone 83 = .ok (.iload_n 3, 1) := by decide +kernel
theorem dX5_isDone_84 : decode cX5_isDone 84 = .ok (.invokestatic 109, 3) := by decide +kernel
theorem dX5_isDone_87 : decode cX5_isDone 87 = .ok (.ifCond .eq 14, 3) := by decide +kernel
theorem dX5_isDone_90 : decode cX5_isDone 90 = .ok (.aload_n 0, 1) := by decide +kernel
theorem dX5_isDone_91 : decode cX5_isDone 91 = .ok (.getfield 9, 3) := by decide +kernel
theorem dX5_isDone_94 : decode cX5_isDone 94 = .ok (.iconst 1, 1) := by decide +kernel
theorem dX5_isDone_95 : decode cX5_isDone 95 = .ok (.iaload, 1) := by decide +kernel
theorem dX5_isDone_96 : decode cX5_isDone 96 = .ok (.bipush 6, 2) := by decide +kernel
theorem dX5_isDone_98 : decode cX5_isDone 98 = .ok (.if_icmp .ne 5, 3) := by decide +kernel
theorem dX5_isDone_101 : decode cX5_isDone 101 = .ok (.iconst 0, 1) := by decide +kernel
theorem dX5_isDone_102 : decode cX5_isDone 102 = .ok (.ireturn, 1) := by decide +kernel
theorem dX5_isDone_103 : decode cX5_isDone 103 = .ok (.aload_n 0, 1) := by decide +kernel
theorem dX5_isDone_104 : decode cX5_isDone 104 = .ok (.getfield 9, 3) := by decide +kernel
theorem dX5_isDone_107 : decode cX5_isDone 107 = .ok (.aload_n 0, 1) := by decide +kernel
theorem dX5_isDone_108 : decode cX5_isDone 108 = .ok (.getfield 9, 3) := by decide +kernel
theorem dX5_isDone_111 : decode cX5_isDone 111 = .ok (.iconst 1, 1) := by decide +kernel
theorem dX5_isDone_112 : decode cX5_isDone 112 = .ok (.iaload, 1) := by decide +kernel
theorem dX5_isDone_113 : decode cX5_isDone 113 = .ok (.iconst 0, 1) := by decide +kernel
theorem dX5_isDone_114 : decode cX5_isDone 114 = .ok (.invokestatic 55, 3) := by decide +kernel
theorem dX5_isDone_117 : decode cX5_isDone 117 = .ok (.iload_n 2, 1) := by decide +kernel
theorem dX5_isDone_118 : decode cX5_isDone 118 = .ok (.iastore, 1) := by decide +kernel
theorem dX5_isDone_119 : decode cX5_isDone 119 = .ok (.aload_n 0, 1) := by decide +kernel
theorem dX5_isDone_120 : decode cX5_isDone 120 = .ok (.getfield 9, 3) := by decide +kernel
theorem dX5_isDone_123 : decode cX5_isDone 123 = .ok (.aload_n 0, 1) := by decide +kernel
theorem dX5_isDone_124 : decode cX5_isDone 124 = .ok (.getfield 9, 3) := by decide +kernel
theorem dX5_isDone_127 : decode cX5_isDone 127 = .ok (.iconst 1, 1) := by decide +kernel
theorem dX5_isDone_128 : decode cX5_isDone 128 = .ok (.iaload, 1) := by decide +kernel
theorem dX5_isDone_129 : decode cX5_isDone 129 = .ok (.iconst 1, 1) := by decide +kernel
theorem dX5_isDone_130 : decode cX5_isDone 130 = .ok (.invokestatic 55, 3) := by decide +kernel
theorem dX5_isDone_133 : decode cX5_isDone 133 = .ok (.iload_n 3, 1) := by decide +kernel
theorem dX5_isDone_134 : decode cX5_isDone 134 = .ok (.iastore, 1) := by decide +kernel
theorem dX5_isDone_135 : decode cX5_isDone 135 = .ok (.aload_n 0, 1) := by decide +kernel
theorem dX5_isDone_136 : decode cX5_isDone 136 = .ok (.getfield 9, 3) := by decide +kernel
theorem dX5_isDone_139 : decode cX5_isDone 139 = .ok (.aload_n 0, 1) := by decide +kernel
theorem dX5_isDone_140 : decode cX5_isDone 140 = .ok (.getfield 9, 3) := by decide +kernel
theorem dX5_isDone_143 : decode cX5_isDone 143 = .ok (.iconst 1, 1) := by decide +kernel
theorem dX5_isDone_144 : decode cX5_isDone 144 = .ok (.iaload, 1) := by decide +kernel
theorem dX5_isDone_145 : decode cX5_isDone 145 = .ok (.iconst 2, 1) := by decide +kernel
theorem dX5_isDone_146 : decode cX5_isDone 146 = .ok (.invokestatic 55, 3) := by decide +kernel
theorem dX5_isDone_149 : decode cX5_isDone 149 = .ok (.iconst 0, 1) := by decide +kernel
theorem dX5_isDone_150 : decode cX5_isDone 150 = .ok (.iastore, 1) := by decide +kernel
theorem dX5_isDone_151 : decode cX5_isDone 151 = .ok (.aload_n 0, 1) := by decide +kernel
theorem dX5_isDone_152 : decode cX5_isDone 152 = .ok (.getfield 9, 3) := by decide +kernel
theorem dX5_isDone_155 : decode cX5_isDone 155 = .ok (.iconst 1, 1) := by decide +kernel
theorem dX5_isDone_156 : decode cX5_isDone 156 = .ok (.dup2, 1) := by decide +kernel
theorem dX5_isDone_157 : decode cX5_isDone 157 = .ok (.iaload, 1) := by decide +kernel
theorem dX5_isDone_158 : decode cX5_isDone 158 = .ok (.iconst 1, 1) := by decide +kernel
theorem dX5_isDone_159 : decode cX5_isDone 159 = .ok (.iadd, 1) := by decide +kernel
theorem dX5_isDone_160 : decode cX5_isDone 160 = .ok (.iastore, 1) := by decide +kernel
theorem dX5_isDone_161 : decode cX5_isDone 161 = .ok (.iconst 1, 1) := by decide +kernel
theorem dX5_isDone_162 : decode cX5_isDone 162 = .ok (.ireturn, 1) := by decide +kernel
theorem dX5_isDone_163 : decode cX5_isDone 163 = .ok (.aload_n 0, 1) := by decide +kernel
theorem dX5_isDone_164 : decode cX5_isDone 164 = .ok (.iload_n 2, 1) := by decide +kernel
theorem dX5_isDone_165 : decode cX5_isDone 165 = .ok (.invokevirtual 117, 3) := by decide +kernel
theorem dX5_isDone_168 : decode cX5_isDone 168 = .ok (.ifCond .eq 32, 3) := by decide +kernel
theorem dX5_isDone_171 : decode cX5_isDone 171 = .ok (.aload_n 0, 1) := by decide +kernel
theorem dX5_isDone_172 : decode cX5_isDone 172 = .ok (.iload_n 3, 1) := by decide +kernel
theorem dX5_isDone_173 : decode cX5_isDone 173 = .ok (.invokevirtual 120, 3) := by decide +kernel
theorem dX5_isDone_176 : decode cX5_isDone 176 = .ok (.ifCond .eq 24, 3) := by decide +kernel
theorem dX5_isDone_179 : decode cX5_isDone 179 = .ok (.aload_n 0, 1) := by decide +kernel
theorem dX5_isDone_180 : decode cX5_isDone 180 = .ok (.getfield 9, 3) := by decide +kernel
theorem dX5_isDone_183 : decode cX5_isDone 183 = .ok (.iload_n 3, 1) := by decide +kernel
theorem dX5_isDone_184 : decode cX5_isDone 184 = .ok (.aload_n 0, 1) := by decide +kernel
theorem dX5_isDone_185 : decode cX5_isDone 185 = .ok (.getfield 9, 3) := by decide +kernel
theorem dX5_isDone_188 : decode cX5_isDone 188 = .ok (.iload_n 2, 1) := by decide +kernel
theorem dX5_isDone_189 : decode cX5_isDone 189 = .ok (.iconst 1, 1) := by decide +kernel
theorem dX5_isDone_190 : decode cX5_isDone 190 = .ok (.invokestatic 55, 3) := by decide +kernel
theorem dX5_isDone_193 : decode cX5_isDone 193 = .ok (.iaload, 1) := by decide +kernel
theorem dX5_isDone_194 : decode cX5_isDone 194 = .ok (.invokestatic 123, 3) := by decide +kernel
theorem dX5_isDone_197 : decode cX5_isDone 197 = .ok (.ifCond .ne 5, 3) := by decide +kernel
theorem dX5_isDone_200 : decode cX5_isDone 200 = .ok (.iconst 0, 1) := by decide +kernel
theorem dX5_isDone_201 : decode cX5_isDone 201 = .ok (.ireturn, 1) := by decide +kernel
theorem dX5_isDone_202 : decode cX5_isDone 202 = .ok (.aload_n 0, 1) := by decide +kernel
theorem dX5_isDone_203 : decode cX5_isDone 203 = .ok (.getfield 9, 3) := by decide +kernel
theorem dX5_isDone_206 : decode cX5_isDone 206 = .ok (.iload_n 2, 1) := by decide +kernel
theorem dX5_isDone_207 : decode cX5_isDone 207 = .ok (.iload_n 3, 1) := by decide +kernel
theorem dX5_isDone_208 : decode cX5_isDone 208 = .ok (.invokestatic 127, 3) := by decide +kernel
theorem dX5_isDone_211 : decode cX5_isDone 211 = .ok (.iconst 1, 1) := by decide +kernel
theorem dX5_isDone_212 : decode cX5_isDone 212 = .ok (.ireturn, 1) := by decide +kernel
theorem dX5_isDone_213 : decode cX5_isDone 213 = .ok (.aload_n 0, 1) := by decide +kernel
theorem dX5_isDone_214 : decode cX5_isDone 214 = .ok (.iload_n 2, 1) := by decide +kernel
theorem dX5_isDone_215 : decode cX5_isDone 215 = .ok (.invokevirtual 120, 3) := by decide +kernel
theorem dX5_isDone_218 : decode cX5_isDone 218 = .ok (.ifCond .eq 16, 3) := by decide +kernel
theorem dX5_isDone_221 : decode cX5_isDone 221 = .ok (.aload_n 0, 1) := by decide +kernel
theorem dX5_isDone_222 : decode cX5_isDone 222 = .ok (.aload_n 0, 1) := by decide +kernel
theorem dX5_isDone_223 : decode cX5_isDone 223 = .ok (.getfield 31, 3) := by decide +kernel
theorem dX5_isDone_226 : decode cX5_isDone 226 = .ok (.iconst 2, 1) := by decide +kernel
theorem dX5_isDone_227 : decode cX5_isDone 227 = .ok (.iaload, 1) := by decide +kernel
theorem dX5_isDone_228 : decode cX5_isDone 228 = .ok (.invokevirtual 117, 3) := by decide +kernel
theorem dX5_isDone_231 : decode cX5_isDone 231 = .ok (.ifCond .ne 5, 3) := by decide +kernel
theorem dX5_isDone_234 : decode cX5_isDone 234 = .ok (.iconst 0, 1) := by decide +kernel
theorem dX5_isDone_235 : decode cX5_isDone 235 = .ok (.ireturn, 1) := by decide +kernel
theorem dX5_isDone_236 : decode cX5_isDone 236 = .ok (.aload_n 0, 1) := by decide +kernel
theorem dX5_isDone_237 : decode cX5_isDone 237 = .ok (.getfield 9, 3) := by decide +kernel
theorem dX5_isDone_240 : decode cX5_isDone 240 = .ok (.iload_n 2, 1) := by decide +kernel
theorem dX5_isDone_241 : decode cX5_isDone 241 = .ok (.iload_n 3, 1) := by decide +kernel
theorem dX5_isDone_242 : decode cX5_isDone 242 = .ok (.aload_n 0, 1) := by decide +kernel
theorem dX5_isDone_243 : decode cX5_isDone 243 = .ok (.getfield 31, 3) := by decide +kernel
theorem dX5_isDone_246 : decode cX5_isDone 246 = .ok (.iconst 2, 1) := by decide +kernel
theorem dX5_isDone_247 : decode cX5_isDone 247 = .ok (.iaload, 1) := by decide +kernel
theorem dX5_isDone_248 : decode cX5_isDone 248 = .ok (.invokestatic 69, 3) := by decide +kernel
theorem dX5_isDone_251 : decode cX5_isDone 251 = .ok (.iconst 1, 1) := by decide +kernel
theorem dX5_isDone_252 : decode cX5_isDone 252 = .ok (.ireturn, 1) := by decide +kernel
theorem dX5_isDone_253 : decode cX5_isDone 253 = .ok (.aload_n 0, 1) := by decide +kernel
theorem dX5_isDone_254 : decode cX5_isDone 254 = .ok (.iload_n 2, 1) := by decide +kernel
theorem dX5_isDone_255 : decode cX5_isDone 255 = .ok (.invokevirtual 120, 3) := by decide +kernel
theorem dX5_isDone_258 : decode cX5_isDone 258 = .ok (.ifCond .ne 5, 3) := by decide +kernel
theorem dX5_isDone_261 : decode cX5_isDone 261 = .ok (.iconst 0, 1) := by decide +kernel
theorem dX5_isDone_262 : decode cX5_isDone 262 = .ok (.ireturn, 1) := by decide +kernel
theorem dX5_isDone_263 : decode cX5_isDone 263 = .ok (.aload_n 0, 1) := by decide +kernel
theorem dX5_isDone_264 : decode cX5_isDone 264 = .ok (.getfield 9, 3) := by decide +kernel
theorem dX5_isDone_267 : decode cX5_isDone 267 = .ok (.iload_n 2, 1) := by decide +kernel
theorem dX5_isDone_268 : decode cX5_isDone 268 = .ok (.iconst 0, 1) := by decide +kernel
theorem dX5_isDone_269 : decode cX5_isDone 269 = .ok (.bipush 9, 2) := by decide +kernel
theorem dX5_isDone_271 : decode cX5_isDone 271 = .ok (.invokestatic 69, 3) := by decide +kernel
theorem dX5_isDone_274 : decode cX5_isDone 274 = .ok (.iconst 1, 1) := by decide +kernel
theorem dX5_isDone_275 : decode cX5_isDone 275 = .ok (.ireturn, 1) := by decide +kernel
theorem dX5_isDone_276 : decode cX5_isDone 276 = .ok (.iload_n 2, 1) := by decide +kernel
theorem dX5_isDone_277 : decode cX5_isDone 277 = .ok (.iconst 1, 1) := by decide +kernel
theorem dX5_isDone_278 : decode cX5_isDone 278 = .ok (.bipush 60, 2) := by decide +kernel
theorem dX5_isDone_280 : decode cX5_isDone 280 = .ok (.invokestatic 44, 3) := by decide +kernel
theorem dX5_isDone_283 : decode cX5_isDone 283 = .ok (.ifCond .eq 17, 3) := by decide +kernel
theorem dX5_isDone_286 : decode cX5_isDone 286 = .ok (.aload_n 0, 1) := by decide +kernel
theorem dX5_isDone_287 : decode cX5_isDone 287 = .ok (.getfield 9, 3) := by decide +kernel
theorem dX5_isDone_290 : decode cX5_isDone 290 = .ok (.iconst 2, 1) := by decide +kernel
theorem dX5_isDone_291 : decode cX5_isDone 291 = .ok (.iaload, 1) := by decide +kernel
theorem dX5_isDone_292 : decode cX5_isDone 292 = .ok (.iload_n 2, 1) := by decide +kernel
theorem dX5_isDone_293 : decode cX5_isDone 293 = .ok (.iadd, 1) := by decide +kernel
theorem dX5_isDone_294 : decode cX5_isDone 294 = .ok (.sipush 999, 3) := by decide +kernel
theorem dX5_isDone_297 : decode cX5_isDone 297 = .ok (.if_icmp .le 5, 3) := by decide +kernel
theorem dX5_isDone_300 : decode cX5_isDone 300 = .ok (.iconst 0, 1) := by decide +kernel
theorem dX5_isDone_301 : decode cX5_isDone 301 = .ok (.ireturn, 1) := by decide +kernel
theorem dX5_isDone_302 : decode cX5_isDone 302 = .ok (.aload_n 0, 1) := by decide +kernel
theorem dX5_isDone_303 : decode cX5_isDone 303 = .ok (.getfield 9, 3) := by decide +kernel
theorem dX5_isDone_306 : decode cX5_isDone 306 = .ok (.iload_n 2, 1) := by decide +kernel
theorem dX5_isDone_307 : decode cX5_isDone 307 = .ok (.invokestatic 130, 3) := by decide +kernel
theorem dX5_isDone_310 : decode cX5_isDone 310 = .ok (.iconst 1, 1) := by decide +kernel
theorem dX5_isDone_311 : decode cX5_isDone 311 = .ok (.ireturn, 1) := by decide +kernel
theorem dX5_house_0 : decode cX5_house 0 = .ok (.aload_n 0, 1) := by decide +kernel
theorem dX5_house_1 : decode cX5_house 1 = .ok (.iconst 0, 1) := by decide +kernel
theorem dX5_house_2 : decode cX5_house 2 = .ok (.putfield 91, 3) := by decide +kernel
theorem dX5_house_5 : decode cX5_house 5 = .ok (.iconst 0, 1) := by decide +kernel
theorem dX5_house_6 : decode cX5_house 6 = .ok (.istore_n 1, 1) := by decide +kernel
theorem dX5_house_7 : decode cX5_house 7 = .ok (.bipush (-9), 2) := by decide +kernel
theorem dX5_house_9 : decode cX5_house 9 = .ok (.istore_n 2, 1) := by decide +kernel
theorem dX5_house_10 : decode cX5_house 10 = .ok (.aload_n 0, 1) := by decide +kernel
theorem dX5_house_11 : decode cX5_house 11 = .ok (.invokevirtual 134, 3) := by decide +kernel
theorem dX5_house_14 : decode cX5_house 14 = .ok (.ifCond .ne 12, 3) := by decide +kernel
theorem dX5_house_17 : decode cX5_house 17 = .ok (.sipush (-1000), 3) := by decide +kernel
theorem dX5_house_20 : decode cX5_house 20 = .ok (.aload_n 0, 1) := by decide +kernel
theorem dX5_house_21 : decode cX5_house 21 = .ok (.getfield 91, 3) := by decide +kernel
theorem dX5_house_24 : decode cX5_house 24 = .ok (.isub, 1) := by decide +kernel
theorem dX5_house_25 : decode cX5_house 25 = .ok (.istore_n 2, 1) := by decide +kernel
theorem dX5_house_26 : decode cX5_house 26 = .ok (.iinc 1 1, 3) := by decide +kernel
theorem dX5_house_29 : decode cX5_house 29 = .ok (.iload_n 2, 1) := by decide +kernel
theorem dX5_house_30 : decode cX5_house 30 = .ok (.bipush (-9), 2) := by decide +kernel
theorem dX5_house_32 : decode cX5_house 32 = .ok (.if_icmp .ne 14, 3) := by decide +kernel
theorem dX5_house_35 : decode cX5_house 35 = .ok (.aload_n 0, 1) := by decide +kernel
theorem dX5_house_36 : decode cX5_house 36 = .ok (.getfield 91, 3) := by decide +kernel
theorem dX5_house_39 : decode cX5_house 39 = .ok (.aload_n 0, 1) := by decide +kernel
theorem dX5_house_40 : decode cX5_house 40 = .ok (.getfield 87, 3) := by decide +kernel
theorem dX5_house_43 : decode cX5_house 43 = .ok (.if_icmp .lt (-33), 3) := by decide +kernel
theorem dX5_house_46 : decode cX5_house 46 = .ok (.aload_n 0, 1) := by decide +kernel
theorem dX5_house_47 : decode cX5_house 47 = .ok (.getfield 9, 3) := by decide +kernel
theorem dX5_house_50 : decode cX5_house 50 = .ok (.aload_n 0, 1) := by decide +kernel
theorem dX5_house_51 : decode cX5_house 51 = .ok (.getfield 19, 3) := by decide +kernel
theorem dX5_house_54 : decode cX5_house 54 = .ok (.invokestatic 137, 3) := by decide +kernel
theorem dX5_house_57 : decode cX5_house 57 = .ok (.aload_n 0, 1) := by decide +kernel
theorem dX5_house_58 : decode cX5_house 58 = .ok (.iconst 0, 1) := by decide +kernel
theorem dX5_house_59 : decode cX5_house 59 = .ok (.putfield 91, 3) := by decide +kernel
theorem dX5_house_62 : decode cX5_house 62 = .ok (.iload_n 2, 1) := by decide +kernel
theorem dX5_house_63 : decode cX5_house 63 = .ok (.bipush (-9), 2) := by decide +kernel
theorem dX5_house_65 : decode cX5_house 65 = .ok (.if_icmp .ne 63, 3) := by decide +kernel
theorem dX5_house_68 : decode cX5_house 68 = .ok (.aload_n 0, 1) := by decide +kernel
theorem dX5_house_69 : decode cX5_house 69 = .ok (.getfield 91, 3) := by decide +kernel
theorem dX5_house_72 : decode cX5_house 72 = .ok (.aload_n 0, 1) := by decide +kernel
theorem dX5_house_73 : decode cX5_house 73 = .ok (.getfield 87, 3) := by decide +kernel
theorem dX5_house_76 : decode cX5_house 76 = .ok (.if_icmp .ge 52, 3) := by decide +kernel
theorem dX5_house_79 : decode cX5_house 79 = .ok (.aload_n 0, 1) := by decide +kernel
theorem dX5_house_80 : decode cX5_house 80 = .ok (.getfield 91, 3) := by decide +kernel
theorem dX5_house_83 : decode cX5_house 83 = .ok (.istore_n 3, 1) := by decide +kernel
theorem dX5_house_84 : decode cX5_house 84 = .ok (.aload_n 0, 1) := by decide +kernel
theorem dX5_house_85 : decode cX5_house 85 = .ok (.invokevirtual 94, 3) := by decide +kernel
theorem dX5_house_88 : decode cX5_house 88 = .ok (.istore 4, 2) := by decide +kernel
theorem dX5_house_90 : decode cX5_house 90 = .ok (.aload_n 0, 1) := by decide +kernel
theorem dX5_house_91 : decode cX5_house 91 = .ok (.invokevirtual 134, 3) := by decide +kernel
theorem dX5_house_94 : decode cX5_house 94 = .ok (.istore 5, 2) := by decide +kernel
theorem dX5_house_96 : decode cX5_house 96 = .ok (.aload_n 0, 1) := by decide +kernel
theorem dX5_house_97 : decode cX5_house 97 = .ok (.iload 4, 2) := by decide +kernel
theorem dX5_house_99 : decode cX5_house 99 = .ok (.invokevirtual 141, 3) := by decide +kernel
theorem dX5_house_102 : decode cX5_house 102 = .ok (.ifCond .eq 6, 3) := by decide +kernel
theorem dX5_house_105 : decode cX5_house 105 = .ok (.goto (-43), 3) := by decide +kernel
theorem dX5_house_108 : decode cX5_house 108 = .ok (.sipush (-2000), 3) := by decide +kernel
theorem dX5_house_111 : decode cX5_house 111 = .ok (.iload_n 3, 1) := by decide +kernel
theorem dX5_house_112 : decode cX5_house 112 = .ok (.isub, 1) := by decide +kernel
theorem dX5_house_113 : decode cX5_house 113 = .ok (.istore_n 2, 1) := by decide +kernel
theorem dX5_house_114 : decode cX5_house 114 = .ok (.aload_n 0, 1) := by decide +kernel
theorem dX5_house_115 : decode cX5_house 115 = .ok (.getfield 19, 3) := by decide +kernel
theorem dX5_house_118 : decode cX5_house 118 = .ok (.aload_n 0, 1) := by decide +kernel
theorem dX5_house_119 : decode cX5_house 119 = .ok (.getfield 9, 3) := by decide +kernel
theorem dX5_house_122 : decode cX5_house 122 = .ok (.invokestatic 137, 3) := by decide +kernel
theorem dX5_house_125 : decode cX5_house 125 = .ok (.goto (-63), 3) := by decide +kernel
theorem dX5_house_128 : decode cX5_house 128 = .ok (.aload_n 0, 1) := by decide +kernel
theorem dX5_house_129 : decode cX5_house 129 = .ok (.iconst 0, 1) := by decide +kernel
theorem dX5_house_130 : decode cX5_house 130 = .ok (.putfield 87, 3) := by decide +kernel
theorem dX5_house_133 : decode cX5_house 133 = .ok (.iload_n 2, 1) := by decide +kernel
theorem dX5_house_134 : decode cX5_house 134 = .ok (.bipush (-9), 2) := by decide +kernel
theorem dX5_house_136 : decode cX5_house 136 = .ok (.if_icmp .ne 7, 3) := by decide +kernel
theorem dX5_house_139 : decode cX5_house 139 = .ok (.iload_n 1, 1) := by decide +kernel
theorem dX5_house_140 : decode cX5_house 140 = .ok (.goto 4, 3) := by decide +kernel
theorem dX5_house_143 : decode cX5_house 143 = .ok (.iload_n 2, 1) := by decide +kernel
theorem dX5_house_144 : decode cX5_house 144 = .ok (.ireturn, 1) := by decide +kernel
theorem dX5_door_0 : decode cX5_door 0 = .ok (.aload_n 0, 1) := by decide +kernel
theorem dX5_door_1 : decode cX5_door 1 = .ok (.iload_n 1, 1) := by decide +kernel
theorem dX5_door_2 : decode cX5_door 2 = .ok (.invokevirtual 120, 3) := by decide +kernel
theorem dX5_door_5 : decode cX5_door 5 = .ok (.ifCond .ne 9, 3) := by decide +kernel
theorem dX5_door_8 : decode cX5_door 8 = .ok (.aload_n 0, 1) := by decide +kernel
theorem dX5_door_9 : decode cX5_door 9 = .ok (.iconst (-1), 1) := by decide +kernel
theorem dX5_door_10 : decode cX5_door 10 = .ok (.invokevirtual 38, 3) := by decide +kernel
theorem dX5_door_13 : decode cX5_door 13 = .ok (.ireturn, 1) := by decide +kernel
theorem dX5_door_14 : decode cX5_door 14 = .ok (.iload_n 2, 1) := by decide +kernel
theorem dX5_door_15 : decode cX5_door 15 = .ok (.iconst 0, 1) := by decide +kernel
theorem dX5_door_16 : decode cX5_door 16 = .ok (.iconst 5, 1) := by decide +kernel
theorem dX5_door_17 : decode cX5_door 17 = .ok (.invokestatic 44, 3) := by decide +kernel
theorem dX5_door_20 : decode cX5_door 20 = .ok (.ifCond .eq 14, 3) := by decide +kernel
theorem dX5_door_23 : decode cX5_door 23 = .ok (.aload_n 0, 1) := by decide +kernel
theorem dX5_door_24 : decode cX5_door 24 = .ok (.getfield 9, 3) := by decide +kernel
theorem dX5_door_27 : decode cX5_door 27 = .ok (.iload_n 1, 1) := by decide +kernel
theorem dX5_door_28 : decode cX5_door 28 = .ok (.iload_n 2, 1) := by decide +kernel
theorem dX5_door_29 : decode cX5_door 29 = .ok (.invokestatic 48, 3) := by decide +kernel
theorem dX5_door_32 : decode cX5_door 32 = .ok (.iaload, 1) := by decide +kernel
theorem dX5_door_33 : decode cX5_door 33 = .ok (.ireturn, 1) := by decide +kernel
theorem dX5_door_34 : decode cX5_door 34 = .ok (.iload_n 2, 1) := by decide +kernel
theorem dX5_door_35 : decode cX5_door 35 = .ok (.bipush 6, 2) := by decide +kernel
theorem dX5_door_37 : decode cX5_door 37 = .ok (.if_icmp .ne 14, 3) := by decide +kernel
theorem dX5_door_40 : decode cX5_door 40 = .ok (.aload_n 0, 1) := by decide +kernel
theorem dX5_door_41 : decode cX5_door 41 = .ok (.getfield 9, 3) := by decide +kernel
theorem dX5_door_44 : decode cX5_door 44 = .ok (.iload_n 1, 1) := by decide +kernel
theorem dX5_door_45 : decode cX5_door 45 = .ok (.invokestatic 58, 3) := by decide +kernel
theorem dX5_door_48 : decode cX5_door 48 = .ok (.goto 9, 3) := by decide +kernel
theorem dX5_door_51 : decode cX5_door 51 = .ok (.aload_n 0, 1) := by decide +kernel
theorem dX5_door_52 : decode cX5_door 52 = .ok (.bipush (-2), 2) := by decide +kernel
theorem dX5_door_54 : decode cX5_door 54 = .ok (.invokevirtual 38, 3) := by decide +kernel
theorem dX5_door_57 : decode cX5_door 57 = .ok (.ireturn, 1) := by decide +kernel
theorem dX5_person_0 : decode cX5_person 0 = .ok (.aload_n 0, 1) := by decide +kernel
theorem dX5_person_1 : decode cX5_person 1 = .ok (.iload_n 1, 1) := by decide +kernel
theorem dX5_person_2 : decode cX5_person 2 = .ok (.invokevirtual 117, 3) := by decide +kernel
theorem dX5_person_5 : decode cX5_person 5 = .ok (.ifCond .ne 9, 3) := by decide +kernel
theorem dX5_person_8 : decode cX5_person 8 = .ok (.aload_n 0, 1) := by decide +kernel
theorem dX5_person_9 : decode cX5_person 9 = .ok (.iconst (-1), 1) := by decide +kernel
theorem dX5_person_10 : decode cX5_person 10 = .ok (.invokevirtual 38, 3) := by decide +kernel
theorem dX5_person_13 : decode cX5_person 13 = .ok (.ireturn, 1) := by decide +kernel
theorem dX5_person_14 : decode cX5_person 14 = .ok (.iload_n 2, 1) := by decide +kernel
theorem dX5_person_15 : decode cX5_person 15 = .ok (.iconst 0, 1) := by decide +kernel
theorem dX5_person_16 : decode cX5_person 16 = .ok (.iconst 2, 1) := by decide +kernel
theorem dX5_person_17 : decode cX5_person 17 = .ok (.invokestatic 44, 3) := by decide +kernel
theorem dX5_person_20 : decode cX5_person 20 = .ok (.ifCond .eq 14, 3) := by decide +kernel
theorem dX5_person_23 : decode cX5_person 23 = .ok (.aload_n 0, 1) := by decide +kernel
theorem dX5_person_24 : decode cX5_person 24 = .ok (.getfield 9, 3) := by decide +kernel
theorem dX5_person_27 : decode cX5_person 27 = .ok (.iload_n 1, 1) := by decide +kernel
theorem dX5_person_28 : decode cX5_person 28 = .ok (.iload_n 2, 1) := by decide +kernel
theorem dX5_person_29 : decode cX5_person 29 = .ok (.invokestatic 55, 3) := by decide +kernel
theorem dX5_person_32 : decode cX5_person 32 = .ok (.iaload, 1) := by decide +kernel
theorem dX5_person_33 : decode cX5_person 33 = .ok (.ireturn, 1) := by decide +kernel
theorem dX5_person_34 : decode cX5_person 34 = .ok (.iload_n 2, 1) := by decide +kernel
theorem dX5_person_35 : decode cX5_person 35 = .ok (.iconst 3, 1) := by decide +kernel
theorem dX5_person_36 : decode cX5_person 36 = .ok (.if_icmp .ne 14, 3) := by decide +kernel
theorem dX5_person_39 : decode cX5_person 39 = .ok (.aload_n 0, 1) := by decide +kernel
theorem dX5_person_40 : decode cX5_person 40 = .ok (.getfield 9, 3) := by decide +kernel
theorem dX5_person_43 : decode cX5_person 43 = .ok (.iload_n 1, 1) := by decide +kernel
theorem dX5_person_44 : decode cX5_person 44 = .ok (.invokestatic 62, 3) := by decide +kernel
theorem dX5_person_47 : decode cX5_person 47 = .ok (.goto 9, 3) := by decide +kernel
theorem dX5_person_50 : decode cX5_person 50 = .ok (.aload_n 0, 1) := by decide +kernel
theorem dX5_person_51 : decode cX5_person 51 = .ok (.bipush (-2), 2) := by decide +kernel
theorem dX5_person_53 : decode cX5_person 53 = .ok (.invokevirtual 38, 3) := by decide +kernel
theorem dX5_person_56 : decode cX5_person 56 = .ok (.ireturn, 1) := by decide +kernel
theorem dX5_opens_0 : decode cX5_opens 0 = .ok (.aload_n 0, 1) := by decide +kernel
theorem dX5_opens_1 : decode cX5_opens 1 = .ok (.iload_n 1, 1) := by decide +kernel
theorem dX5_opens_2 : decode cX5_opens 2 = .ok (.invokevirtual 117, 3) := by decide +kernel
theorem dX5_opens_5 : decode cX5_opens 5 = .ok (.ifCond .eq 11, 3) := by decide +kernel
theorem dX5_opens_8 : decode cX5_opens 8 = .ok (.aload_n 0, 1) := by decide +kernel
theorem dX5_opens_9 : decode cX5_opens 9 = .ok (.iload_n 2, 1) := by decide +kernel
theorem dX5_opens_10 : decode cX5_opens 10 = .ok (.invokevirtual 120, 3) := by decide +kernel
theorem dX5_opens_13 : decode cX5_opens 13 = .ok (.ifCond .ne 9, 3) := by decide +kernel
theorem dX5_opens_16 : decode cX5_opens 16 = .ok (.aload_n 0, 1) := by decide +kernel
theorem dX5_opens_17 : decode cX5_opens 17 = .ok (.iconst (-1), 1) := by decide +kernel
theorem dX5_opens_18 : decode cX5_opens 18 = .ok (.invokevirtual 38, 3) := by decide +kernel
theorem dX5_opens_21 : decode cX5_opens 21 = .ok (.ireturn, 1) := by decide +kernel
theorem dX5_opens_22 : decode cX5_opens 22 = .ok (.aload_n 0, 1) := by decide +kernel
theorem dX5_opens_23 : decode cX5_opens 23 = .ok (.getfield 9, 3) := by decide +kernel
theorem dX5_opens_26 : decode cX5_opens 26 = .ok (.iload_n 2, 1) := by decide +kernel
theorem dX5_opens_27 : decode cX5_opens 27 = .ok (.aload_n 0, 1) := by decide +kernel
theorem dX5_opens_28 : decode cX5_opens 28 = .ok (.getfield 9, 3) := by decide +kernel
theorem dX5_opens_31 : decode cX5_opens 31 = .ok (.iload_n 1, 1) := by decide +kernel
theorem dX5_opens_32 : decode cX5_opens 32 = .ok (.iconst 1, 1) := by decide +kernel
theorem dX5_opens_33 : decode cX5_opens 33 = .ok (.invokestatic 55, 3) := by decide +kernel
theorem dX5_opens_36 : decode cX5_opens 36 = .ok (.iaload, 1) := by decide +kernel
theorem dX5_opens_37 : decode cX5_opens 37 = .ok (.invokestatic 123, 3) := by decide +kernel
theorem dX5_opens_40 : decode cX5_opens 40 = .ok (.ifCond .ne 10, 3) := by decide +kernel
theorem dX5_opens_43 : decode cX5_opens 43 = .ok (.aload_n 0, 1) := by decide +kernel
theorem dX5_opens_44 : decode cX5_opens 44 = .ok (.bipush (-3), 2) := by decide +kernel
theorem dX5_opens_46 : decode cX5_opens 46 = .ok (.invokevirtual 38, 3) := by decide +kernel
theorem dX5_opens_49 : decode cX5_opens 49 = .ok (.ireturn, 1) := by decide +kernel
theorem dX5_opens_50 : decode cX5_opens 50 = .ok (.aload_n 0, 1) := by decide +kernel
theorem dX5_opens_51 : decode cX5_opens 51 = .ok (.getfield 9, 3) := by decide +kernel
theorem dX5_opens_54 : decode cX5_opens 54 = .ok (.iload_n 1, 1) := by decide +kernel
theorem dX5_opens_55 : decode cX5_opens 55 = .ok (.iload_n 2, 1) := by decide +kernel
theorem dX5_opens_56 : decode cX5_opens 56 = .ok (.invokestatic 127, 3) := by decide +kernel
theorem dX5_opens_59 : decode cX5_opens 59 = .ok (.aload_n 0, 1) := by decide +kernel
theorem dX5_opens_60 : decode cX5_opens 60 = .ok (.getfield 9, 3) := by decide +kernel
theorem dX5_opens_63 : decode cX5_opens 63 = .ok (.iload_n 1, 1) := by decide +kernel
theorem dX5_opens_64 : decode cX5_opens 64 = .ok (.iconst 2, 1) := by decide +kernel
theorem dX5_opens_65 : decode cX5_opens 65 = .ok (.invokestatic 55, 3) := by decide +kernel
theorem dX5_opens_68 : decode cX5_opens 68 = .ok (.iaload, 1) := by decide +kernel
theorem dX5_opens_69 : decode cX5_opens 69 = .ok (.ireturn, 1) := by decide +kernel
theorem dX5_wrongBy_0 : decode cX5_wrongBy 0 = .ok (.iload_n 0, 1) := by decide +kernel
theorem dX5_wrongBy_1 : decode cX5_wrongBy 1 = .ok (.iload_n 1, 1) := by decide +kernel
theorem dX5_wrongBy_2 : decode cX5_wrongBy 2 = .ok (.if_icmp .ge 8, 3) := by decide +kernel
theorem dX5_wrongBy_5 : decode cX5_wrongBy 5 = .ok (.bipush (-4), 2) := by decide +kernel
theorem dX5_wrongBy_7 : decode cX5_wrongBy 7 = .ok (.goto 14, 3) := by decide +kernel
theorem dX5_wrongBy_10 : decode cX5_wrongBy 10 = .ok (.iload_n 0, 1) := by decide +kernel
theorem dX5_wrongBy_11 : decode cX5_wrongBy 11 = .ok (.iload_n 2, 1) := by decide +kernel
theorem dX5_wrongBy_12 : decode cX5_wrongBy 12 = .ok (.if_icmp .le 8, 3) := by decide +kernel
theorem dX5_wrongBy_15 : decode cX5_wrongBy 15 = .ok (.bipush (-6), 2) := by decide +kernel
theorem dX5_wrongBy_17 : decode cX5_wrongBy 17 = .ok (.goto 4, 3) := by decide +kernel
theorem dX5_wrongBy_20 : decode cX5_wrongBy 20 = .ok (.iconst 0, 1) := by decide +kernel
theorem dX5_wrongBy_21 : decode cX5_wrongBy 21 = .ok (.ireturn, 1) := by decide +kernel
theorem dX5_quarrels_0 : decode cX5_quarrels 0 = .ok (.aload_n 0, 1) := by decide +kernel
theorem dX5_quarrels_1 : decode cX5_quarrels 1 = .ok (.iload_n 1, 1) := by decide +kernel
theorem dX5_quarrels_2 : decode cX5_quarrels 2 = .ok (.invokevirtual 120, 3) := by decide +kernel
theorem dX5_quarrels_5 : decode cX5_quarrels 5 = .ok (.ifCond .eq 21, 3) := by decide +kernel
theorem dX5_quarrels_8 : decode cX5_quarrels 8 = .ok (.aload_n 0, 1) := by decide +kernel
theorem dX5_quarrels_9 : decode cX5_quarrels 9 = .ok (.iload_n 3, 1) := by decide +kernel
theorem dX5_quarrels_10 : decode cX5_quarrels 10 = .ok (.invokevirtual 117, 3) := by decide +kernel
theorem dX5_quarrels_13 : decode cX5_quarrels 13 = .ok (.ifCond .eq 13, 3) := by decide +kernel
theorem dX5_quarrels_16 : decode cX5_quarrels 16 = .ok (.iload_n 2, 1) := by decide +kernel
theorem dX5_quarrels_17 : decode cX5_quarrels 17 = .ok (.iconst 0, 1) := by decide +kernel
theorem dX5_quarrels_18 : decode cX5_quarrels 18 = .ok (.bipush 99, 2) := by decide +kernel
theorem dX5_quarrels_20 : decode cX5_quarrels 20 = .ok (.invokestatic 144, 3) := by decide +kernel
theorem dX5_quarrels_23 : decode cX5_quarrels 23 = .ok (.goto 4, 3) := by decide +kernel
theorem dX5_quarrels_26 : decode cX5_quarrels 26 = .ok (.iconst (-1), 1) := by decide +kernel
theorem dX5_quarrels_27 : decode cX5_quarrels 27 = .ok (.istore 4, 2) := by decide +kernel
theorem dX5_quarrels_29 : decode cX5_quarrels 29 = .ok (.iload 4, 2) := by decide +kernel
theorem dX5_quarrels_31 : decode cX5_quarrels 31 = .ok (.ifCond .eq 10, 3) := by decide +kernel
theorem dX5_quarrels_34 : decode cX5_quarrels 34 = .ok (.aload_n 0, 1) := by decide +kernel
theorem dX5_quarrels_35 : decode cX5_quarrels 35 = .ok (.iload 4, 2) := by decide +kernel
theorem dX5_quarrels_37 : decode cX5_quarrels 37 = .ok (.invokevirtual 38, 3) := by decide +kernel
theorem dX5_quarrels_40 : decode cX5_quarrels 40 = .ok (.ireturn, 1) := by decide +kernel
theorem dX5_quarrels_41 : decode cX5_quarrels 41 = .ok (.aload_n 0, 1) := by decide +kernel
theorem dX5_quarrels_42 : decode cX5_quarrels 42 = .ok (.getfield 9, 3) := by decide +kernel
theorem dX5_quarrels_45 : decode cX5_quarrels 45 = .ok (.iload_n 1, 1) := by decide +kernel
theorem dX5_quarrels_46 : decode cX5_quarrels 46 = .ok (.iconst 4, 1) := by decide +kernel
theorem dX5_quarrels_47 : decode cX5_quarrels 47 = .ok (.invokestatic 48, 3) := by decide +kernel
theorem dX5_quarrels_50 : decode cX5_quarrels 50 = .ok (.iaload, 1) := by decide +kernel
theorem dX5_quarrels_51 : decode cX5_quarrels 51 = .ok (.istore 5, 2) := by decide +kernel
theorem dX5_quarrels_53 : decode cX5_quarrels 53 = .ok (.aload_n 0, 1) := by decide +kernel
theorem dX5_quarrels_54 : decode cX5_quarrels 54 = .ok (.getfield 9, 3) := by decide +kernel
theorem dX5_quarrels_57 : decode cX5_quarrels 57 = .ok (.iload_n 1, 1) := by decide +kernel
theorem dX5_quarrels_58 : decode cX5_quarrels 58 = .ok (.iload_n 2, 1) := by decide +kernel
theorem dX5_quarrels_59 : decode cX5_quarrels 59 = .ok (.iload_n 3, 1) := by decide +kernel
theorem dX5_quarrels_60 : decode cX5_quarrels 60 = .ok (.invokestatic 69, 3) := by decide +kernel
theorem dX5_quarrels_63 : decode cX5_quarrels 63 = .ok (.iload 5, 2) := by decide +kernel
theorem dX5_quarrels_65 : decode cX5_quarrels 65 = .ok (.ireturn, 1) := by decide +kernel
theorem dX5_airs_0 : decode cX5_airs 0 = .ok (.aload_n 0, 1) := by decide +kernel
theorem dX5_airs_1 : decode cX5_airs 1 = .ok (.iload_n 1, 1) := by decide +kernel
theorem dX5_airs_2 : decode cX5_airs 2 = .ok (.invokevirtual 120, 3) := by decide +kernel
theorem dX5_airs_5 : decode cX5_airs 5 = .ok (.ifCond .ne 9, 3) := by decide +kernel
theorem dX5_airs_8 : decode cX5_airs 8 = .ok (.aload_n 0, 1) := by decide +kernel
theorem dX5_airs_9 : decode cX5_airs 9 = .ok (.iconst (-1), 1) := by decide +kernel
theorem dX5_airs_10 : decode cX5_airs 10 = .ok (.invokevirtual 38, 3) := by decide +kernel
theorem dX5_airs_13 : decode cX5_airs 13 = .ok (.ireturn, 1) := by decide +kernel
theorem dX5_airs_14 : decode cX5_airs 14 = .ok (.aload_n 0, 1) := by decide +kernel
theorem dX5_airs_15 : decode cX5_airs 15 = .ok (.getfield 9, 3) := by decide +kernel
theorem dX5_airs_18 : decode cX5_airs 18 = .ok (.iload_n 1, 1) := by decide +kernel
theorem dX5_airs_19 : decode cX5_airs 19 = .ok (.iconst 4, 1) := by decide +kernel
theorem dX5_airs_20 : decode cX5_airs 20 = .ok (.invokestatic 48, 3) := by decide +kernel
theorem dX5_airs_23 : decode cX5_airs 23 = .ok (.iaload, 1) := by decide +kernel
theorem dX5_airs_24 : decode cX5_airs 24 = .ok (.istore_n 2, 1) := by decide +kernel
theorem dX5_airs_25 : decode cX5_airs 25 = .ok (.aload_n 0, 1) := by decide +kernel
theorem dX5_airs_26 : decode cX5_airs 26 = .ok (.getfield 9, 3) := by decide +kernel
theorem dX5_airs_29 : decode cX5_airs 29 = .ok (.iload_n 1, 1) := by decide +kernel
theorem dX5_airs_30 : decode cX5_airs 30 = .ok (.iconst 0, 1) := by decide +kernel
theorem dX5_airs_31 : decode cX5_airs 31 = .ok (.bipush 9, 2) := by decide +kernel
theorem dX5_airs_33 : decode cX5_airs 33 = .ok (.invokestatic 69, 3) := by decide +kernel
theorem dX5_airs_36 : decode cX5_airs 36 = .ok (.iload_n 2, 1) := by decide +kernel
theorem dX5_airs_37 : decode cX5_airs 37 = .ok (.ireturn, 1) := by decide +kernel
theorem dX5_moods_0 : decode cX5_moods 0 = .ok (.aload_n 0, 1) := by decide +kernel
theorem dX5_moods_1 : decode cX5_moods 1 = .ok (.iload_n 1, 1) := by decide +kernel
theorem dX5_moods_2 : decode cX5_moods 2 = .ok (.invokevirtual 117, 3) := by decide +kernel
theorem dX5_moods_5 : decode cX5_moods 5 = .ok (.ifCond .eq 13, 3) := by decide +kernel
theorem dX5_moods_8 : decode cX5_moods 8 = .ok (.iload_n 2, 1) := by decide +kernel
theorem dX5_moods_9 : decode cX5_moods 9 = .ok (.iconst 0, 1) := by decide +kernel
theorem dX5_moods_10 : decode cX5_moods 10 = .ok (.bipush 99, 2) := by decide +kernel
theorem dX5_moods_12 : decode cX5_moods 12 = .ok (.invokestatic 144, 3) := by decide +kernel
theorem dX5_moods_15 : decode cX5_moods 15 = .ok (.goto 4, 3) := by decide +kernel
theorem dX5_moods_18 : decode cX5_moods 18 = .ok (.iconst (-1), 1) := by decide +kernel
theorem dX5_moods_19 : decode cX5_moods 19 = .ok (.istore_n 3, 1) := by decide +kernel
theorem dX5_moods_20 : decode cX5_moods 20 = .ok (.iload_n 3, 1) := by decide +kernel
theorem dX5_moods_21 : decode cX5_moods 21 = .ok (.ifCond .eq 9, 3) := by decide +kernel
theorem dX5_moods_24 : decode cX5_moods 24 = .ok (.aload_n 0, 1) := by decide +kernel
theorem dX5_moods_25 : decode cX5_moods 25 = .ok (.iload_n 3, 1) := by decide +kernel
theorem dX5_moods_26 : decode cX5_moods 26 = .ok (.invokevirtual 38, 3) := by decide +kernel
theorem dX5_moods_29 : decode cX5_moods 29 = .ok (.ireturn, 1) := by decide +kernel
theorem dX5_moods_30 : decode cX5_moods 30 = .ok (.aload_n 0, 1) := by decide +kernel
theorem dX5_moods_31 : decode cX5_moods 31 = .ok (.getfield 9, 3) := by decide +kernel
theorem dX5_moods_34 : decode cX5_moods 34 = .ok (.iload_n 1, 1) := by decide +kernel
theorem dX5_moods_35 : decode cX5_moods 35 = .ok (.iconst 2, 1) := by decide +kernel
theorem dX5_moods_36 : decode cX5_moods 36 = .ok (.invokestatic 55, 3) := by decide +kernel
theorem dX5_moods_39 : decode cX5_moods 39 = .ok (.iaload, 1) := by decide +kernel
theorem dX5_moods_40 : decode cX5_moods 40 = .ok (.istore 4, 2) := by decide +kernel
theorem dX5_moods_42 : decode cX5_moods 42 = .ok (.aload_n 0, 1) := by decide +kernel
theorem dX5_moods_43 : decode cX5_moods 43 = .ok (.getfield 9, 3) := by decide +kernel
theorem dX5_moods_46 : decode cX5_moods 46 = .ok (.iload_n 1, 1) := by decide +kernel
theorem dX5_moods_47 : decode cX5_moods 47 = .ok (.iconst 2, 1) := by decide +kernel
theorem dX5_moods_48 : decode cX5_moods 48 = .ok (.invokestatic 55, 3) := by decide +kernel
theorem dX5_moods_51 : decode cX5_moods 51 = .ok (.iload_n 2, 1) := by decide +kernel
theorem dX5_moods_52 : decode cX5_moods 52 = .ok (.iastore, 1) := by decide +kernel
theorem dX5_moods_53 : decode cX5_moods 53 = .ok (.iload 4, 2) := by decide +kernel
theorem dX5_moods_55 : decode cX5_moods 55 = .ok (.ireturn, 1) := by decide +kernel
theorem dX5_stands_0 : decode cX5_stands 0 = .ok (.aload_n 0, 1) := by decide +kernel
theorem dX5_stands_1 : decode cX5_stands 1 = .ok (.iload_n 1, 1) := by decide +kernel
theorem dX5_stands_2 : decode cX5_stands 2 = .ok (.invokevirtual 117, 3) := by decide +kernel
theorem dX5_stands_5 : decode cX5_stands 5 = .ok (.ifCond .eq 10, 3) := by decide +kernel
theorem dX5_stands_8 : decode cX5_stands 8 = .ok (.iload_n 2, 1) := by decide +kernel
theorem dX5_stands_9 : decode cX5_stands 9 = .ok (.invokestatic 109, 3) := by decide +kernel
theorem dX5_stands_12 : decode cX5_stands 12 = .ok (.ifCond .ne 9, 3) := by decide +kernel
theorem dX5_stands_15 : decode cX5_stands 15 = .ok (.aload_n 0, 1) := by decide +kernel
theorem dX5_stands_16 : decode cX5_stands 16 = .ok (.iconst (-1), 1) := by decide +kernel
theorem dX5_stands_17 : decode cX5_stands 17 = .ok (.invokevirtual 38, 3) := by decide +kernel
theorem dX5_stands_20 : decode cX5_stands 20 = .ok (.ireturn, 1) := by decide +kernel
theorem dX5_stands_21 : decode cX5_stands 21 = .ok (.aload_n 0, 1) := by decide +kernel
theorem dX5_stands_22 : decode cX5_stands 22 = .ok (.getfield 9, 3) := by decide +kernel
theorem dX5_stands_25 : decode cX5_stands 25 = .ok (.iload_n 1, 1) := by decide +kernel
theorem dX5_stands_26 : decode cX5_stands 26 = .ok (.iconst 1, 1) := by decide +kernel
theorem dX5_stands_27 : decode cX5_stands 27 = .ok (.invokestatic 55, 3) := by decide +kernel
theorem dX5_stands_30 : decode cX5_stands 30 = .ok (.iaload, 1) := by decide +kernel
theorem dX5_stands_31 : decode cX5_stands 31 = .ok (.istore_n 3, 1) := by decide +kernel
theorem dX5_stands_32 : decode cX5_stands 32 = .ok (.aload_n 0, 1) := by decide +kernel
theorem dX5_stands_33 : decode cX5_stands 33 = .ok (.getfield 9, 3) := by decide +kernel
theorem dX5_stands_36 : decode cX5_stands 36 = .ok (.iload_n 1, 1) := by decide +kernel
theorem dX5_stands_37 : decode cX5_stands 37 = .ok (.iconst 1, 1) := by decide +kernel
theorem dX5_stands_38 : decode cX5_stands 38 = .ok (.invokestatic 55, 3) := by decide +kernel
theorem dX5_stands_41 : decode cX5_stands 41 = .ok (.iload_n 2, 1) := by decide +kernel
theorem dX5_stands_42 : decode cX5_stands 42 = .ok (.iastore, 1) := by decide +kernel
theorem dX5_stands_43 : decode cX5_stands 43 = .ok (.iload_n 3, 1) := by decide +kernel
theorem dX5_stands_44 : decode cX5_stands 44 = .ok (.ireturn, 1) := by decide +kernel
theorem dX5_turn_0 : decode cX5_turn 0 = .ok (.aload_n 0, 1) := by decide +kernel
theorem dX5_turn_1 : decode cX5_turn 1 = .ok (.iload_n 1, 1) := by decide +kernel
theorem dX5_turn_2 : decode cX5_turn 2 = .ok (.invokevirtual 120, 3) := by decide +kernel
theorem dX5_turn_5 : decode cX5_turn 5 = .ok (.ifCond .ne 7, 3) := by decide +kernel
theorem dX5_turn_8 : decode cX5_turn 8 = .ok (.iconst (-1), 1) := by decide +kernel
theorem dX5_turn_9 : decode cX5_turn 9 = .ok (.goto 24, 3) := by decide +kernel
theorem dX5_turn_12 : decode cX5_turn 12 = .ok (.iload_n 2, 1) := by decide +kernel
theorem dX5_turn_13 : decode cX5_turn 13 = .ok (.iconst 0, 1) := by decide +kernel
theorem dX5_turn_14 : decode cX5_turn 14 = .ok (.iconst 5, 1) := by decide +kernel
theorem dX5_turn_15 : decode cX5_turn 15 = .ok (.invokestatic 44, 3) := by decide +kernel
theorem dX5_turn_18 : decode cX5_turn 18 = .ok (.ifCond .ne 8, 3) := by decide +kernel
theorem dX5_turn_21 : decode cX5_turn 21 = .ok (.bipush (-2), 2) := by decide +kernel
theorem dX5_turn_23 : decode cX5_turn 23 = .ok (.goto 10, 3) := by decide +kernel
theorem dX5_turn_26 : decode cX5_turn 26 = .ok (.iload_n 3, 1) := by decide +kernel
theorem dX5_turn_27 : decode cX5_turn 27 = .ok (.iconst 0, 1) := by decide +kernel
theorem dX5_turn_28 : decode cX5_turn 28 = .ok (.bipush 9, 2) := by decide +kernel
theorem dX5_turn_30 : decode cX5_turn 30 = .ok (.invokestatic 144, 3) := by decide +kernel
theorem dX5_turn_33 : decode cX5_turn 33 = .ok (.istore 4, 2) := by decide +kernel
theorem dX5_turn_35 : decode cX5_turn 35 = .ok (.iload 4, 2) := by decide +kernel
theorem dX5_turn_37 : decode cX5_turn 37 = .ok (.ifCond .eq 10, 3) := by decide +kernel
theorem dX5_turn_40 : decode cX5_turn 40 = .ok (.aload_n 0, 1) := by decide +kernel
theorem dX5_turn_41 : decode cX5_turn 41 = .ok (.iload 4, 2) := by decide +kernel
theorem dX5_turn_43 : decode cX5_turn 43 = .ok (.invokevirtual 38, 3) := by decide +kernel
theorem dX5_turn_46 : decode cX5_turn 46 = .ok (.ireturn, 1) := by decide +kernel
theorem dX5_turn_47 : decode cX5_turn 47 = .ok (.bipush 10, 2) := by decide +kernel
theorem dX5_turn_49 : decode cX5_turn 49 = .ok (.aload_n 0, 1) := by decide +kernel
theorem dX5_turn_50 : decode cX5_turn 50 = .ok (.getfield 9, 3) := by decide +kernel
theorem dX5_turn_53 : decode cX5_turn 53 = .ok (.iload_n 1, 1) := by decide +kernel
theorem dX5_turn_54 : decode cX5_turn 54 = .ok (.iconst 0, 1) := by decide +kernel
theorem dX5_turn_55 : decode cX5_turn 55 = .ok (.invokestatic 48, 3) := by decide +kernel
theorem dX5_turn_58 : decode cX5_turn 58 = .ok (.iaload, 1) := by decide +kernel
theorem dX5_turn_59 : decode cX5_turn 59 = .ok (.imul, 1) := by decide +kernel
theorem dX5_turn_60 : decode cX5_turn 60 = .ok (.aload_n 0, 1) := by decide +kernel
theorem dX5_turn_61 : decode cX5_turn 61 = .ok (.getfield 9, 3) := by decide +kernel
theorem dX5_turn_64 : decode cX5_turn 64 = .ok (.iload_n 1, 1) := by decide +kernel
theorem dX5_turn_65 : decode cX5_turn 65 = .ok (.iconst 1, 1) := by decide +kernel
theorem dX5_turn_66 : decode cX5_turn 66 = .ok (.invokestatic 48, 3) := by decide +kernel
theorem dX5_turn_69 : decode cX5_turn 69 = .ok (.iaload, 1) := by decide +kernel
theorem dX5_turn_70 : decode cX5_turn 70 = .ok (.iadd, 1) := by decide +kernel
theorem dX5_turn_71 : decode cX5_turn 71 = .ok (.istore 5, 2) := by decide +kernel
theorem dX5_turn_73 : decode cX5_turn 73 = .ok (.aload_n 0, 1) := by decide +kernel
theorem dX5_turn_74 : decode cX5_turn 74 = .ok (.getfield 9, 3) := by decide +kernel
theorem dX5_turn_77 : decode cX5_turn 77 = .ok (.iload_n 1, 1) := by decide +kernel
theorem dX5_turn_78 : decode cX5_turn 78 = .ok (.iconst 0, 1) := by decide +kernel
theorem dX5_turn_79 : decode cX5_turn 79 = .ok (.invokestatic 48, 3) := by decide +kernel
theorem dX5_turn_82 : decode cX5_turn 82 = .ok (.iload_n 2, 1) := by decide +kernel
theorem dX5_turn_83 : decode cX5_turn 83 = .ok (.iastore, 1) := by decide +kernel
theorem dX5_turn_84 : decode cX5_turn 84 = .ok (.aload_n 0, 1) := by decide +kernel
theorem dX5_turn_85 : decode cX5_turn 85 = .ok (.getfield 9, 3) := by decide +kernel
theorem dX5_turn_88 : decode cX5_turn 88 = .ok (.iload_n 1, 1) := by decide +kernel
theorem dX5_turn_89 : decode cX5_turn 89 = .ok (.iconst 1, 1) := by decide +kernel
theorem dX5_turn_90 : decode cX5_turn 90 = .ok (.invokestatic 48, 3) := by decide +kernel
theorem dX5_turn_93 : decode cX5_turn 93 = .ok (.iload_n 3, 1) := by decide +kernel
theorem dX5_turn_94 : decode cX5_turn 94 = .ok (.iastore, 1) := by decide +kernel
theorem dX5_turn_95 : decode cX5_turn 95 = .ok (.iload 5, 2) := by decide +kernel
theorem dX5_turn_97 : decode cX5_turn 97 = .ok (.ireturn, 1) := by decide +kernel
theorem dX5_hours_0 : decode cX5_hours 0 = .ok (.iload_n 1, 1) := by decide +kernel
theorem dX5_hours_1 : decode cX5_hours 1 = .ok (.iconst 1, 1) := by decide +kernel
theorem dX5_hours_2 : decode cX5_hours 2 = .ok (.if_icmp .ge 10, 3) := by decide +kernel
theorem dX5_hours_5 : decode cX5_hours 5 = .ok (.aload_n 0, 1) := by decide +kernel
theorem dX5_hours_6 : decode cX5_hours 6 = .ok (.bipush (-4), 2) := by decide +kernel
theorem dX5_hours_8 : decode cX5_hours 8 = .ok (.invokevirtual 38, 3) := by decide +kernel
theorem dX5_hours_11 : decode cX5_hours 11 = .ok (.ireturn, 1) := by decide +kernel
theorem dX5_hours_12 : decode cX5_hours 12 = .ok (.iload_n 1, 1) := by decide +kernel
theorem dX5_hours_13 : decode cX5_hours 13 = .ok (.bipush 60, 2) := by decide +kernel
theorem dX5_hours_15 : decode cX5_hours 15 = .ok (.if_icmp .gt 17, 3) := by decide +kernel
theorem dX5_hours_18 : decode cX5_hours 18 = .ok (.aload_n 0, 1) := by decide +kernel
theorem dX5_hours_19 : decode cX5_hours 19 = .ok (.getfield 9, 3) := by decide +kernel
theorem dX5_hours_22 : decode cX5_hours 22 = .ok (.iconst 2, 1) := by decide +kernel
theorem dX5_hours_23 : decode cX5_hours 23 = .ok (.iaload, 1) := by decide +kernel
theorem dX5_hours_24 : decode cX5_hours 24 = .ok (.iload_n 1, 1) := by decide +kernel
theorem dX5_hours_25 : decode cX5_hours 25 = .ok (.iadd, 1) := by decide +kernel
theorem dX5_hours_26 : decode cX5_hours 26 = .ok (.sipush 999, 3) := by decide +kernel
theorem dX5_hours_29 : decode cX5_hours 29 = .ok (.if_icmp .le 10, 3) := by decide +kernel
theorem dX5_hours_32 : decode cX5_hours 32 = .ok (.aload_n 0, 1) := by decide +kernel
theorem dX5_hours_33 : decode cX5_hours 33 = .ok (.bipush (-6), 2) := by decide +kernel
theorem dX5_hours_35 : decode cX5_hours 35 = .ok (.invokevirtual 38, 3) := by decide +kernel
theorem dX5_hours_38 : decode cX5_hours 38 = .ok (.ireturn, 1) := by decide +kernel
theorem dX5_hours_39 : decode cX5_hours 39 = .ok (.aload_n 0, 1) := by decide +kernel
theorem dX5_hours_40 : decode cX5_hours 40 = .ok (.getfield 9, 3) := by decide +kernel
theorem dX5_hours_43 : decode cX5_hours 43 = .ok (.iload_n 1, 1) := by decide +kernel
theorem dX5_hours_44 : decode cX5_hours 44 = .ok (.invokestatic 130, 3) := by decide +kernel
theorem dX5_hours_47 : decode cX5_hours 47 = .ok (.aload_n 0, 1) := by decide +kernel
theorem dX5_hours_48 : decode cX5_hours 48 = .ok (.getfield 9, 3) := by decide +kernel
theorem dX5_hours_51 : decode cX5_hours 51 = .ok (.invokestatic 148, 3) := by decide +kernel
theorem dX5_hours_54 : decode cX5_hours 54 = .ok (.ireturn, 1) := by decide +kernel
theorem dX5_takes_0 : decode cX5_takes 0 = .ok (.aload_n 0, 1) := by decide +kernel
theorem dX5_takes_1 : decode cX5_takes 1 = .ok (.getfield 9, 3) := by decide +kernel
theorem dX5_takes_4 : decode cX5_takes 4 = .ok (.aload_n 0, 1) := by decide +kernel
theorem dX5_takes_5 : decode cX5_takes 5 = .ok (.getfield 13, 3) := by decide +kernel
theorem dX5_takes_8 : decode cX5_takes 8 = .ok (.invokestatic 137, 3) := by decide +kernel
theorem dX5_takes_11 : decode cX5_takes 11 = .ok (.aload_n 0, 1) := by decide +kernel
theorem dX5_takes_12 : decode cX5_takes 12 = .ok (.getfield 13, 3) := by decide +kernel
theorem dX5_takes_15 : decode cX5_takes 15 = .ok (.iload_n 1, 1) := by decide +kernel
theorem dX5_takes_16 : decode cX5_takes 16 = .ok (.invokestatic 130, 3) := by decide +kernel
theorem dX5_takes_19 : decode cX5_takes 19 = .ok (.return_, 1) := by decide +kernel
theorem dX5_doorThen_0 : decode cX5_doorThen 0 = .ok (.aload_n 0, 1) := by decide +kernel
theorem dX5_doorThen_1 : decode cX5_doorThen 1 = .ok (.iload_n 1, 1) := by decide +kernel
theorem dX5_doorThen_2 : decode cX5_doorThen 2 = .ok (.invokevirtual 120, 3) := by decide +kernel
theorem dX5_doorThen_5 : decode cX5_doorThen 5 = .ok (.ifCond .eq 13, 3) := by decide +kernel
theorem dX5_doorThen_8 : decode cX5_doorThen 8 = .ok (.iload_n 2, 1) := by decide +kernel
theorem dX5_doorThen_9 : decode cX5_doorThen 9 = .ok (.iconst 0, 1) := by decide +kernel
theorem dX5_doorThen_10 : decode cX5_doorThen 10 = .ok (.bipush 60, 2) := by decide +kernel
theorem dX5_doorThen_12 : decode cX5_doorThen 12 = .ok (.invokestatic 144, 3) := by decide +kernel
theorem dX5_doorThen_15 : decode cX5_doorThen 15 = .ok (.goto 4, 3) := by decide +kernel
theorem dX5_doorThen_18 : decode cX5_doorThen 18 = .ok (.iconst (-1), 1) := by decide +kernel
theorem dX5_doorThen_19 : decode cX5_doorThen 19 = .ok (.istore 4, 2) := by decide +kernel
theorem dX5_doorThen_21 : decode cX5_doorThen 21 = .ok (.iload 4, 2) := by decide +kernel
theorem dX5_doorThen_23 : decode cX5_doorThen 23 = .ok (.ifCond .ne 16, 3) := by decide +kernel
theorem dX5_doorThen_26 : decode cX5_doorThen 26 = .ok (.iload_n 3, 1) := by decide +kernel
theorem dX5_doorThen_27 : decode cX5_doorThen 27 = .ok (.iconst 0, 1) := by decide +kernel
theorem dX5_doorThen_28 : decode cX5_doorThen 28 = .ok (.iconst 1, 1) := by decide +kernel
theorem dX5_doorThen_29 : decode cX5_doorThen 29 = .ok (.invokestatic 44, 3) := by decide +kernel
theorem dX5_doorThen_32 : decode cX5_doorThen 32 = .ok (.ifCond .ne 7, 3) := by decide +kernel
theorem dX5_doorThen_35 : decode cX5_doorThen 35 = .ok (.bipush (-2), 2) := by decide +kernel
theorem dX5_doorThen_37 : decode cX5_doorThen 37 = .ok (.istore 4, 2) := by decide +kernel
theorem dX5_doorThen_39 : decode cX5_doorThen 39 = .ok (.iload 4, 2) := by decide +kernel
theorem dX5_doorThen_41 : decode cX5_doorThen 41 = .ok (.ifCond .eq 10, 3) := by decide +kernel
theorem dX5_doorThen_44 : decode cX5_doorThen 44 = .ok (.aload_n 0, 1) := by decide +kernel
theorem dX5_doorThen_45 : decode cX5_doorThen 45 = .ok (.iload 4, 2) := by decide +kernel
theorem dX5_doorThen_47 : decode cX5_doorThen 47 = .ok (.invokevirtual 38, 3) := by decide +kernel
theorem dX5_doorThen_50 : decode cX5_doorThen 50 = .ok (.ireturn, 1) := by decide +kernel
theorem dX5_doorThen_51 : decode cX5_doorThen 51 = .ok (.aload_n 0, 1) := by decide +kernel
theorem dX5_doorThen_52 : decode cX5_doorThen 52 = .ok (.iload_n 2, 1) := by decide +kernel
theorem dX5_doorThen_53 : decode cX5_doorThen 53 = .ok (.invokevirtual 152, 3) := by decide +kernel
theorem dX5_doorThen_56 : decode cX5_doorThen 56 = .ok (.aload_n 0, 1) := by decide +kernel
theorem dX5_doorThen_57 : decode cX5_doorThen 57 = .ok (.getfield 13, 3) := by decide +kernel
theorem dX5_doorThen_60 : decode cX5_doorThen 60 = .ok (.iload_n 1, 1) := by decide +kernel
theorem dX5_doorThen_61 : decode cX5_doorThen 61 = .ok (.iconst 4, 1) := by decide +kernel
theorem dX5_doorThen_62 : decode cX5_doorThen 62 = .ok (.iload_n 3, 1) := by decide +kernel
theorem dX5_doorThen_63 : decode cX5_doorThen 63 = .ok (.iadd, 1) := by decide +kernel
theorem dX5_doorThen_64 : decode cX5_doorThen 64 = .ok (.invokestatic 48, 3) := by decide +kernel
theorem dX5_doorThen_67 : decode cX5_doorThen 67 = .ok (.iaload, 1) := by decide +kernel
theorem dX5_doorThen_68 : decode cX5_doorThen 68 = .ok (.ireturn, 1) := by decide +kernel
theorem dX5_moodThen_0 : decode cX5_moodThen 0 = .ok (.aload_n 0, 1) := by decide +kernel
theorem dX5_moodThen_1 : decode cX5_moodThen 1 = .ok (.iload_n 1, 1) := by decide +kernel
theorem dX5_moodThen_2 : decode cX5_moodThen 2 = .ok (.invokevirtual 117, 3) := by decide +kernel
theorem dX5_moodThen_5 : decode cX5_moodThen 5 = .ok (.ifCond .eq 13, 3) := by decide +kernel
theorem dX5_moodThen_8 : decode cX5_moodThen 8 = .ok (.iload_n 2, 1) := by decide +kernel
theorem dX5_moodThen_9 : decode cX5_moodThen 9 = .ok (.iconst 0, 1) := by decide +kernel
theorem dX5_moodThen_10 : decode cX5_moodThen 10 = .ok (.bipush 60, 2) := by decide +kernel
theorem dX5_moodThen_12 : decode cX5_moodThen 12 = .ok (.invokestatic 144, 3) := by decide +kernel
theorem dX5_moodThen_15 : decode cX5_moodThen 15 = .ok (.goto 4, 3) := by decide +kernel
theorem dX5_moodThen_18 : decode cX5_moodThen 18 = .ok (.iconst (-1), 1) := by decide +kernel
theorem dX5_moodThen_19 : decode cX5_moodThen 19 = .ok (.istore_n 3, 1) := by decide +kernel
theorem dX5_moodThen_20 : decode cX5_moodThen 20 = .ok (.iload_n 3, 1) := by decide +kernel
theorem dX5_moodThen_21 : decode cX5_moodThen 21 = .ok (.ifCond .eq 9, 3) := by decide +kernel
theorem dX5_moodThen_24 : decode cX5_moodThen 24 = .ok (.aload_n 0, 1) := by decide +kernel
theorem dX5_moodThen_25 : decode cX5_moodThen 25 = .ok (.iload_n 3, 1) := by decide +kernel
theorem dX5_moodThen_26 : decode cX5_moodThen 26 = .ok (.invokevirtual 38, 3) := by decide +kernel
theorem dX5_moodThen_29 : decode cX5_moodThen 29 = .ok (.ireturn, 1) := by decide +kernel
theorem dX5_moodThen_30 : decode cX5_moodThen 30 = .ok (.aload_n 0, 1) := by decide +kernel
theorem dX5_moodThen_31 : decode cX5_moodThen 31 = .ok (.iload_n 2, 1) := by decide +kernel
theorem dX5_moodThen_32 : decode cX5_moodThen 32 = .ok (.invokevirtual 152, 3) := by decide +kernel
theorem dX5_moodThen_35 : decode cX5_moodThen 35 = .ok (.aload_n 0, 1) := by decide +kernel
theorem dX5_moodThen_36 : decode cX5_moodThen 36 = .ok (.getfield 13, 3) := by decide +kernel
theorem dX5_moodThen_39 : decode cX5_moodThen 39 = .ok (.iload_n 1, 1) := by decide +kernel
theorem dX5_moodThen_40 : decode cX5_moodThen 40 = .ok (.iconst 2, 1) := by decide +kernel
theorem dX5_moodThen_41 : decode cX5_moodThen 41 = .ok (.invokestatic 55, 3) := by decide +kernel
theorem dX5_moodThen_44 : decode cX5_moodThen 44 = .ok (.iaload, 1) := by decide +kernel
theorem dX5_moodThen_45 : decode cX5_moodThen 45 = .ok (.ireturn, 1) := by decide +kernel
theorem dX5_cold_0 : decode cX5_cold 0 = .ok (.aload_n 0, 1) := by decide +kernel
theorem dX5_cold_1 : decode cX5_cold 1 = .ok (.getfield 9, 3) := by decide +kernel
theorem dX5_cold_4 : decode cX5_cold 4 = .ok (.aload_n 0, 1) := by decide +kernel
theorem dX5_cold_5 : decode cX5_cold 5 = .ok (.getfield 13, 3) := by decide +kernel
theorem dX5_cold_8 : decode cX5_cold 8 = .ok (.invokestatic 137, 3) := by decide +kernel
theorem dX5_cold_11 : decode cX5_cold 11 = .ok (.iconst 0, 1) := by decide +kernel
theorem dX5_cold_12 : decode cX5_cold 12 = .ok (.istore_n 1, 1) := by decide +kernel
theorem dX5_cold_13 : decode cX5_cold 13 = .ok (.iload_n 1, 1) := by decide +kernel
theorem dX5_cold_14 : decode cX5_cold 14 = .ok (.bipush 60, 2) := by decide +kernel
theorem dX5_cold_16 : decode cX5_cold 16 = .ok (.if_icmp .gt 28, 3) := by decide +kernel
theorem dX5_cold_19 : decode cX5_cold 19 = .ok (.aload_n 0, 1) := by decide +kernel
theorem dX5_cold_20 : decode cX5_cold 20 = .ok (.getfield 13, 3) := by decide +kernel
theorem dX5_cold_23 : decode cX5_cold 23 = .ok (.invokestatic 148, 3) := by decide +kernel
theorem dX5_cold_26 : decode cX5_cold 26 = .ok (.ifCond .ne 5, 3) := by decide +kernel
theorem dX5_cold_29 : decode cX5_cold 29 = .ok (.iload_n 1, 1) := by decide +kernel
theorem dX5_cold_30 : decode cX5_cold 30 = .ok (.ireturn, 1) := by decide +kernel
theorem dX5_cold_31 : decode cX5_cold 31 = .ok (.aload_n 0, 1) := by decide +kernel
theorem dX5_cold_32 : decode cX5_cold 32 = .ok (.getfield 13, 3) := by decide +kernel
theorem dX5_cold_35 : decode cX5_cold 35 = .ok (.invokestatic 83, 3) := by decide +kernel
theorem dX5_cold_38 : decode cX5_cold 38 = .ok (.iinc 1 1, 3) := by decide +kernel
theorem dX5_cold_41 : decode cX5_cold 41 = .ok (.goto (-28), 3) := by decide +kernel
theorem dX5_cold_44 : decode cX5_cold 44 = .ok (.bipush (-9), 2) := by decide +kernel
theorem dX5_cold_46 : decode cX5_cold 46 = .ok (.ireturn, 1) := by decide +kernel
theorem dX5_hottest_0 : decode cX5_hottest 0 = .ok (.bipush (-9), 2) := by decide +kernel
theorem dX5_hottest_2 : decode cX5_hottest 2 = .ok (.istore_n 1, 1) := by decide +kernel
theorem dX5_hottest_3 : decode cX5_hottest 3 = .ok (.iconst 0, 1) := by decide +kernel
theorem dX5_hottest_4 : decode cX5_hottest 4 = .ok (.istore_n 2, 1) := by decide +kernel
theorem dX5_hottest_5 : decode cX5_hottest 5 = .ok (.iload_n 2, 1) := by decide +kernel
theorem dX5_hottest_6 : decode cX5_hottest 6 = .ok (.aload_n 0, 1) := by decide +kernel
theorem dX5_hottest_7 : decode cX5_hottest 7 = .ok (.getfield 9, 3) := by decide +kernel
theorem dX5_hottest_10 : decode cX5_hottest 10 = .ok (.iconst 0, 1) := by decide +kernel
theorem dX5_hottest_11 : decode cX5_hottest 11 = .ok (.iaload, 1) := by decide +kernel
theorem dX5_hottest_12 : decode cX5_hottest 12 = .ok (.if_icmp .ge 34, 3) := by decide +kernel
theorem dX5_hottest_15 : decode cX5_hottest 15 = .ok (.iload_n 1, 1) := by decide +kernel
theorem dX5_hottest_16 : decode cX5_hottest 16 = .ok (.ifCond .lt 22, 3) := by decide +kernel
theorem dX5_hottest_19 : decode cX5_hottest 19 = .ok (.aload_n 0, 1) := by decide +kernel
theorem dX5_hottest_20 : decode cX5_hottest 20 = .ok (.getfield 9, 3) := by decide +kernel
theorem dX5_hottest_23 : decode cX5_hottest 23 = .ok (.iload_n 2, 1) := by decide +kernel
theorem dX5_hottest_24 : decode cX5_hottest 24 = .ok (.invokestatic 58, 3) := by decide +kernel
theorem dX5_hottest_27 : decode cX5_hottest 27 = .ok (.aload_n 0, 1) := by decide +kernel
theorem dX5_hottest_28 : decode cX5_hottest 28 = .ok (.getfield 9, 3) := by decide +kernel
theorem dX5_hottest_31 : decode cX5_hottest 31 = .ok (.iload_n 1, 1) := by decide +kernel
theorem dX5_hottest_32 : decode cX5_hottest 32 = .ok (.invokestatic 58, 3) := by decide +kernel
theorem dX5_hottest_35 : decode cX5_hottest 35 = .ok (.if_icmp .le 5, 3) := by decide +kernel
theorem dX5_hottest_38 : decode cX5_hottest 38 = .ok (.iload_n 2, 1) := by decide +kernel
theorem dX5_hottest_39 : decode cX5_hottest 39 = .ok (.istore_n 1, 1) := by decide +kernel
theorem dX5_hottest_40 : decode cX5_hottest 40 = .ok (.iinc 2 1, 3) := by decide +kernel
theorem dX5_hottest_43 : decode cX5_hottest 43 = .ok (.goto (-38), 3) := by decide +kernel
theorem dX5_hottest_46 : decode cX5_hottest 46 = .ok (.iload_n 1, 1) := by decide +kernel
theorem dX5_hottest_47 : decode cX5_hottest 47 = .ok (.ireturn, 1) := by decide +kernel
theorem dX5_loudest_0 : decode cX5_loudest 0 = .ok (.bipush (-9), 2) := by decide +kernel
theorem dX5_loudest_2 : decode cX5_loudest 2 = .ok (.istore_n 1, 1) := by decide +kernel
theorem dX5_loudest_3 : decode cX5_loudest 3 = .ok (.iconst 0, 1) := by decide +kernel
theorem dX5_loudest_4 : decode cX5_loudest 4 = .ok (.istore_n 2, 1) := by decide +kernel
theorem dX5_loudest_5 : decode cX5_loudest 5 = .ok (.iload_n 2, 1) := by decide +kernel
theorem dX5_loudest_6 : decode cX5_loudest 6 = .ok (.aload_n 0, 1) := by decide +kernel
theorem dX5_loudest_7 : decode cX5_loudest 7 = .ok (.getfield 9, 3) := by decide +kernel
theorem dX5_loudest_10 : decode cX5_loudest 10 = .ok (.iconst 0, 1) := by decide +kernel
theorem dX5_loudest_11 : decode cX5_loudest 11 = .ok (.iaload, 1) := by decide +kernel
theorem dX5_loudest_12 : decode cX5_loudest 12 = .ok (.if_icmp .ge 38, 3) := by decide +kernel
theorem dX5_loudest_15 : decode cX5_loudest 15 = .ok (.iload_n 1, 1) := by decide +kernel
theorem dX5_loudest_16 : decode cX5_loudest 16 = .ok (.ifCond .lt 26, 3) := by decide +kernel
theorem dX5_loudest_19 : decode cX5_loudest 19 = .ok (.aload_n 0, 1) := by decide +kernel
theorem dX5_loudest_20 : decode cX5_loudest 20 = .ok (.getfield 9, 3) := by decide +kernel
theorem dX5_loudest_23 : decode cX5_loudest 23 = .ok (.iload_n 2, 1) := by decide +kernel
theorem dX5_loudest_24 : decode cX5_loudest 24 = .ok (.iconst 4, 1) := by decide +kernel
theorem dX5_loudest_25 : decode cX5_loudest 25 = .ok (.invokestatic 48, 3) := by decide +kernel
theorem dX5_loudest_28 : decode cX5_loudest 28 = .ok (.iaload, 1) := by decide +kernel
theorem dX5_loudest_29 : decode cX5_loudest 29 = .ok (.aload_n 0, 1) := by decide +kernel
theorem dX5_loudest_30 : decode cX5_loudest 30 = .ok (.getfield 9, 3) := by decide +kernel
theorem dX5_loudest_33 : decode cX5_loudest 33 = .ok (.iload_n 1, 1) := by decide +kernel
theorem dX5_loudest_34 : decode cX5_loudest 34 = .ok (.iconst 4, 1) := by decide +kernel
theorem dX5_loudest_35 : decode cX5_loudest 35 = .ok (.invokestatic 48, 3) := by decide +kernel
theorem dX5_loudest_38 : decode cX5_loudest 38 = .ok (.iaload, 1) := by decide +kernel
theorem dX5_loudest_39 : decode cX5_loudest 39 = .ok (.if_icmp .le 5, 3) := by decide +kernel
theorem dX5_loudest_42 : decode cX5_loudest 42 = .ok (.iload_n 2, 1) := by decide +kernel
theorem dX5_loudest_43 : decode cX5_loudest 43 = .ok (.istore_n 1, 1) := by decide +kernel
theorem dX5_loudest_44 : decode cX5_loudest 44 = .ok (.iinc 2 1, 3) := by decide +kernel
theorem dX5_loudest_47 : decode cX5_loudest 47 = .ok (.goto (-42), 3) := by decide +kernel
theorem dX5_loudest_50 : decode cX5_loudest 50 = .ok (.iload_n 1, 1) := by decide +kernel
theorem dX5_loudest_51 : decode cX5_loudest 51 = .ok (.ireturn, 1) := by decide +kernel
theorem dX5_first_0 : decode cX5_first 0 = .ok (.iload_n 1, 1) := by decide +kernel
theorem dX5_first_1 : decode cX5_first 1 = .ok (.ifCond .ne 10, 3) := by decide +kernel
theorem dX5_first_4 : decode cX5_first 4 = .ok (.aload_n 0, 1) := by decide +kernel
theorem dX5_first_5 : decode cX5_first 5 = .ok (.invokevirtual 156, 3) := by decide +kernel
theorem dX5_first_8 : decode cX5_first 8 = .ok (.goto 33, 3) := by decide +kernel
theorem dX5_first_11 : decode cX5_first 11 = .ok (.iload_n 1, 1) := by decide +kernel
theorem dX5_first_12 : decode cX5_first 12 = .ok (.iconst 1, 1) := by decide +kernel
theorem dX5_first_13 : decode cX5_first 13 = .ok (.if_icmp .ne 10, 3) := by decide +kernel
theorem dX5_first_16 : decode cX5_first 16 = .ok (.aload_n 0, 1) := by decide +kernel
theorem dX5_first_17 : decode cX5_first 17 = .ok (.invokevirtual 159, 3) := by decide +kernel
theorem dX5_first_20 : decode cX5_first 20 = .ok (.goto 21, 3) := by decide +kernel
theorem dX5_first_23 : decode cX5_first 23 = .ok (.iload_n 1, 1) := by decide +kernel
theorem dX5_first_24 : decode cX5_first 24 = .ok (.iconst 2, 1) := by decide +kernel
theorem dX5_first_25 : decode cX5_first 25 = .ok (.if_icmp .ne 10, 3) := by decide +kernel
theorem dX5_first_28 : decode cX5_first 28 = .ok (.aload_n 0, 1) := by decide +kernel
theorem dX5_first_29 : decode cX5_first 29 = .ok (.invokevirtual 162, 3) := by decide +kernel
theorem dX5_first_32 : decode cX5_first 32 = .ok (.goto 9, 3) := by decide +kernel
theorem dX5_first_35 : decode cX5_first 35 = .ok (.aload_n 0, 1) := by decide +kernel
theorem dX5_first_36 : decode cX5_first 36 = .ok (.bipush (-2), 2) := by decide +kernel
theorem dX5_first_38 : decode cX5_first 38 = .ok (.invokevirtual 38, 3) := by decide +kernel
theorem dX5_first_41 : decode cX5_first 41 = .ok (.ireturn, 1) := by decide +kernel
theorem dX5_tollOf_0 : decode cX5_tollOf 0 = .ok (.bipush 100, 2) := by decide +kernel
theorem dX5_tollOf_2 : decode cX5_tollOf 2 = .ok (.aload_n 0, 1) := by decide +kernel
theorem dX5_tollOf_3 : decode cX5_tollOf 3 = .ok (.iload_n 1, 1) := by decide +kernel
theorem dX5_tollOf_4 : decode cX5_tollOf 4 = .ok (.invokestatic 58, 3) := by decide +kernel
theorem dX5_tollOf_7 : decode cX5_tollOf 7 = .ok (.imul, 1) := by decide +kernel
theorem dX5_tollOf_8 : decode cX5_tollOf 8 = .ok (.iconst 1, 1) := by decide +kernel
theorem dX5_tollOf_9 : decode cX5_tollOf 9 = .ok (.iadd, 1) := by decide +kernel
theorem dX5_tollOf_10 : decode cX5_tollOf 10 = .ok (.ireturn, 1) := by decide +kernel
theorem dX5_tolls_0 : decode cX5_tolls 0 = .ok (.iconst 0, 1) := by decide +kernel
theorem dX5_tolls_1 : decode cX5_tolls 1 = .ok (.istore 4, 2) := by decide +kernel
theorem dX5_tolls_3 : decode cX5_tolls 3 = .ok (.iload 4, 2) := by decide +kernel
theorem dX5_tolls_5 : decode cX5_tolls 5 = .ok (.bipush 7, 2) := by decide +kernel
theorem dX5_tolls_7 : decode cX5_tolls 7 = .ok (.if_icmp .ge 28, 3) := by decide +kernel
theorem dX5_tolls_10 : decode cX5_tolls 10 = .ok (.aload_n 0, 1) := by decide +kernel
theorem dX5_tolls_11 : decode cX5_tolls 11 = .ok (.getfield 34, 3) := by decide +kernel
theorem dX5_tolls_14 : decode cX5_tolls 14 = .ok (.iload 4, 2) := by decide +kernel
theorem dX5_tolls_16 : decode cX5_tolls 16 = .ok (.iload 4, 2) := by decide +kernel
theorem dX5_tolls_18 : decode cX5_tolls 18 = .ok (.iload_n 2, 1) := by decide +kernel
theorem dX5_tolls_19 : decode cX5_tolls 19 = .ok (.if_icmp .ne 7, 3) := by decide +kernel
theorem dX5_tolls_22 : decode cX5_tolls 22 = .ok (.iconst 0, 1) := by decide +kernel
theorem dX5_tolls_23 : decode cX5_tolls 23 = .ok (.goto 5, 3) := by decide +kernel
theorem dX5_tolls_26 : decode cX5_tolls 26 = .ok (.ldc 37, 2) := by decide +kernel
theorem dX5_tolls_28 : decode cX5_tolls 28 = .ok (.iastore, 1) := by decide +kernel
theorem dX5_tolls_29 : decode cX5_tolls 29 = .ok (.iinc 4 1, 3) := by decide +kernel
theorem dX5_tolls_32 : decode cX5_tolls 32 = .ok (.goto (-29), 3) := by decide +kernel
theorem dX5_tolls_35 : decode cX5_tolls 35 = .ok (.iconst 0, 1) := by decide +kernel
theorem dX5_tolls_36 : decode cX5_tolls 36 = .ok (.istore 4, 2) := by decide +kernel
theorem dX5_tolls_38 : decode cX5_tolls 38 = .ok (.iload 4, 2) := by decide +kernel
theorem dX5_tolls_40 : decode cX5_tolls 40 = .ok (.bipush 7, 2) := by decide +kernel
theorem dX5_tolls_42 : decode cX5_tolls 42 = .ok (.if_icmp .ge 145, 3) := by decide +kernel
theorem dX5_tolls_45 : decode cX5_tolls 45 = .ok (.iconst 0, 1) := by decide +kernel
theorem dX5_tolls_46 : decode cX5_tolls 46 = .ok (.istore 5, 2) := by decide +kernel
theorem dX5_tolls_48 : decode cX5_tolls 48 = .ok (.iload 5, 2) := by decide +kernel
theorem dX5_tolls_50 : decode cX5_tolls 50 = .ok (.aload_n 1, 1) := by decide +kernel
theorem dX5_tolls_51 : decode cX5_tolls 51 = .ok (.iconst 0, 1) := by decide +kernel
theorem dX5_tolls_52 : decode cX5_tolls 52 = .ok (.iaload, 1) := by decide +kernel
theorem dX5_tolls_53 : decode cX5_tolls 53 = .ok (.if_icmp .ge 128, 3) := by decide +kernel
theorem dX5_tolls_56 : decode cX5_tolls 56 = .ok (.iload 5, 2) := by decide +kernel
theorem dX5_tolls_58 : decode cX5_tolls 58 = .ok (.iload_n 3, 1) := by decide +kernel
theorem dX5_tolls_59 : decode cX5_tolls 59 = .ok (.if_icmp .ne 6, 3) := by decide +kernel
theorem dX5_tolls_62 : decode cX5_tolls 62 = .ok (.goto 113, 3) := by decide +kernel
theorem dX5_tolls_65 : decode cX5_tolls 65 = .ok (.aload_n 1, 1) := by decide +kernel
theorem dX5_tolls_66 : decode cX5_tolls 66 = .ok (.iload 5, 2) := by decide +kernel
theorem dX5_tolls_68 : decode cX5_tolls 68 = .ok (.iconst 2, 1) := by decide +kernel
theorem dX5_tolls_69 : decode cX5_tolls 69 = .ok (.invokestatic 48, 3) := by decide +kernel
theorem dX5_tolls_72 : decode cX5_tolls 72 = .ok (.iaload, 1) := by decide +kernel
theorem dX5_tolls_73 : decode cX5_tolls 73 = .ok (.istore 6, 2) := by decide +kernel
theorem dX5_tolls_75 : decode cX5_tolls 75 = .ok (.aload_n 1, 1) := by decide +kernel
theorem dX5_tolls_76 : decode cX5_tolls 76 = .ok (.iload 5, 2) := by decide +kernel
theorem dX5_tolls_78 : decode cX5_tolls 78 = .ok (.iconst 3, 1) := by decide +kernel
theorem dX5_tolls_79 : decode cX5_tolls 79 = .ok (.invokestatic 48, 3) := by decide +kernel
theorem dX5_tolls_82 : decode cX5_tolls 82 = .ok (.iaload, 1) := by decide +kernel
theorem dX5_tolls_83 : decode cX5_tolls 83 = .ok (.istore 7, 2) := by decide +kernel
theorem dX5_tolls_85 : decode cX5_tolls 85 = .ok (.aload_n 0, 1) := by decide +kernel
theorem dX5_tolls_86 : decode cX5_tolls 86 = .ok (.getfield 34, 3) := by decide +kernel
theorem dX5_tolls_89 : decode cX5_tolls 89 = .ok (.iload 7, 2) := by decide +kernel
theorem dX5_tolls_91 : decode cX5_tolls 91 = .ok (.iaload, 1) := by decide +kernel
theorem dX5_tolls_92 : decode cX5_tolls 92 = .ok (.aload_n 1, 1) := by decide +kernel
theorem dX5_tolls_93 : decode cX5_tolls 93 = .ok (.iload 5, 2) := by decide +kernel
theorem dX5_tolls_95 : decode cX5_tolls 95 = .ok (.invokestatic 165, 3) := by decide +kernel
theorem dX5_tolls_98 : decode cX5_tolls 98 = .ok (.iadd, 1) := by decide +kernel
theorem dX5_tolls_99 : decode cX5_tolls 99 = .ok (.aload_n 0, 1) := by decide +kernel
theorem dX5_tolls_100 : decode cX5_tolls 100 = .ok (.getfield 34, 3) := by decide +kernel
theorem dX5_tolls_103 : decode cX5_tolls 103 = .ok (.iload 6, 2) := by decide +kernel
theorem dX5_tolls_105 : decode cX5_tolls 105 = .ok (.iaload, 1) := by decide +kernel
theorem dX5_tolls_106 : decode cX5_tolls 106 = .ok (.if_icmp .ge 24, 3) := by decide +kernel
theorem dX5_tolls_109 : decode cX5_tolls 109 = .ok (.aload_n 0, 1) := by decide +kernel
theorem dX5_tolls_110 : decode cX5_tolls 110 = .ok (.getfield 34, 3) := by decide +kernel
theorem dX5_tolls_113 : decode cX5_tolls 113 = .ok (.iload 6, 2) := by decide +kernel
theorem dX5_tolls_115 : decode cX5_tolls 115 = .ok (.aload_n 0, 1) := by decide +kernel
theorem dX5_tolls_116 : decode cX5_tolls 116 = .ok (.getfield 34, 3) := by decide +kernel
theorem dX5_tolls_119 : decode cX5_tolls 119 = .ok (.iload 7, 2) := by decide +kernel
theorem dX5_tolls_121 : decode cX5_tolls 121 = .ok (.iaload, 1) := by decide +kernel
theorem dX5_tolls_122 : decode cX5_tolls 122 = .ok (.aload_n 1, 1) := by decide +kernel
theorem dX5_tolls_123 : decode cX5_tolls 123 = .ok (.iload 5, 2) := by decide +kernel
theorem dX5_tolls_125 : decode cX5_tolls 125 = .ok (.invokestatic 165, 3) := by decide +kernel
theorem dX5_tolls_128 : decode cX5_tolls 128 = .ok (.iadd, 1) := by decide +kernel
theorem dX5_tolls_129 : decode cX5_tolls 129 = .ok (.iastore, 1) := by decide +kernel
theorem dX5_tolls_130 : decode cX5_tolls 130 = .ok (.aload_n 0, 1) := by decide +kernel
theorem dX5_tolls_131 : decode cX5_tolls 131 = .ok (.getfield 34, 3) := by decide +kernel
theorem dX5_tolls_134 : decode cX5_tolls 134 = .ok (.iload 6, 2) := by decide +kernel
theorem dX5_tolls_136 : decode cX5_tolls 136 = .ok (.iaload, 1) := by decide +kernel
theorem dX5_tolls_137 : decode cX5_tolls 137 = .ok (.aload_n 1, 1) := by decide +kernel
theorem dX5_tolls_138 : decode cX5_tolls 138 = .ok (.iload 5, 2) := by decide +kernel
theorem dX5_tolls_140 : decode cX5_tolls 140 = .ok (.invokestatic 165, 3) := by decide +kernel
theorem dX5_tolls_143 : decode cX5_tolls 143 = .ok (.iadd, 1) := by decide +kernel
theorem dX5_tolls_144 : decode cX5_tolls 144 = .ok (.aload_n 0, 1) := by decide +kernel
theorem dX5_tolls_145 : decode cX5_tolls 145 = .ok (.getfield 34, 3) := by decide +kernel
theorem dX5_tolls_148 : decode cX5_tolls 148 = .ok (.iload 7, 2) := by decide +kernel
theorem dX5_tolls_150 : decode cX5_tolls 150 = .ok (.iaload, 1) := by decide +kernel
theorem dX5_tolls_151 : decode cX5_tolls 151 = .ok (.if_icmp .ge 24, 3) := by decide +kernel
theorem dX5_tolls_154 : decode cX5_tolls 154 = .ok (.aload_n 0, 1) := by decide +kernel
theorem dX5_tolls_155 : decode cX5_tolls 155 = .ok (.getfield 34, 3) := by decide +kernel
theorem dX5_tolls_158 : decode cX5_tolls 158 = .ok (.iload 7, 2) := by decide +kernel
theorem dX5_tolls_160 : decode cX5_tolls 160 = .ok (.aload_n 0, 1) := by decide +kernel
theorem dX5_tolls_161 : decode cX5_tolls 161 = .ok (.getfield 34, 3) := by decide +kernel
theorem dX5_tolls_164 : decode cX5_tolls 164 = .ok (.iload 6, 2) := by decide +kernel
theorem dX5_tolls_166 : decode cX5_tolls 166 = .ok (.iaload, 1) := by decide +kernel
theorem dX5_tolls_167 : decode cX5_tolls 167 = .ok (.aload_n 1, 1) := by decide +kernel
theorem dX5_tolls_168 : decode cX5_tolls 168 = .ok (.iload 5, 2) := by decide +kernel
theorem dX5_tolls_170 : decode cX5_tolls 170 = .ok (.invokestatic 165, 3) := by decide +kernel
theorem dX5_tolls_173 : decode cX5_tolls 173 = .ok (.iadd, 1) := by decide +kernel
theorem dX5_tolls_174 : decode cX5_tolls 174 = .ok (.iastore, 1) := by decide +kernel
theorem dX5_tolls_175 : decode cX5_tolls 175 = .ok (.iinc 5 1, 3) := by decide +kernel
theorem dX5_tolls_178 : decode cX5_tolls 178 = .ok (.goto (-130), 3) := by decide +kernel
theorem dX5_tolls_181 : decode cX5_tolls 181 = .ok (.iinc 4 1, 3) := by decide +kernel
theorem dX5_tolls_184 : decode cX5_tolls 184 = .ok (.goto (-146), 3) := by decide +kernel
theorem dX5_tolls_187 : decode cX5_tolls 187 = .ok (.return_, 1) := by decide +kernel
theorem dX5_firstDoor_0 : decode cX5_firstDoor 0 = .ok (.iconst 0, 1) := by decide +kernel
theorem dX5_firstDoor_1 : decode cX5_firstDoor 1 = .ok (.istore_n 3, 1) := by decide +kernel
theorem dX5_firstDoor_2 : decode cX5_firstDoor 2 = .ok (.iload_n 3, 1) := by decide +kernel
theorem dX5_firstDoor_3 : decode cX5_firstDoor 3 = .ok (.aload_n 0, 1) := by decide +kernel
theorem dX5_firstDoor_4 : decode cX5_firstDoor 4 = .ok (.iconst 0, 1) := by decide +kernel
theorem dX5_firstDoor_5 : decode cX5_firstDoor 5 = .ok (.iaload, 1) := by decide +kernel
theorem dX5_firstDoor_6 : decode cX5_firstDoor 6 = .ok (.if_icmp .ge 40, 3) := by decide +kernel
theorem dX5_firstDoor_9 : decode cX5_firstDoor 9 = .ok (.aload_n 0, 1) := by decide +kernel
theorem dX5_firstDoor_10 : decode cX5_firstDoor 10 = .ok (.iload_n 3, 1) := by decide +kernel
theorem dX5_firstDoor_11 : decode cX5_firstDoor 11 = .ok (.iload_n 2, 1) := by decide +kernel
theorem dX5_firstDoor_12 : decode cX5_firstDoor 12 = .ok (.invokestatic 123, 3) := by decide +kernel
theorem dX5_firstDoor_15 : decode cX5_firstDoor 15 = .ok (.ifCond .eq 25, 3) := by decide +kernel
theorem dX5_firstDoor_18 : decode cX5_firstDoor 18 = .ok (.aload_n 1, 1) := by decide +kernel
theorem dX5_firstDoor_19 : decode cX5_firstDoor 19 = .ok (.iload_n 2, 1) := by decide +kernel
theorem dX5_firstDoor_20 : decode cX5_firstDoor 20 = .ok (.iaload, 1) := by decide +kernel
theorem dX5_firstDoor_21 : decode cX5_firstDoor 21 = .ok (.aload_n 1, 1) := by decide +kernel
theorem dX5_firstDoor_22 : decode cX5_firstDoor 22 = .ok (.aload_n 0, 1) := by decide +kernel
theorem dX5_firstDoor_23 : decode cX5_firstDoor 23 = .ok (.iload_n 3, 1) := by decide +kernel
theorem dX5_firstDoor_24 : decode cX5_firstDoor 24 = .ok (.iload_n 2, 1) := by decide +kernel
theorem dX5_firstDoor_25 : decode cX5_firstDoor 25 = .ok (.invokestatic 73, 3) := by decide +kernel
theorem dX5_firstDoor_28 : decode cX5_firstDoor 28 = .ok (.iaload, 1) := by decide +kernel
theorem dX5_firstDoor_29 : decode cX5_firstDoor 29 = .ok (.aload_n 0, 1) := by decide +kernel
theorem dX5_firstDoor_30 : decode cX5_firstDoor 30 = .ok (.iload_n 3, 1) := by decide +kernel
theorem dX5_firstDoor_31 : decode cX5_firstDoor 31 = .ok (.invokestatic 165, 3) := by decide +kernel
theorem dX5_firstDoor_34 : decode cX5_firstDoor 34 = .ok (.iadd, 1) := by decide +kernel
theorem dX5_firstDoor_35 : decode cX5_firstDoor 35 = .ok (.if_icmp .ne 5, 3) := by decide +kernel
theorem dX5_firstDoor_38 : decode cX5_firstDoor 38 = .ok (.iload_n 3, 1) := by decide +kernel
theorem dX5_firstDoor_39 : decode cX5_firstDoor 39 = .ok (.ireturn, 1) := by decide +kernel
theorem dX5_firstDoor_40 : decode cX5_firstDoor 40 = .ok (.iinc 3 1, 3) := by decide +kernel
theorem dX5_firstDoor_43 : decode cX5_firstDoor 43 = .ok (.goto (-41), 3) := by decide +kernel
theorem dX5_firstDoor_46 : decode cX5_firstDoor 46 = .ok (.bipush (-9), 2) := by decide +kernel
theorem dX5_firstDoor_48 : decode cX5_firstDoor 48 = .ok (.ireturn, 1) := by decide +kernel
theorem dX5_areWrong_0 : decode cX5_areWrong 0 = .ok (.aload_n 0, 1) := by decide +kernel
theorem dX5_areWrong_1 : decode cX5_areWrong 1 = .ok (.iload_n 1, 1) := by decide +kernel
theorem dX5_areWrong_2 : decode cX5_areWrong 2 = .ok (.invokevirtual 117, 3) := by decide +kernel
theorem dX5_areWrong_5 : decode cX5_areWrong 5 = .ok (.ifCond .eq 10, 3) := by decide +kernel
theorem dX5_areWrong_8 : decode cX5_areWrong 8 = .ok (.iload_n 2, 1) := by decide +kernel
theorem dX5_areWrong_9 : decode cX5_areWrong 9 = .ok (.invokestatic 109, 3) := by decide +kernel
theorem dX5_areWrong_12 : decode cX5_areWrong 12 = .ok (.ifCond .ne 7, 3) := by decide +kernel
theorem dX5_areWrong_15 : decode cX5_areWrong 15 = .ok (.iconst 1, 1) := by decide +kernel
theorem dX5_areWrong_16 : decode cX5_areWrong 16 = .ok (.goto 4, 3) := by decide +kernel
theorem dX5_areWrong_19 : decode cX5_areWrong 19 = .ok (.iconst 0, 1) := by decide +kernel
theorem dX5_areWrong_20 : decode cX5_areWrong 20 = .ok (.ireturn, 1) := by decide +kernel
theorem dX5_way_0 : decode cX5_way 0 = .ok (.aload_n 0, 1) := by decide +kernel
theorem dX5_way_1 : decode cX5_way 1 = .ok (.iload_n 1, 1) := by decide +kernel
theorem dX5_way_2 : decode cX5_way 2 = .ok (.iload_n 2, 1) := by decide +kernel
theorem dX5_way_3 : decode cX5_way 3 = .ok (.invokevirtual 168, 3) := by decide +kernel
theorem dX5_way_6 : decode cX5_way 6 = .ok (.ifCond .eq 9, 3) := by decide +kernel
theorem dX5_way_9 : decode cX5_way 9 = .ok (.aload_n 0, 1) := by decide +kernel
theorem dX5_way_10 : decode cX5_way 10 = .ok (.iconst (-1), 1) := by decide +kernel
theorem dX5_way_11 : decode cX5_way 11 = .ok (.invokevirtual 38, 3) := by decide +kernel
theorem dX5_way_14 : decode cX5_way 14 = .ok (.ireturn, 1) := by decide +kernel
theorem dX5_way_15 : decode cX5_way 15 = .ok (.iload_n 3, 1) := by decide +kernel
theorem dX5_way_16 : decode cX5_way 16 = .ok (.iconst 0, 1) := by decide +kernel
theorem dX5_way_17 : decode cX5_way 17 = .ok (.iconst 2, 1) := by decide +kernel
theorem dX5_way_18 : decode cX5_way 18 = .ok (.invokestatic 44, 3) := by decide +kernel
theorem dX5_way_21 : decode cX5_way 21 = .ok (.ifCond .ne 10, 3) := by decide +kernel
theorem dX5_way_24 : decode cX5_way 24 = .ok (.aload_n 0, 1) := by decide +kernel
theorem dX5_way_25 : decode cX5_way 25 = .ok (.bipush (-2), 2) := by decide +kernel
theorem dX5_way_27 : decode cX5_way 27 = .ok (.invokevirtual 38, 3) := by decide +kernel
theorem dX5_way_30 : decode cX5_way 30 = .ok (.ireturn, 1) := by decide +kernel
theorem dX5_way_31 : decode cX5_way 31 = .ok (.aload_n 0, 1) := by decide +kernel
theorem dX5_way_32 : decode cX5_way 32 = .ok (.aload_n 0, 1) := by decide +kernel
theorem dX5_way_33 : decode cX5_way 33 = .ok (.getfield 9, 3) := by decide +kernel
theorem dX5_way_36 : decode cX5_way 36 = .ok (.iload_n 2, 1) := by decide +kernel
theorem dX5_way_37 : decode cX5_way 37 = .ok (.bipush (-9), 2) := by decide +kernel
theorem dX5_way_39 : decode cX5_way 39 = .ok (.invokevirtual 171, 3) := by decide +kernel
theorem dX5_way_42 : decode cX5_way 42 = .ok (.aload_n 0, 1) := by decide +kernel
theorem dX5_way_43 : decode cX5_way 43 = .ok (.getfield 9, 3) := by decide +kernel
theorem dX5_way_46 : decode cX5_way 46 = .ok (.iload_n 1, 1) := by decide +kernel
theorem dX5_way_47 : decode cX5_way 47 = .ok (.iconst 1, 1) := by decide +kernel
theorem dX5_way_48 : decode cX5_way 48 = .ok (.invokestatic 55, 3) := by decide +kernel
theorem dX5_way_51 : decode cX5_way 51 = .ok (.iaload, 1) := by decide +kernel
theorem dX5_way_52 : decode cX5_way 52 = .ok (.istore 4, 2) := by decide +kernel
theorem dX5_way_54 : decode cX5_way 54 = .ok (.aload_n 0, 1) := by decide +kernel
theorem dX5_way_55 : decode cX5_way 55 = .ok (.getfield 34, 3) := by decide +kernel
theorem dX5_way_58 : decode cX5_way 58 = .ok (.iload 4, 2) := by decide +kernel
theorem dX5_way_60 : decode cX5_way 60 = .ok (.iaload, 1) := by decide +kernel
theorem dX5_way_61 : decode cX5_way 61 = .ok (.ldc 37, 2) := by decide +kernel
theorem dX5_way_63 : decode cX5_way 63 = .ok (.if_icmp .lt 6, 3) := by decide +kernel
theorem dX5_way_66 : decode cX5_way 66 = .ok (.bipush (-9), 2) := by decide +kernel
theorem dX5_way_68 : decode cX5_way 68 = .ok (.ireturn, 1) := by decide +kernel
theorem dX5_way_69 : decode cX5_way 69 = .ok (.iload_n 3, 1) := by decide +kernel
theorem dX5_way_70 : decode cX5_way 70 = .ok (.ifCond .ne 16, 3) := by decide +kernel
theorem dX5_way_73 : decode cX5_way 73 = .ok (.aload_n 0, 1) := by decide +kernel
theorem dX5_way_74 : decode cX5_way 74 = .ok (.getfield 34, 3) := by decide +kernel
theorem dX5_way_77 : decode cX5_way 77 = .ok (.iload 4, 2) := by decide +kernel
theorem dX5_way_79 : decode cX5_way 79 = .ok (.iaload, 1) := by decide +kernel
theorem dX5_way_80 : decode cX5_way 80 = .ok (.bipush 100, 2) := by decide +kernel
theorem dX5_way_82 : decode cX5_way 82 = .ok (.idiv, 1) := by decide +kernel
theorem dX5_way_83 : decode cX5_way 83 = .ok (.goto 34, 3) := by decide +kernel
theorem dX5_way_86 : decode cX5_way 86 = .ok (.iload_n 3, 1) := by decide +kernel
theorem dX5_way_87 : decode cX5_way 87 = .ok (.iconst 1, 1) := by decide +kernel
theorem dX5_way_88 : decode cX5_way 88 = .ok (.if_icmp .ne 16, 3) := by decide +kernel
theorem dX5_way_91 : decode cX5_way 91 = .ok (.aload_n 0, 1) := by decide +kernel
theorem dX5_way_92 : decode cX5_way 92 = .ok (.getfield 34, 3) := by decide +kernel
theorem dX5_way_95 : decode cX5_way 95 = .ok (.iload 4, 2) := by decide +kernel
theorem dX5_way_97 : decode cX5_way 97 = .ok (.iaload, 1) := by decide +kernel
theorem dX5_way_98 : decode cX5_way 98 = .ok (.bipush 100, 2) := by decide +kernel
theorem dX5_way_100 : decode cX5_way 100 = .ok (.irem, 1) := by decide +kernel
theorem dX5_way_101 : decode cX5_way 101 = .ok (.goto 16, 3) := by decide +kernel
theorem dX5_way_104 : decode cX5_way 104 = .ok (.aload_n 0, 1) := by decide +kernel
theorem dX5_way_105 : decode cX5_way 105 = .ok (.getfield 9, 3) := by decide +kernel
theorem dX5_way_108 : decode cX5_way 108 = .ok (.aload_n 0, 1) := by decide +kernel
theorem dX5_way_109 : decode cX5_way 109 = .ok (.getfield 34, 3) := by decide +kernel
theorem dX5_way_112 : decode cX5_way 112 = .ok (.iload 4, 2) := by decide +kernel
theorem dX5_way_114 : decode cX5_way 114 = .ok (.invokestatic 174, 3) := by decide +kernel
theorem dX5_way_117 : decode cX5_way 117 = .ok (.ireturn, 1) := by decide +kernel
theorem dX5_fewestFrom_0 : decode cX5_fewestFrom 0 = .ok (.iconst 1, 1) := by decide +kernel
theorem dX5_fewestFrom_1 : decode cX5_fewestFrom 1 = .ok (.iload_n 1, 1) := by decide +kernel
theorem dX5_fewestFrom_2 : decode cX5_fewestFrom 2 = .ok (.ishl, 1) := by decide +kernel
theorem dX5_fewestFrom_3 : decode cX5_fewestFrom 3 = .ok (.istore_n 3, 1) := by decide +kernel
theorem dX5_fewestFrom_4 : decode cX5_fewestFrom 4 = .ok (.iconst 0, 1) := by decide +kernel
theorem dX5_fewestFrom_5 : decode cX5_fewestFrom 5 = .ok (.istore 4, 2) := by decide +kernel
theorem dX5_fewestFrom_7 : decode cX5_fewestFrom 7 = .ok (.iload 4, 2) := by decide +kernel
theorem dX5_fewestFrom_9 : decode cX5_fewestFrom 9 = .ok (.bipush 7, 2) := by decide +kernel
theorem dX5_fewestFrom_11 : decode cX5_fewestFrom 11 = .ok (.if_icmp .ge 126, 3) := by decide +kernel
theorem dX5_fewestFrom_14 : decode cX5_fewestFrom 14 = .ok (.iload_n 3, 1) := by decide +kernel
theorem dX5_fewestFrom_15 : decode cX5_fewestFrom 15 = .ok (.iload_n 2, 1) := by decide +kernel
theorem dX5_fewestFrom_16 : decode cX5_fewestFrom 16 = .ok (.invokestatic 178, 3) := by decide +kernel
theorem dX5_fewestFrom_19 : decode cX5_fewestFrom 19 = .ok (.ifCond .eq 6, 3) := by decide +kernel
theorem dX5_fewestFrom_22 : decode cX5_fewestFrom 22 = .ok (.iload 4, 2) := by decide +kernel
theorem dX5_fewestFrom_24 : decode cX5_fewestFrom 24 = .ok (.ireturn, 1) := by decide +kernel
theorem dX5_fewestFrom_25 : decode cX5_fewestFrom 25 = .ok (.iload_n 3, 1) := by decide +kernel
theorem dX5_fewestFrom_26 : decode cX5_fewestFrom 26 = .ok (.istore 5, 2) := by decide +kernel
theorem dX5_fewestFrom_28 : decode cX5_fewestFrom 28 = .ok (.iconst 0, 1) := by decide +kernel
theorem dX5_fewestFrom_29 : decode cX5_fewestFrom 29 = .ok (.istore 6, 2) := by decide +kernel
theorem dX5_fewestFrom_31 : decode cX5_fewestFrom 31 = .ok (.iload 6, 2) := by decide +kernel
theorem dX5_fewestFrom_33 : decode cX5_fewestFrom 33 = .ok (.aload_n 0, 1) := by decide +kernel
theorem dX5_fewestFrom_34 : decode cX5_fewestFrom 34 = .ok (.getfield 9, 3) := by decide +kernel
theorem dX5_fewestFrom_37 : decode cX5_fewestFrom 37 = .ok (.iconst 0, 1) := by decide +kernel
theorem dX5_fewestFrom_38 : decode cX5_fewestFrom 38 = .ok (.iaload, 1) := by decide +kernel
theorem dX5_fewestFrom_39 : decode cX5_fewestFrom 39 = .ok (.if_icmp .ge 89, 3) := by decide +kernel
theorem dX5_fewestFrom_42 : decode cX5_fewestFrom 42 = .ok (.iload 5, 2) := by decide +kernel
theorem dX5_fewestFrom_44 : decode cX5_fewestFrom 44 = .ok (.iload_n 3, 1) := by decide +kernel
theorem dX5_fewestFrom_45 : decode cX5_fewestFrom 45 = .ok (.aload_n 0, 1) := by decide +kernel
theorem dX5_fewestFrom_46 : decode cX5_fewestFrom 46 = .ok (.getfield 9, 3) := by decide +kernel
theorem dX5_fewestFrom_49 : decode cX5_fewestFrom 49 = .ok (.iload 6, 2) := by decide +kernel
theorem dX5_fewestFrom_51 : decode cX5_fewestFrom 51 = .ok (.iconst 2, 1) := by decide +kernel
theorem dX5_fewestFrom_52 : decode cX5_fewestFrom 52 = .ok (.invokestatic 48, 3) := by decide +kernel
theorem dX5_fewestFrom_55 : decode cX5_fewestFrom 55 = .ok (.iaload, 1) := by decide +kernel
theorem dX5_fewestFrom_56 : decode cX5_fewestFrom 56 = .ok (.invokestatic 178, 3) := by decide +kernel
theorem dX5_fewestFrom_59 : decode cX5_fewestFrom 59 = .ok (.ifCond .eq 19, 3) := by decide +kernel
theorem dX5_fewestFrom_62 : decode cX5_fewestFrom 62 = .ok (.iconst 1, 1) := by decide +kernel
theorem dX5_fewestFrom_63 : decode cX5_fewestFrom 63 = .ok (.aload_n 0, 1) := by decide +kernel
theorem dX5_fewestFrom_64 : decode cX5_fewestFrom 64 = .ok (.getfield 9, 3) := by decide +kernel
theorem dX5_fewestFrom_67 : decode cX5_fewestFrom 67 = .ok (.iload 6, 2) := by decide +kernel
theorem dX5_fewestFrom_69 : decode cX5_fewestFrom 69 = .ok (.iconst 3, 1) := by decide +kernel
theorem dX5_fewestFrom_70 : decode cX5_fewestFrom 70 = .ok (.invokestatic 48, 3) := by decide +kernel
theorem dX5_fewestFrom_73 : decode cX5_fewestFrom 73 = .ok (.iaload, 1) := by decide +kernel
theorem dX5_fewestFrom_74 : decode cX5_fewestFrom 74 = .ok (.ishl, 1) := by decide +kernel
theorem dX5_fewestFrom_75 : decode cX5_fewestFrom 75 = .ok (.goto 4, 3) := by decide +kernel
theorem dX5_fewestFrom_78 : decode cX5_fewestFrom 78 = .ok (.iconst 0, 1) := by decide +kernel
theorem dX5_fewestFrom_79 : decode cX5_fewestFrom 79 = .ok (.ior, 1) := by decide +kernel
theorem dX5_fewestFrom_80 : decode cX5_fewestFrom 80 = .ok (.istore 5, 2) := by decide +kernel
theorem dX5_fewestFrom_82 : decode cX5_fewestFrom 82 = .ok (.iload 5, 2) := by decide +kernel
theorem dX5_fewestFrom_84 : decode cX5_fewestFrom 84 = .ok (.iload_n 3, 1) := by decide +kernel
theorem dX5_fewestFrom_85 : decode cX5_fewestFrom 85 = .ok (.aload_n 0, 1) := by decide +kernel
theorem dX5_fewestFrom_86 : decode cX5_fewestFrom 86 = .ok (.getfield 9, 3) := by decide +kernel
theorem dX5_fewestFrom_89 : decode cX5_fewestFrom 89 = .ok (.iload 6, 2) := by decide +kernel
theorem dX5_fewestFrom_91 : decode cX5_fewestFrom 91 = .ok (.iconst 3, 1) := by decide +kernel
theorem dX5_fewestFrom_92 : decode cX5_fewestFrom 92 = .ok (.invokestatic 48, 3) := by decide +kernel
theorem dX5_fewestFrom_95 : decode cX5_fewestFrom 95 = .ok (.iaload, 1) := by decide +kernel
theorem dX5_fewestFrom_96 : decode cX5_fewestFrom 96 = .ok (.invokestatic 178, 3) := by decide +kernel
theorem dX5_fewestFrom_99 : decode cX5_fewestFrom 99 = .ok (.ifCond .eq 19, 3) := by decide +kernel
theorem dX5_fewestFrom_102 : decode cX5_fewestFrom 102 = .ok (.iconst 1, 1) := by decide +kernel
theorem dX5_fewestFrom_103 : decode cX5_fewestFrom 103 = .ok (.aload_n 0, 1) := by decide +kernel
theorem dX5_fewestFrom_104 : decode cX5_fewestFrom 104 = .ok (.getfield 9, 3) := by decide +kernel
theorem dX5_fewestFrom_107 : decode cX5_fewestFrom 107 = .ok (.iload 6, 2) := by decide +kernel
theorem dX5_fewestFrom_109 : decode cX5_fewestFrom 109 = .ok (.iconst 2, 1) := by decide +kernel
theorem dX5_fewestFrom_110 : decode cX5_fewestFrom 110 = .ok (.invokestatic 48, 3) := by decide +kernel
theorem dX5_fewestFrom_113 : decode cX5_fewestFrom 113 = .ok (.iaload, 1) := by decide +kernel
theorem dX5_fewestFrom_114 : decode cX5_fewestFrom 114 = .ok (.ishl, 1) := by decide +kernel
theorem dX5_fewestFrom_115 : decode cX5_fewestFrom 115 = .ok (.goto 4, 3) := by decide +kernel
theorem dX5_fewestFrom_118 : decode cX5_fewestFrom 118 = .ok (.iconst 0, 1) := by decide +kernel
theorem dX5_fewestFrom_119 : decode cX5_fewestFrom 119 = .ok (.ior, 1) := by decide +kernel
theorem dX5_fewestFrom_120 : decode cX5_fewestFrom 120 = .ok (.istore 5, 2) := by decide +kernel
theorem dX5_fewestFrom_122 : decode cX5_fewestFrom 122 = .ok (.iinc 6 1, 3) := by decide +kernel
theorem dX5_fewestFrom_125 : decode cX5_fewestFrom 125 = .ok (.goto (-94), 3) := by decide +kernel
theorem dX5_fewestFrom_128 : decode cX5_fewestFrom 128 = .ok (.iload 5, 2) := by decide +kernel
theorem dX5_fewestFrom_130 : decode cX5_fewestFrom 130 = .ok (.istore_n 3, 1) := by decide +kernel
theorem dX5_fewestFrom_131 : decode cX5_fewestFrom 131 = .ok (.iinc 4 1, 3) := by decide +kernel
theorem dX5_fewestFrom_134 : decode cX5_fewestFrom 134 = .ok (.goto (-127), 3) := by decide +kernel
theorem dX5_fewestFrom_137 : decode cX5_fewestFrom 137 = .ok (.bipush (-9), 2) := by decide +kernel
theorem dX5_fewestFrom_139 : decode cX5_fewestFrom 139 = .ok (.ireturn, 1) := by decide +kernel
theorem dX5_fewest_0 : decode cX5_fewest 0 = .ok (.aload_n 0, 1) := by decide +kernel
theorem dX5_fewest_1 : decode cX5_fewest 1 = .ok (.iload_n 1, 1) := by decide +kernel
theorem dX5_fewest_2 : decode cX5_fewest 2 = .ok (.iload_n 2, 1) := by decide +kernel
theorem dX5_fewest_3 : decode cX5_fewest 3 = .ok (.invokevirtual 168, 3) := by decide +kernel
theorem dX5_fewest_6 : decode cX5_fewest 6 = .ok (.ifCond .eq 11, 3) := by decide +kernel
theorem dX5_fewest_9 : decode cX5_fewest 9 = .ok (.aload_n 0, 1) := by decide +kernel
theorem dX5_fewest_10 : decode cX5_fewest 10 = .ok (.iconst (-1), 1) := by decide +kernel
theorem dX5_fewest_11 : decode cX5_fewest 11 = .ok (.invokevirtual 38, 3) := by decide +kernel
theorem dX5_fewest_14 : decode cX5_fewest 14 = .ok (.goto 18, 3) := by decide +kernel
theorem dX5_fewest_17 : decode cX5_fewest 17 = .ok (.aload_n 0, 1) := by decide +kernel
theorem dX5_fewest_18 : decode cX5_fewest 18 = .ok (.aload_n 0, 1) := by decide +kernel
theorem dX5_fewest_19 : decode cX5_fewest 19 = .ok (.getfield 9, 3) := by decide +kernel
theorem dX5_fewest_22 : decode cX5_fewest 22 = .ok (.iload_n 1, 1) := by decide +kernel
theorem dX5_fewest_23 : decode cX5_fewest 23 = .ok (.iconst 1, 1) := by decide +kernel
theorem dX5_fewest_24 : decode cX5_fewest 24 = .ok (.invokestatic 55, 3) := by decide +kernel
theorem dX5_fewest_27 : decode cX5_fewest 27 = .ok (.iaload, 1) := by decide +kernel
theorem dX5_fewest_28 : decode cX5_fewest 28 = .ok (.iload_n 2, 1) := by decide +kernel
theorem dX5_fewest_29 : decode cX5_fewest 29 = .ok (.invokevirtual 181, 3) := by decide +kernel
theorem dX5_fewest_32 : decode cX5_fewest 32 = .ok (.ireturn, 1) := by decide +kernel
theorem dX5_near_0 : decode cX5_near 0 = .ok (.aload_n 0, 1) := by decide +kernel
theorem dX5_near_1 : decode cX5_near 1 = .ok (.iload_n 1, 1) := by decide +kernel
theorem dX5_near_2 : decode cX5_near 2 = .ok (.invokevirtual 117, 3) := by decide +kernel
theorem dX5_near_5 : decode cX5_near 5 = .ok (.ifCond .ne 9, 3) := by decide +kernel
theorem dX5_near_8 : decode cX5_near 8 = .ok (.aload_n 0, 1) := by decide +kernel
theorem dX5_near_9 : decode cX5_near 9 = .ok (.iconst (-1), 1) := by decide +kernel
theorem dX5_near_10 : decode cX5_near 10 = .ok (.invokevirtual 38, 3) := by decide +kernel
theorem dX5_near_13 : decode cX5_near 13 = .ok (.ireturn, 1) := by decide +kernel
theorem dX5_near_14 : decode cX5_near 14 = .ok (.iconst 0, 1) := by decide +kernel
theorem dX5_near_15 : decode cX5_near 15 = .ok (.istore_n 2, 1) := by decide +kernel
theorem dX5_near_16 : decode cX5_near 16 = .ok (.iconst 0, 1) := by decide +kernel
theorem dX5_near_17 : decode cX5_near 17 = .ok (.istore_n 3, 1) := by decide +kernel
theorem dX5_near_18 : decode cX5_near 18 = .ok (.iload_n 3, 1) := by decide +kernel
theorem dX5_near_19 : decode cX5_near 19 = .ok (.bipush 7, 2) := by decide +kernel
theorem dX5_near_21 : decode cX5_near 21 = .ok (.if_icmp .ge 37, 3) := by decide +kernel
theorem dX5_near_24 : decode cX5_near 24 = .ok (.iload_n 2, 1) := by decide +kernel
theorem dX5_near_25 : decode cX5_near 25 = .ok (.aload_n 0, 1) := by decide +kernel
theorem dX5_near_26 : decode cX5_near 26 = .ok (.aload_n 0, 1) := by decide +kernel
theorem dX5_near_27 : decode cX5_near 27 = .ok (.getfield 9, 3) := by decide +kernel
theorem dX5_near_30 : decode cX5_near 30 = .ok (.iload_n 1, 1) := by decide +kernel
theorem dX5_near_31 : decode cX5_near 31 = .ok (.iconst 1, 1) := by decide +kernel
theorem dX5_near_32 : decode cX5_near 32 = .ok (.invokestatic 55, 3) := by decide +kernel
theorem dX5_near_35 : decode cX5_near 35 = .ok (.iaload, 1) := by decide +kernel
theorem dX5_near_36 : decode cX5_near 36 = .ok (.iload_n 3, 1) := by decide +kernel
theorem dX5_near_37 : decode cX5_near 37 = .ok (.invokevirtual 181, 3) := by decide +kernel
theorem dX5_near_40 : decode cX5_near 40 = .ok (.ifCond .lt 9, 3) := by decide +kernel
theorem dX5_near_43 : decode cX5_near 43 = .ok (.iconst 1, 1) := by decide +kernel
theorem dX5_near_44 : decode cX5_near 44 = .ok (.iload_n 3, 1) := by decide +kernel
theorem dX5_near_45 : decode cX5_near 45 = .ok (.ishl, 1) := by decide +kernel
theorem dX5_near_46 : decode cX5_near 46 = .ok (.goto 4, 3) := by decide +kernel
theorem dX5_near_49 : decode cX5_near 49 = .ok (.iconst 0, 1) := by decide +kernel
theorem dX5_near_50 : decode cX5_near 50 = .ok (.ior, 1) := by decide +kernel
theorem dX5_near_51 : decode cX5_near 51 = .ok (.istore_n 2, 1) := by decide +kernel
theorem dX5_near_52 : decode cX5_near 52 = .ok (.iinc 3 1, 3) := by decide +kernel
theorem dX5_near_55 : decode cX5_near 55 = .ok (.goto (-37), 3) := by decide +kernel
theorem dX5_near_58 : decode cX5_near 58 = .ok (.iload_n 2, 1) := by decide +kernel
theorem dX5_near_59 : decode cX5_near 59 = .ok (.ireturn, 1) := by decide +kernel
theorem dX5_cutOff_0 : decode cX5_cutOff 0 = .ok (.bipush 127, 2) := by decide +kernel
theorem dX5_cutOff_2 : decode cX5_cutOff 2 = .ok (.istore_n 1, 1) := by decide +kernel
theorem dX5_cutOff_3 : decode cX5_cutOff 3 = .ok (.iconst 0, 1) := by decide +kernel
theorem dX5_cutOff_4 : decode cX5_cutOff 4 = .ok (.istore_n 2, 1) := by decide +kernel
theorem dX5_cutOff_5 : decode cX5_cutOff 5 = .ok (.iload_n 2, 1) := by decide +kernel
theorem dX5_cutOff_6 : decode cX5_cutOff 6 = .ok (.aload_n 0, 1) := by decide +kernel
theorem dX5_cutOff_7 : decode cX5_cutOff 7 = .ok (.getfield 9, 3) := by decide +kernel
theorem dX5_cutOff_10 : decode cX5_cutOff 10 = .ok (.iconst 0, 1) := by decide +kernel
theorem dX5_cutOff_11 : decode cX5_cutOff 11 = .ok (.iaload, 1) := by decide +kernel
theorem dX5_cutOff_12 : decode cX5_cutOff 12 = .ok (.if_icmp .ge 41, 3) := by decide +kernel
theorem dX5_cutOff_15 : decode cX5_cutOff 15 = .ok (.iload_n 1, 1) := by decide +kernel
theorem dX5_cutOff_16 : decode cX5_cutOff 16 = .ok (.iconst 1, 1) := by decide +kernel
theorem dX5_cutOff_17 : decode cX5_cutOff 17 = .ok (.aload_n 0, 1) := by decide +kernel
theorem dX5_cutOff_18 : decode cX5_cutOff 18 = .ok (.getfield 9, 3) := by decide +kernel
theorem dX5_cutOff_21 : decode cX5_cutOff 21 = .ok (.iload_n 2, 1) := by decide +kernel
theorem dX5_cutOff_22 : decode cX5_cutOff 22 = .ok (.iconst 2, 1) := by decide +kernel
theorem dX5_cutOff_23 : decode cX5_cutOff 23 = .ok (.invokestatic 48, 3) := by decide +kernel
theorem dX5_cutOff_26 : decode cX5_cutOff 26 = .ok (.iaload, 1) := by decide +kernel
theorem dX5_cutOff_27 : decode cX5_cutOff 27 = .ok (.ishl, 1) := by decide +kernel
theorem dX5_cutOff_28 : decode cX5_cutOff 28 = .ok (.iconst (-1), 1) := by decide +kernel
theorem dX5_cutOff_29 : decode cX5_cutOff 29 = .ok (.ixor, 1) := by decide +kernel
theorem dX5_cutOff_30 : decode cX5_cutOff 30 = .ok (.iconst 1, 1) := by decide +kernel
theorem dX5_cutOff_31 : decode cX5_cutOff 31 = .ok (.aload_n 0, 1) := by decide +kernel
theorem dX5_cutOff_32 : decode cX5_cutOff 32 = .ok (.getfield 9, 3) := by decide +kernel
theorem dX5_cutOff_35 : decode cX5_cutOff 35 = .ok (.iload_n 2, 1) := by decide +kernel
theorem dX5_cutOff_36 : decode cX5_cutOff 36 = .ok (.iconst 3, 1) := by decide +kernel
theorem dX5_cutOff_37 : decode cX5_cutOff 37 = .ok (.invokestatic 48, 3) := by decide +kernel
theorem dX5_cutOff_40 : decode cX5_cutOff 40 = .ok (.iaload, 1) := by decide +kernel
theorem dX5_cutOff_41 : decode cX5_cutOff 41 = .ok (.ishl, 1) := by decide +kernel
theorem dX5_cutOff_42 : decode cX5_cutOff 42 = .ok (.iconst (-1), 1) := by decide +kernel
theorem dX5_cutOff_43 : decode cX5_cutOff 43 = .ok (.ixor, 1) := by decide +kernel
theorem dX5_cutOff_44 : decode cX5_cutOff 44 = .ok (.iand, 1) := by decide +kernel
theorem dX5_cutOff_45 : decode cX5_cutOff 45 = .ok (.iand, 1) := by decide +kernel
theorem dX5_cutOff_46 : decode cX5_cutOff 46 = .ok (.istore_n 1, 1) := by decide +kernel
theorem dX5_cutOff_47 : decode cX5_cutOff 47 = .ok (.iinc 2 1, 3) := by decide +kernel
theorem dX5_cutOff_50 : decode cX5_cutOff 50 = .ok (.goto (-45), 3) := by decide +kernel
theorem dX5_cutOff_53 : decode cX5_cutOff 53 = .ok (.iload_n 1, 1) := by decide +kernel
theorem dX5_cutOff_54 : decode cX5_cutOff 54 = .ok (.ireturn, 1) := by decide +kernel
theorem dX5_goes_0 : decode cX5_goes 0 = .ok (.aload_n 0, 1) := by decide +kernel
theorem dX5_goes_1 : decode cX5_goes 1 = .ok (.iload_n 1, 1) := by decide +kernel
theorem dX5_goes_2 : decode cX5_goes 2 = .ok (.iload_n 2, 1) := by decide +kernel
theorem dX5_goes_3 : decode cX5_goes 3 = .ok (.invokevirtual 168, 3) := by decide +kernel
theorem dX5_goes_6 : decode cX5_goes 6 = .ok (.ifCond .eq 9, 3) := by decide +kernel
theorem dX5_goes_9 : decode cX5_goes 9 = .ok (.aload_n 0, 1) := by decide +kernel
theorem dX5_goes_10 : decode cX5_goes 10 = .ok (.iconst (-1), 1) := by decide +kernel
theorem dX5_goes_11 : decode cX5_goes 11 = .ok (.invokevirtual 38, 3) := by decide +kernel
theorem dX5_goes_14 : decode cX5_goes 14 = .ok (.ireturn, 1) := by decide +kernel
theorem dX5_goes_15 : decode cX5_goes 15 = .ok (.aload_n 0, 1) := by decide +kernel
theorem dX5_goes_16 : decode cX5_goes 16 = .ok (.aload_n 0, 1) := by decide +kernel
theorem dX5_goes_17 : decode cX5_goes 17 = .ok (.getfield 9, 3) := by decide +kernel
theorem dX5_goes_20 : decode cX5_goes 20 = .ok (.iload_n 2, 1) := by decide +kernel
theorem dX5_goes_21 : decode cX5_goes 21 = .ok (.bipush (-9), 2) := by decide +kernel
theorem dX5_goes_23 : decode cX5_goes 23 = .ok (.invokevirtual 171, 3) := by decide +kernel
theorem dX5_goes_26 : decode cX5_goes 26 = .ok (.aload_n 0, 1) := by decide +kernel
theorem dX5_goes_27 : decode cX5_goes 27 = .ok (.getfield 9, 3) := by decide +kernel
theorem dX5_goes_30 : decode cX5_goes 30 = .ok (.iload_n 1, 1) := by decide +kernel
theorem dX5_goes_31 : decode cX5_goes 31 = .ok (.iconst 1, 1) := by decide +kernel
theorem dX5_goes_32 : decode cX5_goes 32 = .ok (.invokestatic 55, 3) := by decide +kernel
theorem dX5_goes_35 : decode cX5_goes 35 = .ok (.iaload, 1) := by decide +kernel
theorem dX5_goes_36 : decode cX5_goes 36 = .ok (.istore_n 3, 1) := by decide +kernel
theorem dX5_goes_37 : decode cX5_goes 37 = .ok (.aload_n 0, 1) := by decide +kernel
theorem dX5_goes_38 : decode cX5_goes 38 = .ok (.getfield 34, 3) := by decide +kernel
theorem dX5_goes_41 : decode cX5_goes 41 = .ok (.iload_n 3, 1) := by decide +kernel
theorem dX5_goes_42 : decode cX5_goes 42 = .ok (.iaload, 1) := by decide +kernel
theorem dX5_goes_43 : decode cX5_goes 43 = .ok (.ldc 37, 2) := by decide +kernel
theorem dX5_goes_45 : decode cX5_goes 45 = .ok (.if_icmp .lt 6, 3) := by decide +kernel
theorem dX5_goes_48 : decode cX5_goes 48 = .ok (.bipush (-9), 2) := by decide +kernel
theorem dX5_goes_50 : decode cX5_goes 50 = .ok (.ireturn, 1) := by decide +kernel
theorem dX5_goes_51 : decode cX5_goes 51 = .ok (.aload_n 0, 1) := by decide +kernel
theorem dX5_goes_52 : decode cX5_goes 52 = .ok (.getfield 9, 3) := by decide +kernel
theorem dX5_goes_55 : decode cX5_goes 55 = .ok (.aload_n 0, 1) := by decide +kernel
theorem dX5_goes_56 : decode cX5_goes 56 = .ok (.getfield 13, 3) := by decide +kernel
theorem dX5_goes_59 : decode cX5_goes 59 = .ok (.invokestatic 137, 3) := by decide +kernel
theorem dX5_goes_62 : decode cX5_goes 62 = .ok (.iload_n 3, 1) := by decide +kernel
theorem dX5_goes_63 : decode cX5_goes 63 = .ok (.iload_n 2, 1) := by decide +kernel
theorem dX5_goes_64 : decode cX5_goes 64 = .ok (.if_icmp .eq 41, 3) := by decide +kernel
theorem dX5_goes_67 : decode cX5_goes 67 = .ok (.aload_n 0, 1) := by decide +kernel
theorem dX5_goes_68 : decode cX5_goes 68 = .ok (.getfield 9, 3) := by decide +kernel
theorem dX5_goes_71 : decode cX5_goes 71 = .ok (.aload_n 0, 1) := by decide +kernel
theorem dX5_goes_72 : decode cX5_goes 72 = .ok (.getfield 34, 3) := by decide +kernel
theorem dX5_goes_75 : decode cX5_goes 75 = .ok (.iload_n 3, 1) := by decide +kernel
theorem dX5_goes_76 : decode cX5_goes 76 = .ok (.invokestatic 174, 3) := by decide +kernel
theorem dX5_goes_79 : decode cX5_goes 79 = .ok (.istore 4, 2) := by decide +kernel
theorem dX5_goes_81 : decode cX5_goes 81 = .ok (.aload_n 0, 1) := by decide +kernel
theorem dX5_goes_82 : decode cX5_goes 82 = .ok (.getfield 9, 3) := by decide +kernel
theorem dX5_goes_85 : decode cX5_goes 85 = .ok (.iload 4, 2) := by decide +kernel
theorem dX5_goes_87 : decode cX5_goes 87 = .ok (.iload_n 3, 1) := by decide +kernel
theorem dX5_goes_88 : decode cX5_goes 88 = .ok (.invokestatic 73, 3) := by decide +kernel
theorem dX5_goes_91 : decode cX5_goes 91 = .ok (.istore_n 3, 1) := by decide +kernel
theorem dX5_goes_92 : decode cX5_goes 92 = .ok (.aload_n 0, 1) := by decide +kernel
theorem dX5_goes_93 : decode cX5_goes 93 = .ok (.getfield 13, 3) := by decide +kernel
theorem dX5_goes_96 : decode cX5_goes 96 = .ok (.iload_n 1, 1) := by decide +kernel
theorem dX5_goes_97 : decode cX5_goes 97 = .ok (.iload 4, 2) := by decide +kernel
theorem dX5_goes_99 : decode cX5_goes 99 = .ok (.invokestatic 127, 3) := by decide +kernel
theorem dX5_goes_102 : decode cX5_goes 102 = .ok (.goto (-40), 3) := by decide +kernel
theorem dX5_goes_105 : decode cX5_goes 105 = .ok (.aload_n 0, 1) := by decide +kernel
theorem dX5_goes_106 : decode cX5_goes 106 = .ok (.getfield 13, 3) := by decide +kernel
theorem dX5_goes_109 : decode cX5_goes 109 = .ok (.iload_n 1, 1) := by decide +kernel
theorem dX5_goes_110 : decode cX5_goes 110 = .ok (.iconst 2, 1) := by decide +kernel
theorem dX5_goes_111 : decode cX5_goes 111 = .ok (.invokestatic 55, 3) := by decide +kernel
theorem dX5_goes_114 : decode cX5_goes 114 = .ok (.iaload, 1) := by decide +kernel
theorem dX5_goes_115 : decode cX5_goes 115 = .ok (.ireturn, 1) := by decide +kernel
theorem dX5_givenBy_0 : decode cX5_givenBy 0 = .ok (.aload_n 0, 1) := by decide +kernel
theorem dX5_givenBy_1 : decode cX5_givenBy 1 = .ok (.aload_n 1, 1) := by decide +kernel
theorem dX5_givenBy_2 : decode cX5_givenBy 2 = .ok (.iload_n 3, 1) := by decide +kernel
theorem dX5_givenBy_3 : decode cX5_givenBy 3 = .ok (.iload 4, 2) := by decide +kernel
theorem dX5_givenBy_5 : decode cX5_givenBy 5 = .ok (.invokevirtual 171, 3) := by decide +kernel
theorem dX5_givenBy_8 : decode cX5_givenBy 8 = .ok (.aload_n 0, 1) := by decide +kernel
theorem dX5_givenBy_9 : decode cX5_givenBy 9 = .ok (.getfield 34, 3) := by decide +kernel
theorem dX5_givenBy_12 : decode cX5_givenBy 12 = .ok (.iload_n 2, 1) := by decide +kernel
theorem dX5_givenBy_13 : decode cX5_givenBy 13 = .ok (.iaload, 1) := by decide +kernel
theorem dX5_givenBy_14 : decode cX5_givenBy 14 = .ok (.ldc 37, 2) := by decide +kernel
theorem dX5_givenBy_16 : decode cX5_givenBy 16 = .ok (.if_icmp .lt 8, 3) := by decide +kernel
theorem dX5_givenBy_19 : decode cX5_givenBy 19 = .ok (.bipush (-9), 2) := by decide +kernel
theorem dX5_givenBy_21 : decode cX5_givenBy 21 = .ok (.goto 12, 3) := by decide +kernel
theorem dX5_givenBy_24 : decode cX5_givenBy 24 = .ok (.aload_n 0, 1) := by decide +kernel
theorem dX5_givenBy_25 : decode cX5_givenBy 25 = .ok (.getfield 34, 3) := by decide +kernel
theorem dX5_givenBy_28 : decode cX5_givenBy 28 = .ok (.iload_n 2, 1) := by decide +kernel
theorem dX5_givenBy_29 : decode cX5_givenBy 29 = .ok (.iaload, 1) := by decide +kernel
theorem dX5_givenBy_30 : decode cX5_givenBy 30 = .ok (.bipush 100, 2) := by decide +kernel
theorem dX5_givenBy_32 : decode cX5_givenBy 32 = .ok (.idiv, 1) := by decide +kernel
theorem dX5_givenBy_33 : decode cX5_givenBy 33 = .ok (.ireturn, 1) := by decide +kernel
theorem dX5_air_0 : decode cX5_air 0 = .ok (.aload_n 0, 1) := by decide +kernel
theorem dX5_air_1 : decode cX5_air 1 = .ok (.iload_n 1, 1) := by decide +kernel
theorem dX5_air_2 : decode cX5_air 2 = .ok (.iload_n 2, 1) := by decide +kernel
theorem dX5_air_3 : decode cX5_air 3 = .ok (.invokevirtual 168, 3) := by decide +kernel
theorem dX5_air_6 : decode cX5_air 6 = .ok (.ifCond .eq 9, 3) := by decide +kernel
theorem dX5_air_9 : decode cX5_air 9 = .ok (.aload_n 0, 1) := by decide +kernel
theorem dX5_air_10 : decode cX5_air 10 = .ok (.iconst (-1), 1) := by decide +kernel
theorem dX5_air_11 : decode cX5_air 11 = .ok (.invokevirtual 38, 3) := by decide +kernel
theorem dX5_air_14 : decode cX5_air 14 = .ok (.ireturn, 1) := by decide +kernel
theorem dX5_air_15 : decode cX5_air 15 = .ok (.aload_n 0, 1) := by decide +kernel
theorem dX5_air_16 : decode cX5_air 16 = .ok (.getfield 9, 3) := by decide +kernel
theorem dX5_air_19 : decode cX5_air 19 = .ok (.iload_n 1, 1) := by decide +kernel
theorem dX5_air_20 : decode cX5_air 20 = .ok (.iconst 1, 1) := by decide +kernel
theorem dX5_air_21 : decode cX5_air 21 = .ok (.invokestatic 55, 3) := by decide +kernel
theorem dX5_air_24 : decode cX5_air 24 = .ok (.iaload, 1) := by decide +kernel
theorem dX5_air_25 : decode cX5_air 25 = .ok (.istore_n 3, 1) := by decide +kernel
theorem dX5_air_26 : decode cX5_air 26 = .ok (.aload_n 0, 1) := by decide +kernel
theorem dX5_air_27 : decode cX5_air 27 = .ok (.aload_n 0, 1) := by decide +kernel
theorem dX5_air_28 : decode cX5_air 28 = .ok (.getfield 9, 3) := by decide +kernel
theorem dX5_air_31 : decode cX5_air 31 = .ok (.iload_n 3, 1) := by decide +kernel
theorem dX5_air_32 : decode cX5_air 32 = .ok (.iload_n 2, 1) := by decide +kernel
theorem dX5_air_33 : decode cX5_air 33 = .ok (.bipush (-9), 2) := by decide +kernel
theorem dX5_air_35 : decode cX5_air 35 = .ok (.invokevirtual 184, 3) := by decide +kernel
theorem dX5_air_38 : decode cX5_air 38 = .ok (.istore 4, 2) := by decide +kernel
theorem dX5_air_40 : decode cX5_air 40 = .ok (.bipush (-9), 2) := by decide +kernel
theorem dX5_air_42 : decode cX5_air 42 = .ok (.istore 5, 2) := by decide +kernel
theorem dX5_air_44 : decode cX5_air 44 = .ok (.iconst 0, 1) := by decide +kernel
theorem dX5_air_45 : decode cX5_air 45 = .ok (.istore 6, 2) := by decide +kernel
theorem dX5_air_47 : decode cX5_air 47 = .ok (.iload 6, 2) := by decide +kernel
theorem dX5_air_49 : decode cX5_air 49 = .ok (.aload_n 0, 1) := by decide +kernel
theorem dX5_air_50 : decode cX5_air 50 = .ok (.getfield 9, 3) := by decide +kernel
theorem dX5_air_53 : decode cX5_air 53 = .ok (.iconst 0, 1) := by decide +kernel
theorem dX5_air_54 : decode cX5_air 54 = .ok (.iaload, 1) := by decide +kernel
theorem dX5_air_55 : decode cX5_air 55 = .ok (.if_icmp .ge 69, 3) := by decide +kernel
theorem dX5_air_58 : decode cX5_air 58 = .ok (.iload 4, 2) := by decide +kernel
theorem dX5_air_60 : decode cX5_air 60 = .ok (.ifCond .lt 64, 3) := by decide +kernel
theorem dX5_air_63 : decode cX5_air 63 = .ok (.aload_n 0, 1) := by decide +kernel
theorem dX5_air_64 : decode cX5_air 64 = .ok (.getfield 9, 3) := by decide +kernel
theorem dX5_air_67 : decode cX5_air 67 = .ok (.aload_n 0, 1) := by decide +kernel
theorem dX5_air_68 : decode cX5_air 68 = .ok (.getfield 13, 3) := by decide +kernel
theorem dX5_air_71 : decode cX5_air 71 = .ok (.invokestatic 137, 3) := by decide +kernel
theorem dX5_air_74 : decode cX5_air 74 = .ok (.aload_n 0, 1) := by decide +kernel
theorem dX5_air_75 : decode cX5_air 75 = .ok (.getfield 13, 3) := by decide +kernel
theorem dX5_air_78 : decode cX5_air 78 = .ok (.iload 6, 2) := by decide +kernel
theorem dX5_air_80 : decode cX5_air 80 = .ok (.iconst 0, 1) := by decide +kernel
theorem dX5_air_81 : decode cX5_air 81 = .ok (.bipush 9, 2) := by decide +kernel
theorem dX5_air_83 : decode cX5_air 83 = .ok (.invokestatic 69, 3) := by decide +kernel
theorem dX5_air_86 : decode cX5_air 86 = .ok (.aload_n 0, 1) := by decide +kernel
theorem dX5_air_87 : decode cX5_air 87 = .ok (.aload_n 0, 1) := by decide +kernel
theorem dX5_air_88 : decode cX5_air 88 = .ok (.getfield 13, 3) := by decide +kernel
theorem dX5_air_91 : decode cX5_air 91 = .ok (.iload_n 3, 1) := by decide +kernel
theorem dX5_air_92 : decode cX5_air 92 = .ok (.iload_n 2, 1) := by decide +kernel
theorem dX5_air_93 : decode cX5_air 93 = .ok (.bipush (-9), 2) := by decide +kernel
theorem dX5_air_95 : decode cX5_air 95 = .ok (.invokevirtual 184, 3) := by decide +kernel
theorem dX5_air_98 : decode cX5_air 98 = .ok (.istore 7, 2) := by decide +kernel
theorem dX5_air_100 : decode cX5_air 100 = .ok (.iload 7, 2) := by decide +kernel
theorem dX5_air_102 : decode cX5_air 102 = .ok (.iload 4, 2) := by decide +kernel
theorem dX5_air_104 : decode cX5_air 104 = .ok (.if_icmp .lt 6, 3) := by decide +kernel
theorem dX5_air_107 : decode cX5_air 107 = .ok (.goto 11, 3) := by decide +kernel
theorem dX5_air_110 : decode cX5_air 110 = .ok (.iload 6, 2) := by decide +kernel
theorem dX5_air_112 : decode cX5_air 112 = .ok (.istore 5, 2) := by decide +kernel
theorem dX5_air_114 : decode cX5_air 114 = .ok (.iload 7, 2) := by decide +kernel
theorem dX5_air_116 : decode cX5_air 116 = .ok (.istore 4, 2) := by decide +kernel
theorem dX5_air_118 : decode cX5_air 118 = .ok (.iinc 6 1, 3) := by decide +kernel
theorem dX5_air_121 : decode cX5_air 121 = .ok (.goto (-74), 3) := by decide +kernel
theorem dX5_air_124 : decode cX5_air 124 = .ok (.iload 5, 2) := by decide +kernel
theorem dX5_air_126 : decode cX5_air 126 = .ok (.ireturn, 1) := by decide +kernel
theorem dX5_shut_0 : decode cX5_shut 0 = .ok (.aload_n 0, 1) := by decide +kernel
theorem dX5_shut_1 : decode cX5_shut 1 = .ok (.iload_n 1, 1) := by decide +kernel
theorem dX5_shut_2 : decode cX5_shut 2 = .ok (.iload_n 2, 1) := by decide +kernel
theorem dX5_shut_3 : decode cX5_shut 3 = .ok (.invokevirtual 168, 3) := by decide +kernel
theorem dX5_shut_6 : decode cX5_shut 6 = .ok (.ifCond .eq 9, 3) := by decide +kernel
theorem dX5_shut_9 : decode cX5_shut 9 = .ok (.aload_n 0, 1) := by decide +kernel
theorem dX5_shut_10 : decode cX5_shut 10 = .ok (.iconst (-1), 1) := by decide +kernel
theorem dX5_shut_11 : decode cX5_shut 11 = .ok (.invokevirtual 38, 3) := by decide +kernel
theorem dX5_shut_14 : decode cX5_shut 14 = .ok (.ireturn, 1) := by decide +kernel
theorem dX5_shut_15 : decode cX5_shut 15 = .ok (.aload_n 0, 1) := by decide +kernel
theorem dX5_shut_16 : decode cX5_shut 16 = .ok (.getfield 9, 3) := by decide +kernel
theorem dX5_shut_19 : decode cX5_shut 19 = .ok (.iload_n 1, 1) := by decide +kernel
theorem dX5_shut_20 : decode cX5_shut 20 = .ok (.iconst 1, 1) := by decide +kernel
theorem dX5_shut_21 : decode cX5_shut 21 = .ok (.invokestatic 55, 3) := by decide +kernel
theorem dX5_shut_24 : decode cX5_shut 24 = .ok (.iaload, 1) := by decide +kernel
theorem dX5_shut_25 : decode cX5_shut 25 = .ok (.istore_n 3, 1) := by decide +kernel
theorem dX5_shut_26 : decode cX5_shut 26 = .ok (.aload_n 0, 1) := by decide +kernel
theorem dX5_shut_27 : decode cX5_shut 27 = .ok (.aload_n 0, 1) := by decide +kernel
theorem dX5_shut_28 : decode cX5_shut 28 = .ok (.getfield 9, 3) := by decide +kernel
theorem dX5_shut_31 : decode cX5_shut 31 = .ok (.iload_n 3, 1) := by decide +kernel
theorem dX5_shut_32 : decode cX5_shut 32 = .ok (.iload_n 2, 1) := by decide +kernel
theorem dX5_shut_33 : decode cX5_shut 33 = .ok (.bipush (-9), 2) := by decide +kernel
theorem dX5_shut_35 : decode cX5_shut 35 = .ok (.invokevirtual 184, 3) := by decide +kernel
theorem dX5_shut_38 : decode cX5_shut 38 = .ok (.ifCond .ge 6, 3) := by decide +kernel
theorem dX5_shut_41 : decode cX5_shut 41 = .ok (.bipush (-9), 2) := by decide +kernel
theorem dX5_shut_43 : decode cX5_shut 43 = .ok (.ireturn, 1) := by decide +kernel
theorem dX5_shut_44 : decode cX5_shut 44 = .ok (.iconst 0, 1) := by decide +kernel
theorem dX5_shut_45 : decode cX5_shut 45 = .ok (.istore 4, 2) := by decide +kernel
theorem dX5_shut_47 : decode cX5_shut 47 = .ok (.iload 4, 2) := by decide +kernel
theorem dX5_shut_49 : decode cX5_shut 49 = .ok (.aload_n 0, 1) := by decide +kernel
theorem dX5_shut_50 : decode cX5_shut 50 = .ok (.getfield 9, 3) := by decide +kernel
theorem dX5_shut_53 : decode cX5_shut 53 = .ok (.iconst 0, 1) := by decide +kernel
theorem dX5_shut_54 : decode cX5_shut 54 = .ok (.iaload, 1) := by decide +kernel
theorem dX5_shut_55 : decode cX5_shut 55 = .ok (.if_icmp .ge 27, 3) := by decide +kernel
theorem dX5_shut_58 : decode cX5_shut 58 = .ok (.aload_n 0, 1) := by decide +kernel
theorem dX5_shut_59 : decode cX5_shut 59 = .ok (.aload_n 0, 1) := by decide +kernel
theorem dX5_shut_60 : decode cX5_shut 60 = .ok (.getfield 9, 3) := by decide +kernel
theorem dX5_shut_63 : decode cX5_shut 63 = .ok (.iload_n 3, 1) := by decide +kernel
theorem dX5_shut_64 : decode cX5_shut 64 = .ok (.iload_n 2, 1) := by decide +kernel
theorem dX5_shut_65 : decode cX5_shut 65 = .ok (.iload 4, 2) := by decide +kernel
theorem dX5_shut_67 : decode cX5_shut 67 = .ok (.invokevirtual 184, 3) := by decide +kernel
theorem dX5_shut_70 : decode cX5_shut 70 = .ok (.ifCond .ge 6, 3) := by decide +kernel
theorem dX5_shut_73 : decode cX5_shut 73 = .ok (.iload 4, 2) := by decide +kernel
theorem dX5_shut_75 : decode cX5_shut 75 = .ok (.ireturn, 1) := by decide +kernel
theorem dX5_shut_76 : decode cX5_shut 76 = .ok (.iinc 4 1, 3) := by decide +kernel
theorem dX5_shut_79 : decode cX5_shut 79 = .ok (.goto (-32), 3) := by decide +kernel
theorem dX5_shut_82 : decode cX5_shut 82 = .ok (.bipush (-9), 2) := by decide +kernel
theorem dX5_shut_84 : decode cX5_shut 84 = .ok (.ireturn, 1) := by decide +kernel
theorem dX5_pause_0 : decode cX5_pause 0 = .ok (.aload_n 0, 1) := by decide +kernel
theorem dX5_pause_1 : decode cX5_pause 1 = .ok (.iload_n 1, 1) := by decide +kernel
theorem dX5_pause_2 : decode cX5_pause 2 = .ok (.iload_n 2, 1) := by decide +kernel
theorem dX5_pause_3 : decode cX5_pause 3 = .ok (.invokevirtual 168, 3) := by decide +kernel
theorem dX5_pause_6 : decode cX5_pause 6 = .ok (.ifCond .eq 7, 3) := by decide +kernel
theorem dX5_pause_9 : decode cX5_pause 9 = .ok (.iconst (-1), 1) := by decide +kernel
theorem dX5_pause_10 : decode cX5_pause 10 = .ok (.goto 10, 3) := by decide +kernel
theorem dX5_pause_13 : decode cX5_pause 13 = .ok (.iload_n 3, 1) := by decide +kernel
theorem dX5_pause_14 : decode cX5_pause 14 = .ok (.iconst 0, 1) := by decide +kernel
theorem dX5_pause_15 : decode cX5_pause 15 = .ok (.bipush 99, 2) := by decide +kernel
theorem dX5_pause_17 : decode cX5_pause 17 = .ok (.invokestatic 144, 3) := by decide +kernel
theorem dX5_pause_20 : decode cX5_pause 20 = .ok (.istore 4, 2) := by decide +kernel
theorem dX5_pause_22 : decode cX5_pause 22 = .ok (.iload 4, 2) := by decide +kernel
theorem dX5_pause_24 : decode cX5_pause 24 = .ok (.ifCond .eq 10, 3) := by decide +kernel
theorem dX5_pause_27 : decode cX5_pause 27 = .ok (.aload_n 0, 1) := by decide +kernel
theorem dX5_pause_28 : decode cX5_pause 28 = .ok (.iload 4, 2) := by decide +kernel
theorem dX5_pause_30 : decode cX5_pause 30 = .ok (.invokevirtual 38, 3) := by decide +kernel
theorem dX5_pause_33 : decode cX5_pause 33 = .ok (.ireturn, 1) := by decide +kernel
theorem dX5_pause_34 : decode cX5_pause 34 = .ok (.aload_n 0, 1) := by decide +kernel
theorem dX5_pause_35 : decode cX5_pause 35 = .ok (.getfield 9, 3) := by decide +kernel
theorem dX5_pause_38 : decode cX5_pause 38 = .ok (.aload_n 0, 1) := by decide +kernel
theorem dX5_pause_39 : decode cX5_pause 39 = .ok (.getfield 13, 3) := by decide +kernel
theorem dX5_pause_42 : decode cX5_pause 42 = .ok (.invokestatic 137, 3) := by decide +kernel
theorem dX5_pause_45 : decode cX5_pause 45 = .ok (.iconst 0, 1) := by decide +kernel
theorem dX5_pause_46 : decode cX5_pause 46 = .ok (.istore 5, 2) := by decide +kernel
theorem dX5_pause_48 : decode cX5_pause 48 = .ok (.iload 5, 2) := by decide +kernel
theorem dX5_pause_50 : decode cX5_pause 50 = .ok (.bipush 60, 2) := by decide +kernel
theorem dX5_pause_52 : decode cX5_pause 52 = .ok (.if_icmp .gt 53, 3) := by decide +kernel
theorem dX5_pause_55 : decode cX5_pause 55 = .ok (.aload_n 0, 1) := by decide +kernel
theorem dX5_pause_56 : decode cX5_pause 56 = .ok (.aload_n 0, 1) := by decide +kernel
theorem dX5_pause_57 : decode cX5_pause 57 = .ok (.getfield 13, 3) := by decide +kernel
theorem dX5_pause_60 : decode cX5_pause 60 = .ok (.aload_n 0, 1) := by decide +kernel
theorem dX5_pause_61 : decode cX5_pause 61 = .ok (.getfield 9, 3) := by decide +kernel
theorem dX5_pause_64 : decode cX5_pause 64 = .ok (.iload_n 1, 1) := by decide +kernel
theorem dX5_pause_65 : decode cX5_pause 65 = .ok (.iconst 1, 1) := by decide +kernel
theorem dX5_pause_66 : decode cX5_pause 66 = .ok (.invokestatic 55, 3) := by decide +kernel
theorem dX5_pause_69 : decode cX5_pause 69 = .ok (.iaload, 1) := by decide +kernel
theorem dX5_pause_70 : decode cX5_pause 70 = .ok (.iload_n 2, 1) := by decide +kernel
theorem dX5_pause_71 : decode cX5_pause 71 = .ok (.bipush (-9), 2) := by decide +kernel
theorem dX5_pause_73 : decode cX5_pause 73 = .ok (.invokevirtual 184, 3) := by decide +kernel
theorem dX5_pause_76 : decode cX5_pause 76 = .ok (.istore 6, 2) := by decide +kernel
theorem dX5_pause_78 : decode cX5_pause 78 = .ok (.iload 6, 2) := by decide +kernel
theorem dX5_pause_80 : decode cX5_pause 80 = .ok (.ifCond .lt 12, 3) := by decide +kernel
theorem dX5_pause_83 : decode cX5_pause 83 = .ok (.iload 6, 2) := by decide +kernel
theorem dX5_pause_85 : decode cX5_pause 85 = .ok (.iload_n 3, 1) := by decide +kernel
theorem dX5_pause_86 : decode cX5_pause 86 = .ok (.if_icmp .gt 6, 3) := by decide +kernel
theorem dX5_pause_89 : decode cX5_pause 89 = .ok (.iload 5, 2) := by decide +kernel
theorem dX5_pause_91 : decode cX5_pause 91 = .ok (.ireturn, 1) := by decide +kernel
theorem dX5_pause_92 : decode cX5_pause 92 = .ok (.aload_n 0, 1) := by decide +kernel
theorem dX5_pause_93 : decode cX5_pause 93 = .ok (.getfield 13, 3) := by decide +kernel
theorem dX5_pause_96 : decode cX5_pause 96 = .ok (.invokestatic 83, 3) := by decide +kernel
theorem dX5_pause_99 : decode cX5_pause 99 = .ok (.iinc 5 1, 3) := by decide +kernel
theorem dX5_pause_102 : decode cX5_pause 102 = .ok (.goto (-54), 3) := by decide +kernel
theorem dX5_pause_105 : decode cX5_pause 105 = .ok (.bipush (-9), 2) := by decide +kernel
theorem dX5_pause_107 : decode cX5_pause 107 = .ok (.ireturn, 1) := by decide +kernel
theorem dX5_walk_0 : decode cX5_walk 0 = .ok (.aload_n 0, 1) := by decide +kernel
theorem dX5_walk_1 : decode cX5_walk 1 = .ok (.iload_n 1, 1) := by decide +kernel
theorem dX5_walk_2 : decode cX5_walk 2 = .ok (.invokevirtual 117, 3) := by decide +kernel
theorem dX5_walk_5 : decode cX5_walk 5 = .ok (.ifCond .ne 9, 3) := by decide +kernel
theorem dX5_walk_8 : decode cX5_walk 8 = .ok (.aload_n 0, 1) := by decide +kernel
theorem dX5_walk_9 : decode cX5_walk 9 = .ok (.iconst (-1), 1) := by decide +kernel
theorem dX5_walk_10 : decode cX5_walk 10 = .ok (.invokevirtual 38, 3) := by decide +kernel
theorem dX5_walk_13 : decode cX5_walk 13 = .ok (.ireturn, 1) := by decide +kernel
theorem dX5_walk_14 : decode cX5_walk 14 = .ok (.iload_n 2, 1) := by decide +kernel
theorem dX5_walk_15 : decode cX5_walk 15 = .ok (.iconst 0, 1) := by decide +kernel
theorem dX5_walk_16 : decode cX5_walk 16 = .ok (.iconst 1, 1) := by decide +kernel
theorem dX5_walk_17 : decode cX5_walk 17 = .ok (.invokestatic 44, 3) := by decide +kernel
theorem dX5_walk_20 : decode cX5_walk 20 = .ok (.ifCond .ne 10, 3) := by decide +kernel
theorem dX5_walk_23 : decode cX5_walk 23 = .ok (.aload_n 0, 1) := by decide +kernel
theorem dX5_walk_24 : decode cX5_walk 24 = .ok (.bipush (-2), 2) := by decide +kernel
theorem dX5_walk_26 : decode cX5_walk 26 = .ok (.invokevirtual 38, 3) := by decide +kernel
theorem dX5_walk_29 : decode cX5_walk 29 = .ok (.ireturn, 1) := by decide +kernel
theorem dX5_walk_30 : decode cX5_walk 30 = .ok (.aload_n 0, 1) := by decide +kernel
theorem dX5_walk_31 : decode cX5_walk 31 = .ok (.getfield 9, 3) := by decide +kernel
theorem dX5_walk_34 : decode cX5_walk 34 = .ok (.aload_n 0, 1) := by decide +kernel
theorem dX5_walk_35 : decode cX5_walk 35 = .ok (.getfield 13, 3) := by decide +kernel
theorem dX5_walk_38 : decode cX5_walk 38 = .ok (.invokestatic 137, 3) := by decide +kernel
theorem dX5_walk_41 : decode cX5_walk 41 = .ok (.bipush (-9), 2) := by decide +kernel
theorem dX5_walk_43 : decode cX5_walk 43 = .ok (.istore_n 3, 1) := by decide +kernel
theorem dX5_walk_44 : decode cX5_walk 44 = .ok (.iconst 0, 1) := by decide +kernel
theorem dX5_walk_45 : decode cX5_walk 45 = .ok (.istore 4, 2) := by decide +kernel
theorem dX5_walk_47 : decode cX5_walk 47 = .ok (.iload 4, 2) := by decide +kernel
theorem dX5_walk_49 : decode cX5_walk 49 = .ok (.aload_n 0, 1) := by decide +kernel
theorem dX5_walk_50 : decode cX5_walk 50 = .ok (.getfield 188, 3) := by decide +kernel
theorem dX5_walk_53 : decode cX5_walk 53 = .ok (.if_icmp .ge 75, 3) := by decide +kernel
theorem dX5_walk_56 : decode cX5_walk 56 = .ok (.iload_n 3, 1) := by decide +kernel
theorem dX5_walk_57 : decode cX5_walk 57 = .ok (.ifCond .ge 71, 3) := by decide +kernel
theorem dX5_walk_60 : decode cX5_walk 60 = .ok (.aload_n 0, 1) := by decide +kernel
theorem dX5_walk_61 : decode cX5_walk 61 = .ok (.aload_n 0, 1) := by decide +kernel
theorem dX5_walk_62 : decode cX5_walk 62 = .ok (.getfield 25, 3) := by decide +kernel
theorem dX5_walk_65 : decode cX5_walk 65 = .ok (.iload 4, 2) := by decide +kernel
theorem dX5_walk_67 : decode cX5_walk 67 = .ok (.iaload, 1) := by decide +kernel
theorem dX5_walk_68 : decode cX5_walk 68 = .ok (.invokevirtual 120, 3) := by decide +kernel
theorem dX5_walk_71 : decode cX5_walk 71 = .ok (.ifCond .eq 48, 3) := by decide +kernel
theorem dX5_walk_74 : decode cX5_walk 74 = .ok (.aload_n 0, 1) := by decide +kernel
theorem dX5_walk_75 : decode cX5_walk 75 = .ok (.getfield 13, 3) := by decide +kernel
theorem dX5_walk_78 : decode cX5_walk 78 = .ok (.aload_n 0, 1) := by decide +kernel
theorem dX5_walk_79 : decode cX5_walk 79 = .ok (.getfield 25, 3) := by decide +kernel
theorem dX5_walk_82 : decode cX5_walk 82 = .ok (.iload 4, 2) := by decide +kernel
theorem dX5_walk_84 : decode cX5_walk 84 = .ok (.iaload, 1) := by decide +kernel
theorem dX5_walk_85 : decode cX5_walk 85 = .ok (.aload_n 0, 1) := by decide +kernel
theorem dX5_walk_86 : decode cX5_walk 86 = .ok (.getfield 13, 3) := by decide +kernel
theorem dX5_walk_89 : decode cX5_walk 89 = .ok (.iload_n 1, 1) := by decide +kernel
theorem dX5_walk_90 : decode cX5_walk 90 = .ok (.iconst 1, 1) := by decide +kernel
theorem dX5_walk_91 : decode cX5_walk 91 = .ok (.invokestatic 55, 3) := by decide +kernel
theorem dX5_walk_94 : decode cX5_walk 94 = .ok (.iaload, 1) := by decide +kernel
theorem dX5_walk_95 : decode cX5_walk 95 = .ok (.invokestatic 123, 3) := by decide +kernel
theorem dX5_walk_98 : decode cX5_walk 98 = .ok (.ifCond .eq 21, 3) := by decide +kernel
theorem dX5_walk_101 : decode cX5_walk 101 = .ok (.aload_n 0, 1) := by decide +kernel
theorem dX5_walk_102 : decode cX5_walk 102 = .ok (.getfield 13, 3) := by decide +kernel
theorem dX5_walk_105 : decode cX5_walk 105 = .ok (.iload_n 1, 1) := by decide +kernel
theorem dX5_walk_106 : decode cX5_walk 106 = .ok (.aload_n 0, 1) := by decide +kernel
theorem dX5_walk_107 : decode cX5_walk 107 = .ok (.getfield 25, 3) := by decide +kernel
theorem dX5_walk_110 : decode cX5_walk 110 = .ok (.iload 4, 2) := by decide +kernel
theorem dX5_walk_112 : decode cX5_walk 112 = .ok (.iaload, 1) := by decide +kernel
theorem dX5_walk_113 : decode cX5_walk 113 = .ok (.invokestatic 127, 3) := by decide +kernel
theorem dX5_walk_116 : decode cX5_walk 116 = .ok (.goto 6, 3) := by decide +kernel
theorem dX5_walk_119 : decode cX5_walk 119 = .ok (.iload 4, 2) := by decide +kernel
theorem dX5_walk_121 : decode cX5_walk 121 = .ok (.istore_n 3, 1) := by decide +kernel
theorem dX5_walk_122 : decode cX5_walk 122 = .ok (.iinc 4 1, 3) := by decide +kernel
theorem dX5_walk_125 : decode cX5_walk 125 = .ok (.goto (-78), 3) := by decide +kernel
theorem dX5_walk_128 : decode cX5_walk 128 = .ok (.iload_n 2, 1) := by decide +kernel
theorem dX5_walk_129 : decode cX5_walk 129 = .ok (.ifCond .ne 7, 3) := by decide +kernel
theorem dX5_walk_132 : decode cX5_walk 132 = .ok (.iload_n 3, 1) := by decide +kernel
theorem dX5_walk_133 : decode cX5_walk 133 = .ok (.goto 13, 3) := by decide +kernel
theorem dX5_walk_136 : decode cX5_walk 136 = .ok (.aload_n 0, 1) := by decide +kernel
theorem dX5_walk_137 : decode cX5_walk 137 = .ok (.getfield 13, 3) := by decide +kernel
theorem dX5_walk_140 : decode cX5_walk 140 = .ok (.iload_n 1, 1) := by decide +kernel
theorem dX5_walk_141 : decode cX5_walk 141 = .ok (.iconst 2, 1) := by decide +kernel
theorem dX5_walk_142 : decode cX5_walk 142 = .ok (.invokestatic 55, 3) := by decide +kernel
theorem dX5_walk_145 : decode cX5_walk 145 = .ok (.iaload, 1) := by decide +kernel
theorem dX5_walk_146 : decode cX5_walk 146 = .ok (.ireturn, 1) := by decide +kernel
theorem dX5_wrongTwo_0 : decode cX5_wrongTwo 0 = .ok (.aload_n 0, 1) := by decide +kernel
theorem dX5_wrongTwo_1 : decode cX5_wrongTwo 1 = .ok (.iload_n 1, 1) := by decide +kernel
theorem dX5_wrongTwo_2 : decode cX5_wrongTwo 2 = .ok (.invokevirtual 117, 3) := by decide +kernel
theorem dX5_wrongTwo_5 : decode cX5_wrongTwo 5 = .ok (.ifCond .eq 24, 3) := by decide +kernel
theorem dX5_wrongTwo_8 : decode cX5_wrongTwo 8 = .ok (.aload_n 0, 1) := by decide +kernel
theorem dX5_wrongTwo_9 : decode cX5_wrongTwo 9 = .ok (.iload_n 2, 1) := by decide +kernel
theorem dX5_wrongTwo_10 : decode cX5_wrongTwo 10 = .ok (.invokevirtual 117, 3) := by decide +kernel
theorem dX5_wrongTwo_13 : decode cX5_wrongTwo 13 = .ok (.ifCond .eq 16, 3) := by decide +kernel
theorem dX5_wrongTwo_16 : decode cX5_wrongTwo 16 = .ok (.iload_n 1, 1) := by decide +kernel
theorem dX5_wrongTwo_17 : decode cX5_wrongTwo 17 = .ok (.iload_n 2, 1) := by decide +kernel
theorem dX5_wrongTwo_18 : decode cX5_wrongTwo 18 = .ok (.if_icmp .eq 11, 3) := by decide +kernel
theorem dX5_wrongTwo_21 : decode cX5_wrongTwo 21 = .ok (.aload_n 0, 1) := by decide +kernel
theorem dX5_wrongTwo_22 : decode cX5_wrongTwo 22 = .ok (.iload_n 3, 1) := by decide +kernel
theorem dX5_wrongTwo_23 : decode cX5_wrongTwo 23 = .ok (.invokevirtual 120, 3) := by decide +kernel
theorem dX5_wrongTwo_26 : decode cX5_wrongTwo 26 = .ok (.ifCond .ne 5, 3) := by decide +kernel
theorem dX5_wrongTwo_29 : decode cX5_wrongTwo 29 = .ok (.iconst (-1), 1) := by decide +kernel
theorem dX5_wrongTwo_30 : decode cX5_wrongTwo 30 = .ok (.ireturn, 1) := by decide +kernel
theorem dX5_wrongTwo_31 : decode cX5_wrongTwo 31 = .ok (.aload_n 0, 1) := by decide +kernel
theorem dX5_wrongTwo_32 : decode cX5_wrongTwo 32 = .ok (.getfield 9, 3) := by decide +kernel
theorem dX5_wrongTwo_35 : decode cX5_wrongTwo 35 = .ok (.iload_n 1, 1) := by decide +kernel
theorem dX5_wrongTwo_36 : decode cX5_wrongTwo 36 = .ok (.iconst 1, 1) := by decide +kernel
theorem dX5_wrongTwo_37 : decode cX5_wrongTwo 37 = .ok (.invokestatic 55, 3) := by decide +kernel
theorem dX5_wrongTwo_40 : decode cX5_wrongTwo 40 = .ok (.iaload, 1) := by decide +kernel
theorem dX5_wrongTwo_41 : decode cX5_wrongTwo 41 = .ok (.aload_n 0, 1) := by decide +kernel
theorem dX5_wrongTwo_42 : decode cX5_wrongTwo 42 = .ok (.getfield 9, 3) := by decide +kernel
theorem dX5_wrongTwo_45 : decode cX5_wrongTwo 45 = .ok (.iload_n 2, 1) := by decide +kernel
theorem dX5_wrongTwo_46 : decode cX5_wrongTwo 46 = .ok (.iconst 1, 1) := by decide +kernel
theorem dX5_wrongTwo_47 : decode cX5_wrongTwo 47 = .ok (.invokestatic 55, 3) := by decide +kernel
theorem dX5_wrongTwo_50 : decode cX5_wrongTwo 50 = .ok (.iaload, 1) := by decide +kernel
theorem dX5_wrongTwo_51 : decode cX5_wrongTwo 51 = .ok (.if_icmp .ne 28, 3) := by decide +kernel
theorem dX5_wrongTwo_54 : decode cX5_wrongTwo 54 = .ok (.aload_n 0, 1) := by decide +kernel
theorem dX5_wrongTwo_55 : decode cX5_wrongTwo 55 = .ok (.getfield 9, 3) := by decide +kernel
theorem dX5_wrongTwo_58 : decode cX5_wrongTwo 58 = .ok (.iload_n 3, 1) := by decide +kernel
theorem dX5_wrongTwo_59 : decode cX5_wrongTwo 59 = .ok (.aload_n 0, 1) := by decide +kernel
theorem dX5_wrongTwo_60 : decode cX5_wrongTwo 60 = .ok (.getfield 9, 3) := by decide +kernel
theorem dX5_wrongTwo_63 : decode cX5_wrongTwo 63 = .ok (.iload_n 1, 1) := by decide +kernel
theorem dX5_wrongTwo_64 : decode cX5_wrongTwo 64 = .ok (.iconst 1, 1) := by decide +kernel
theorem dX5_wrongTwo_65 : decode cX5_wrongTwo 65 = .ok (.invokestatic 55, 3) := by decide +kernel
theorem dX5_wrongTwo_68 : decode cX5_wrongTwo 68 = .ok (.iaload, 1) := by decide +kernel
theorem dX5_wrongTwo_69 : decode cX5_wrongTwo 69 = .ok (.invokestatic 123, 3) := by decide +kernel
theorem dX5_wrongTwo_72 : decode cX5_wrongTwo 72 = .ok (.ifCond .eq 7, 3) := by decide +kernel
theorem dX5_wrongTwo_75 : decode cX5_wrongTwo 75 = .ok (.iconst 0, 1) := by decide +kernel
theorem dX5_wrongTwo_76 : decode cX5_wrongTwo 76 = .ok (.goto 5, 3) := by decide +kernel
theorem dX5_wrongTwo_79 : decode cX5_wrongTwo 79 = .ok (.bipush (-3), 2) := by decide +kernel
theorem dX5_wrongTwo_81 : decode cX5_wrongTwo 81 = .ok (.ireturn, 1) := by decide +kernel
theorem dX5_opensBoth_0 : decode cX5_opensBoth 0 = .ok (.aload_n 0, 1) := by decide +kernel
theorem dX5_opensBoth_1 : decode cX5_opensBoth 1 = .ok (.getfield 9, 3) := by decide +kernel
theorem dX5_opensBoth_4 : decode cX5_opensBoth 4 = .ok (.aload_n 0, 1) := by decide +kernel
theorem dX5_opensBoth_5 : decode cX5_opensBoth 5 = .ok (.getfield 13, 3) := by decide +kernel
theorem dX5_opensBoth_8 : decode cX5_opensBoth 8 = .ok (.invokestatic 137, 3) := by decide +kernel
theorem dX5_opensBoth_11 : decode cX5_opensBoth 11 = .ok (.iload_n 2, 1) := by decide +kernel
theorem dX5_opensBoth_12 : decode cX5_opensBoth 12 = .ok (.iconst 1, 1) := by decide +kernel
theorem dX5_opensBoth_13 : decode cX5_opensBoth 13 = .ok (.if_icmp .ne 13, 3) := by decide +kernel
theorem dX5_opensBoth_16 : decode cX5_opensBoth 16 = .ok (.aload_n 0, 1) := by decide +kernel
theorem dX5_opensBoth_17 : decode cX5_opensBoth 17 = .ok (.getfield 13, 3) := by decide +kernel
theorem dX5_opensBoth_20 : decode cX5_opensBoth 20 = .ok (.iload_n 1, 1) := by decide +kernel
theorem dX5_opensBoth_21 : decode cX5_opensBoth 21 = .ok (.iload 5, 2) := by decide +kernel
theorem dX5_opensBoth_23 : decode cX5_opensBoth 23 = .ok (.invokestatic 127, 3) := by decide +kernel
theorem dX5_opensBoth_26 : decode cX5_opensBoth 26 = .ok (.iload 4, 2) := by decide +kernel
theorem dX5_opensBoth_28 : decode cX5_opensBoth 28 = .ok (.iconst 1, 1) := by decide +kernel
theorem dX5_opensBoth_29 : decode cX5_opensBoth 29 = .ok (.if_icmp .ne 13, 3) := by decide +kernel
theorem dX5_opensBoth_32 : decode cX5_opensBoth 32 = .ok (.aload_n 0, 1) := by decide +kernel
theorem dX5_opensBoth_33 : decode cX5_opensBoth 33 = .ok (.getfield 13, 3) := by decide +kernel
theorem dX5_opensBoth_36 : decode cX5_opensBoth 36 = .ok (.iload_n 3, 1) := by decide +kernel
theorem dX5_opensBoth_37 : decode cX5_opensBoth 37 = .ok (.iload 5, 2) := by decide +kernel
theorem dX5_opensBoth_39 : decode cX5_opensBoth 39 = .ok (.invokestatic 127, 3) := by decide +kernel
theorem dX5_opensBoth_42 : decode cX5_opensBoth 42 = .ok (.return_, 1) := by decide +kernel
theorem dX5_bothBy_0 : decode cX5_bothBy 0 = .ok (.aload_n 0, 1) := by decide +kernel
theorem dX5_bothBy_1 : decode cX5_bothBy 1 = .ok (.iload_n 1, 1) := by decide +kernel
theorem dX5_bothBy_2 : decode cX5_bothBy 2 = .ok (.iconst 1, 1) := by decide +kernel
theorem dX5_bothBy_3 : decode cX5_bothBy 3 = .ok (.iload_n 2, 1) := by decide +kernel
theorem dX5_bothBy_4 : decode cX5_bothBy 4 = .ok (.iconst 1, 1) := by decide +kernel
theorem dX5_bothBy_5 : decode cX5_bothBy 5 = .ok (.iload_n 3, 1) := by decide +kernel
theorem dX5_bothBy_6 : decode cX5_bothBy 6 = .ok (.invokevirtual 191, 3) := by decide +kernel
theorem dX5_bothBy_9 : decode cX5_bothBy 9 = .ok (.aload_n 0, 1) := by decide +kernel
theorem dX5_bothBy_10 : decode cX5_bothBy 10 = .ok (.getfield 13, 3) := by decide +kernel
theorem dX5_bothBy_13 : decode cX5_bothBy 13 = .ok (.iload_n 1, 1) := by decide +kernel
theorem dX5_bothBy_14 : decode cX5_bothBy 14 = .ok (.iconst 2, 1) := by decide +kernel
theorem dX5_bothBy_15 : decode cX5_bothBy 15 = .ok (.invokestatic 55, 3) := by decide +kernel
theorem dX5_bothBy_18 : decode cX5_bothBy 18 = .ok (.iaload, 1) := by decide +kernel
theorem dX5_bothBy_19 : decode cX5_bothBy 19 = .ok (.aload_n 0, 1) := by decide +kernel
theorem dX5_bothBy_20 : decode cX5_bothBy 20 = .ok (.getfield 13, 3) := by decide +kernel
theorem dX5_bothBy_23 : decode cX5_bothBy 23 = .ok (.iload_n 2, 1) := by decide +kernel
theorem dX5_bothBy_24 : decode cX5_bothBy 24 = .ok (.iconst 2, 1) := by decide +kernel
theorem dX5_bothBy_25 : decode cX5_bothBy 25 = .ok (.invokestatic 55, 3) := by decide +kernel
theorem dX5_bothBy_28 : decode cX5_bothBy 28 = .ok (.iaload, 1) := by decide +kernel
theorem dX5_bothBy_29 : decode cX5_bothBy 29 = .ok (.iadd, 1) := by decide +kernel
theorem dX5_bothBy_30 : decode cX5_bothBy 30 = .ok (.ireturn, 1) := by decide +kernel
theorem dX5_order_0 : decode cX5_order 0 = .ok (.aload_n 0, 1) := by decide +kernel
theorem dX5_order_1 : decode cX5_order 1 = .ok (.iload_n 1, 1) := by decide +kernel
theorem dX5_order_2 : decode cX5_order 2 = .ok (.iload_n 2, 1) := by decide +kernel
theorem dX5_order_3 : decode cX5_order 3 = .ok (.iload_n 3, 1) := by decide +kernel
theorem dX5_order_4 : decode cX5_order 4 = .ok (.invokevirtual 195, 3) := by decide +kernel
theorem dX5_order_7 : decode cX5_order 7 = .ok (.istore 4, 2) := by decide +kernel
theorem dX5_order_9 : decode cX5_order 9 = .ok (.iload 4, 2) := by decide +kernel
theorem dX5_order_11 : decode cX5_order 11 = .ok (.ifCond .eq 10, 3) := by decide +kernel
theorem dX5_order_14 : decode cX5_order 14 = .ok (.aload_n 0, 1) := by decide +kernel
theorem dX5_order_15 : decode cX5_order 15 = .ok (.iload 4, 2) := by decide +kernel
theorem dX5_order_17 : decode cX5_order 17 = .ok (.invokevirtual 38, 3) := by decide +kernel
theorem dX5_order_20 : decode cX5_order 20 = .ok (.ireturn, 1) := by decide +kernel
theorem dX5_order_21 : decode cX5_order 21 = .ok (.aload_n 0, 1) := by decide +kernel
theorem dX5_order_22 : decode cX5_order 22 = .ok (.iload_n 1, 1) := by decide +kernel
theorem dX5_order_23 : decode cX5_order 23 = .ok (.iload_n 2, 1) := by decide +kernel
theorem dX5_order_24 : decode cX5_order 24 = .ok (.iload_n 3, 1) := by decide +kernel
theorem dX5_order_25 : decode cX5_order 25 = .ok (.invokevirtual 198, 3) := by decide +kernel
theorem dX5_order_28 : decode cX5_order 28 = .ok (.istore 5, 2) := by decide +kernel
theorem dX5_order_30 : decode cX5_order 30 = .ok (.aload_n 0, 1) := by decide +kernel
theorem dX5_order_31 : decode cX5_order 31 = .ok (.iload_n 2, 1) := by decide +kernel
theorem dX5_order_32 : decode cX5_order 32 = .ok (.iload_n 1, 1) := by decide +kernel
theorem dX5_order_33 : decode cX5_order 33 = .ok (.iload_n 3, 1) := by decide +kernel
theorem dX5_order_34 : decode cX5_order 34 = .ok (.invokevirtual 198, 3) := by decide +kernel
theorem dX5_order_37 : decode cX5_order 37 = .ok (.istore 6, 2) := by decide +kernel
theorem dX5_order_39 : decode cX5_order 39 = .ok (.iload 5, 2) := by decide +kernel
theorem dX5_order_41 : decode cX5_order 41 = .ok (.iload 6, 2) := by decide +kernel
theorem dX5_order_43 : decode cX5_order 43 = .ok (.if_icmp .ne 16, 3) := by decide +kernel
theorem dX5_order_46 : decode cX5_order 46 = .ok (.iload_n 1, 1) := by decide +kernel
theorem dX5_order_47 : decode cX5_order 47 = .ok (.iload_n 2, 1) := by decide +kernel
theorem dX5_order_48 : decode cX5_order 48 = .ok (.if_icmp .ge 7, 3) := by decide +kernel
theorem dX5_order_51 : decode cX5_order 51 = .ok (.iload_n 1, 1) := by decide +kernel
theorem dX5_order_52 : decode cX5_order 52 = .ok (.goto 19, 3) := by decide +kernel
theorem dX5_order_55 : decode cX5_order 55 = .ok (.iload_n 2, 1) := by decide +kernel
theorem dX5_order_56 : decode cX5_order 56 = .ok (.goto 15, 3) := by decide +kernel
theorem dX5_order_59 : decode cX5_order 59 = .ok (.iload 5, 2) := by decide +kernel
theorem dX5_order_61 : decode cX5_order 61 = .ok (.iload 6, 2) := by decide +kernel
theorem dX5_order_63 : decode cX5_order 63 = .ok (.if_icmp .ge 7, 3) := by decide +kernel
theorem dX5_order_66 : decode cX5_order 66 = .ok (.iload_n 1, 1) := by decide +kernel
theorem dX5_order_67 : decode cX5_order 67 = .ok (.goto 4, 3) := by decide +kernel
theorem dX5_order_70 : decode cX5_order 70 = .ok (.iload_n 2, 1) := by decide +kernel
theorem dX5_order_71 : decode cX5_order 71 = .ok (.ireturn, 1) := by decide +kernel
theorem dX5_echo_0 : decode cX5_echo 0 = .ok (.aload_n 0, 1) := by decide +kernel
theorem dX5_echo_1 : decode cX5_echo 1 = .ok (.iload_n 1, 1) := by decide +kernel
theorem dX5_echo_2 : decode cX5_echo 2 = .ok (.iload_n 2, 1) := by decide +kernel
theorem dX5_echo_3 : decode cX5_echo 3 = .ok (.iload_n 3, 1) := by decide +kernel
theorem dX5_echo_4 : decode cX5_echo 4 = .ok (.invokevirtual 195, 3) := by decide +kernel
theorem dX5_echo_7 : decode cX5_echo 7 = .ok (.istore 4, 2) := by decide +kernel
theorem dX5_echo_9 : decode cX5_echo 9 = .ok (.iload 4, 2) := by decide +kernel
theorem dX5_echo_11 : decode cX5_echo 11 = .ok (.ifCond .eq 10, 3) := by decide +kernel
theorem dX5_echo_14 : decode cX5_echo 14 = .ok (.aload_n 0, 1) := by decide +kernel
theorem dX5_echo_15 : decode cX5_echo 15 = .ok (.iload 4, 2) := by decide +kernel
theorem dX5_echo_17 : decode cX5_echo 17 = .ok (.invokevirtual 201, 3) := by decide +kernel
theorem dX5_echo_20 : decode cX5_echo 20 = .ok (.ireturn, 1) := by decide +kernel
theorem dX5_echo_21 : decode cX5_echo 21 = .ok (.aload_n 0, 1) := by decide +kernel
theorem dX5_echo_22 : decode cX5_echo 22 = .ok (.iload_n 1, 1) := by decide +kernel
theorem dX5_echo_23 : decode cX5_echo 23 = .ok (.iconst 1, 1) := by decide +kernel
theorem dX5_echo_24 : decode cX5_echo 24 = .ok (.iload_n 2, 1) := by decide +kernel
theorem dX5_echo_25 : decode cX5_echo 25 = .ok (.iconst 1, 1) := by decide +kernel
theorem dX5_echo_26 : decode cX5_echo 26 = .ok (.iload_n 3, 1) := by decide +kernel
theorem dX5_echo_27 : decode cX5_echo 27 = .ok (.invokevirtual 191, 3) := by decide +kernel
theorem dX5_echo_30 : decode cX5_echo 30 = .ok (.aload_n 0, 1) := by decide +kernel
theorem dX5_echo_31 : decode cX5_echo 31 = .ok (.getfield 13, 3) := by decide +kernel
theorem dX5_echo_34 : decode cX5_echo 34 = .ok (.iload_n 2, 1) := by decide +kernel
theorem dX5_echo_35 : decode cX5_echo 35 = .ok (.iconst 2, 1) := by decide +kernel
theorem dX5_echo_36 : decode cX5_echo 36 = .ok (.invokestatic 55, 3) := by decide +kernel
theorem dX5_echo_39 : decode cX5_echo 39 = .ok (.iaload, 1) := by decide +kernel
theorem dX5_echo_40 : decode cX5_echo 40 = .ok (.istore 5, 2) := by decide +kernel
theorem dX5_echo_42 : decode cX5_echo 42 = .ok (.aload_n 0, 1) := by decide +kernel
theorem dX5_echo_43 : decode cX5_echo 43 = .ok (.iload_n 1, 1) := by decide +kernel
theorem dX5_echo_44 : decode cX5_echo 44 = .ok (.iconst 0, 1) := by decide +kernel
theorem dX5_echo_45 : decode cX5_echo 45 = .ok (.iload_n 2, 1) := by decide +kernel
theorem dX5_echo_46 : decode cX5_echo 46 = .ok (.iconst 1, 1) := by decide +kernel
theorem dX5_echo_47 : decode cX5_echo 47 = .ok (.iload_n 3, 1) := by decide +kernel
theorem dX5_echo_48 : decode cX5_echo 48 = .ok (.invokevirtual 191, 3) := by decide +kernel
theorem dX5_echo_51 : decode cX5_echo 51 = .ok (.iload 5, 2) := by decide +kernel
theorem dX5_echo_53 : decode cX5_echo 53 = .ok (.aload_n 0, 1) := by decide +kernel
theorem dX5_echo_54 : decode cX5_echo 54 = .ok (.getfield 13, 3) := by decide +kernel
theorem dX5_echo_57 : decode cX5_echo 57 = .ok (.iload_n 2, 1) := by decide +kernel
theorem dX5_echo_58 : decode cX5_echo 58 = .ok (.iconst 2, 1) := by decide +kernel
theorem dX5_echo_59 : decode cX5_echo 59 = .ok (.invokestatic 55, 3) := by decide +kernel
theorem dX5_echo_62 : decode cX5_echo 62 = .ok (.iaload, 1) := by decide +kernel
theorem dX5_echo_63 : decode cX5_echo 63 = .ok (.isub, 1) := by decide +kernel
theorem dX5_echo_64 : decode cX5_echo 64 = .ok (.ireturn, 1) := by decide +kernel
theorem dX5_withVoice_0 : decode cX5_withVoice 0 = .ok (.iconst 0, 1) := by decide +kernel
theorem dX5_withVoice_1 : decode cX5_withVoice 1 = .ok (.istore_n 2, 1) := by decide +kernel
theorem dX5_withVoice_2 : decode cX5_withVoice 2 = .ok (.iconst 0, 1) := by decide +kernel
theorem dX5_withVoice_3 : decode cX5_withVoice 3 = .ok (.istore_n 3, 1) := by decide +kernel
theorem dX5_withVoice_4 : decode cX5_withVoice 4 = .ok (.iload_n 3, 1) := by decide +kernel
theorem dX5_withVoice_5 : decode cX5_withVoice 5 = .ok (.aload_n 0, 1) := by decide +kernel
theorem dX5_withVoice_6 : decode cX5_withVoice 6 = .ok (.getfield 9, 3) := by decide +kernel
theorem dX5_withVoice_9 : decode cX5_withVoice 9 = .ok (.iconst 0, 1) := by decide +kernel
theorem dX5_withVoice_10 : decode cX5_withVoice 10 = .ok (.iaload, 1) := by decide +kernel
theorem dX5_withVoice_11 : decode cX5_withVoice 11 = .ok (.if_icmp .ge 33, 3) := by decide +kernel
theorem dX5_withVoice_14 : decode cX5_withVoice 14 = .ok (.iload_n 2, 1) := by decide +kernel
theorem dX5_withVoice_15 : decode cX5_withVoice 15 = .ok (.aload_n 0, 1) := by decide +kernel
theorem dX5_withVoice_16 : decode cX5_withVoice 16 = .ok (.getfield 9, 3) := by decide +kernel
theorem dX5_withVoice_19 : decode cX5_withVoice 19 = .ok (.iload_n 3, 1) := by decide +kernel
theorem dX5_withVoice_20 : decode cX5_withVoice 20 = .ok (.iconst 5, 1) := by decide +kernel
theorem dX5_withVoice_21 : decode cX5_withVoice 21 = .ok (.invokestatic 48, 3) := by decide +kernel
theorem dX5_withVoice_24 : decode cX5_withVoice 24 = .ok (.iaload, 1) := by decide +kernel
theorem dX5_withVoice_25 : decode cX5_withVoice 25 = .ok (.iload_n 1, 1) := by decide +kernel
theorem dX5_withVoice_26 : decode cX5_withVoice 26 = .ok (.if_icmp .ne 9, 3) := by decide +kernel
theorem dX5_withVoice_29 : decode cX5_withVoice 29 = .ok (.iconst 1, 1) := by decide +kernel
theorem dX5_withVoice_30 : decode cX5_withVoice 30 = .ok (.iload_n 3, 1) := by decide +kernel
theorem dX5_withVoice_31 : decode cX5_withVoice 31 = .ok (.ishl, 1) := by decide +kernel
theorem dX5_withVoice_32 : decode cX5_withVoice 32 = .ok (.goto 4, 3) := by decide +kernel
theorem dX5_withVoice_35 : decode cX5_withVoice 35 = .ok (.iconst 0, 1) := by decide +kernel
theorem dX5_withVoice_36 : decode cX5_withVoice 36 = .ok (.ior, 1) := by decide +kernel
theorem dX5_withVoice_37 : decode cX5_withVoice 37 = .ok (.istore_n 2, 1) := by decide +kernel
theorem dX5_withVoice_38 : decode cX5_withVoice 38 = .ok (.iinc 3 1, 3) := by decide +kernel
theorem dX5_withVoice_41 : decode cX5_withVoice 41 = .ok (.goto (-37), 3) := by decide +kernel
theorem dX5_withVoice_44 : decode cX5_withVoice 44 = .ok (.iload_n 2, 1) := by decide +kernel
theorem dX5_withVoice_45 : decode cX5_withVoice 45 = .ok (.ireturn, 1) := by decide +kernel
theorem dX5_voices_0 : decode cX5_voices 0 = .ok (.iload_n 1, 1) := by decide +kernel
theorem dX5_voices_1 : decode cX5_voices 1 = .ok (.iconst (-1), 1) := by decide +kernel
theorem dX5_voices_2 : decode cX5_voices 2 = .ok (.if_icmp .ne 12, 3) := by decide +kernel
theorem dX5_voices_5 : decode cX5_voices 5 = .ok (.aload_n 0, 1) := by decide +kernel
theorem dX5_voices_6 : decode cX5_voices 6 = .ok (.bipush 9, 2) := by decide +kernel
theorem dX5_voices_8 : decode cX5_voices 8 = .ok (.invokevirtual 204, 3) := by decide +kernel
theorem dX5_voices_11 : decode cX5_voices 11 = .ok (.goto 24, 3) := by decide +kernel
theorem dX5_voices_14 : decode cX5_voices 14 = .ok (.aload_n 0, 1) := by decide +kernel
theorem dX5_voices_15 : decode cX5_voices 15 = .ok (.iload_n 1, 1) := by decide +kernel
theorem dX5_voices_16 : decode cX5_voices 16 = .ok (.invokevirtual 117, 3) := by decide +kernel
theorem dX5_voices_19 : decode cX5_voices 19 = .ok (.ifCond .eq 11, 3) := by decide +kernel
theorem dX5_voices_22 : decode cX5_voices 22 = .ok (.aload_n 0, 1) := by decide +kernel
theorem dX5_voices_23 : decode cX5_voices 23 = .ok (.iload_n 1, 1) := by decide +kernel
theorem dX5_voices_24 : decode cX5_voices 24 = .ok (.invokevirtual 204, 3) := by decide +kernel
theorem dX5_voices_27 : decode cX5_voices 27 = .ok (.goto 8, 3) := by decide +kernel
theorem dX5_voices_30 : decode cX5_voices 30 = .ok (.aload_n 0, 1) := by decide +kernel
theorem dX5_voices_31 : decode cX5_voices 31 = .ok (.iconst (-1), 1) := by decide +kernel
theorem dX5_voices_32 : decode cX5_voices 32 = .ok (.invokevirtual 38, 3) := by decide +kernel
theorem dX5_voices_35 : decode cX5_voices 35 = .ok (.ireturn, 1) := by decide +kernel
theorem dX5_bits_0 : decode cX5_bits 0 = .ok (.iconst 0, 1) := by decide +kernel
theorem dX5_bits_1 : decode cX5_bits 1 = .ok (.istore_n 1, 1) := by decide +kernel
theorem dX5_bits_2 : decode cX5_bits 2 = .ok (.iconst 0, 1) := by decide +kernel
theorem dX5_bits_3 : decode cX5_bits 3 = .ok (.istore_n 2, 1) := by decide +kernel
theorem dX5_bits_4 : decode cX5_bits 4 = .ok (.iload_n 2, 1) := by decide +kernel
theorem dX5_bits_5 : decode cX5_bits 5 = .ok (.bipush 9, 2) := by decide +kernel
theorem dX5_bits_7 : decode cX5_bits 7 = .ok (.if_icmp .ge 17, 3) := by decide +kernel
theorem dX5_bits_10 : decode cX5_bits 10 = .ok (.iload_n 1, 1) := by decide +kernel
theorem dX5_bits_11 : decode cX5_bits 11 = .ok (.iload_n 0, 1) := by decide +kernel
theorem dX5_bits_12 : decode cX5_bits 12 = .ok (.iload_n 2, 1) := by decide +kernel
theorem dX5_bits_13 : decode cX5_bits 13 = .ok (.ishr, 1) := by decide +kernel
theorem dX5_bits_14 : decode cX5_bits 14 = .ok (.iconst 1, 1) := by decide +kernel
theorem dX5_bits_15 : decode cX5_bits 15 = .ok (.iand, 1) := by decide +kernel
theorem dX5_bits_16 : decode cX5_bits 16 = .ok (.iadd, 1) := by decide +kernel
theorem dX5_bits_17 : decode cX5_bits 17 = .ok (.istore_n 1, 1) := by decide +kernel
theorem dX5_bits_18 : decode cX5_bits 18 = .ok (.iinc 2 1, 3) := by decide +kernel
theorem dX5_bits_21 : decode cX5_bits 21 = .ok (.goto (-17), 3) := by decide +kernel
theorem dX5_bits_24 : decode cX5_bits 24 = .ok (.iload_n 1, 1) := by decide +kernel
theorem dX5_bits_25 : decode cX5_bits 25 = .ok (.ireturn, 1) := by decide +kernel
theorem dX5_mostHeard_0 : decode cX5_mostHeard 0 = .ok (.bipush (-9), 2) := by decide +kernel
theorem dX5_mostHeard_2 : decode cX5_mostHeard 2 = .ok (.istore_n 1, 1) := by decide +kernel
theorem dX5_mostHeard_3 : decode cX5_mostHeard 3 = .ok (.iconst 0, 1) := by decide +kernel
theorem dX5_mostHeard_4 : decode cX5_mostHeard 4 = .ok (.istore_n 2, 1) := by decide +kernel
theorem dX5_mostHeard_5 : decode cX5_mostHeard 5 = .ok (.iconst 0, 1) := by decide +kernel
theorem dX5_mostHeard_6 : decode cX5_mostHeard 6 = .ok (.istore_n 3, 1) := by decide +kernel
theorem dX5_mostHeard_7 : decode cX5_mostHeard 7 = .ok (.iload_n 3, 1) := by decide +kernel
theorem dX5_mostHeard_8 : decode cX5_mostHeard 8 = .ok (.aload_n 0, 1) := by decide +kernel
theorem dX5_mostHeard_9 : decode cX5_mostHeard 9 = .ok (.getfield 9, 3) := by decide +kernel
theorem dX5_mostHeard_12 : decode cX5_mostHeard 12 = .ok (.iconst 1, 1) := by decide +kernel
theorem dX5_mostHeard_13 : decode cX5_mostHeard 13 = .ok (.iaload, 1) := by decide +kernel
theorem dX5_mostHeard_14 : decode cX5_mostHeard 14 = .ok (.if_icmp .ge 35, 3) := by decide +kernel
theorem dX5_mostHeard_17 : decode cX5_mostHeard 17 = .ok (.aload_n 0, 1) := by decide +kernel
theorem dX5_mostHeard_18 : decode cX5_mostHeard 18 = .ok (.iload_n 3, 1) := by decide +kernel
theorem dX5_mostHeard_19 : decode cX5_mostHeard 19 = .ok (.invokevirtual 204, 3) := by decide +kernel
theorem dX5_mostHeard_22 : decode cX5_mostHeard 22 = .ok (.invokestatic 207, 3) := by decide +kernel
theorem dX5_mostHeard_25 : decode cX5_mostHeard 25 = .ok (.iload_n 2, 1) := by decide +kernel
theorem dX5_mostHeard_26 : decode cX5_mostHeard 26 = .ok (.if_icmp .gt 6, 3) := by decide +kernel
theorem dX5_mostHeard_29 : decode cX5_mostHeard 29 = .ok (.goto 14, 3) := by decide +kernel
theorem dX5_mostHeard_32 : decode cX5_mostHeard 32 = .ok (.iload_n 3, 1) := by decide +kernel
theorem dX5_mostHeard_33 : decode cX5_mostHeard 33 = .ok (.istore_n 1, 1) := by decide +kernel
theorem dX5_mostHeard_34 : decode cX5_mostHeard 34 = .ok (.aload_n 0, 1) := by decide +kernel
theorem dX5_mostHeard_35 : decode cX5_mostHeard 35 = .ok (.iload_n 3, 1) := by decide +kernel
theorem dX5_mostHeard_36 : decode cX5_mostHeard 36 = .ok (.invokevirtual 204, 3) := by decide +kernel
theorem dX5_mostHeard_39 : decode cX5_mostHeard 39 = .ok (.invokestatic 207, 3) := by decide +kernel
theorem dX5_mostHeard_42 : decode cX5_mostHeard 42 = .ok (.istore_n 2, 1) := by decide +kernel
theorem dX5_mostHeard_43 : decode cX5_mostHeard 43 = .ok (.iinc 3 1, 3) := by decide +kernel
theorem dX5_mostHeard_46 : decode cX5_mostHeard 46 = .ok (.goto (-39), 3) := by decide +kernel
theorem dX5_mostHeard_49 : decode cX5_mostHeard 49 = .ok (.iload_n 1, 1) := by decide +kernel
theorem dX5_mostHeard_50 : decode cX5_mostHeard 50 = .ok (.ireturn, 1) := by decide +kernel
theorem dX5_worst_0 : decode cX5_worst 0 = .ok (.bipush (-9), 2) := by decide +kernel
theorem dX5_worst_2 : decode cX5_worst 2 = .ok (.istore_n 1, 1) := by decide +kernel
theorem dX5_worst_3 : decode cX5_worst 3 = .ok (.iconst 0, 1) := by decide +kernel
theorem dX5_worst_4 : decode cX5_worst 4 = .ok (.istore_n 2, 1) := by decide +kernel
theorem dX5_worst_5 : decode cX5_worst 5 = .ok (.iload_n 2, 1) := by decide +kernel
theorem dX5_worst_6 : decode cX5_worst 6 = .ok (.aload_n 0, 1) := by decide +kernel
theorem dX5_worst_7 : decode cX5_worst 7 = .ok (.getfield 9, 3) := by decide +kernel
theorem dX5_worst_10 : decode cX5_worst 10 = .ok (.iconst 1, 1) := by decide +kernel
theorem dX5_worst_11 : decode cX5_worst 11 = .ok (.iaload, 1) := by decide +kernel
theorem dX5_worst_12 : decode cX5_worst 12 = .ok (.if_icmp .ge 38, 3) := by decide +kernel
theorem dX5_worst_15 : decode cX5_worst 15 = .ok (.iload_n 1, 1) := by decide +kernel
theorem dX5_worst_16 : decode cX5_worst 16 = .ok (.ifCond .lt 26, 3) := by decide +kernel
theorem dX5_worst_19 : decode cX5_worst 19 = .ok (.aload_n 0, 1) := by decide +kernel
theorem dX5_worst_20 : decode cX5_worst 20 = .ok (.getfield 9, 3) := by decide +kernel
theorem dX5_worst_23 : decode cX5_worst 23 = .ok (.iload_n 2, 1) := by decide +kernel
theorem dX5_worst_24 : decode cX5_worst 24 = .ok (.iconst 2, 1) := by decide +kernel
theorem dX5_worst_25 : decode cX5_worst 25 = .ok (.invokestatic 55, 3) := by decide +kernel
theorem dX5_worst_28 : decode cX5_worst 28 = .ok (.iaload, 1) := by decide +kernel
theorem dX5_worst_29 : decode cX5_worst 29 = .ok (.aload_n 0, 1) := by decide +kernel
theorem dX5_worst_30 : decode cX5_worst 30 = .ok (.getfield 9, 3) := by decide +kernel
theorem dX5_worst_33 : decode cX5_worst 33 = .ok (.iload_n 1, 1) := by decide +kernel
theorem dX5_worst_34 : decode cX5_worst 34 = .ok (.iconst 2, 1) := by decide +kernel
theorem dX5_worst_35 : decode cX5_worst 35 = .ok (.invokestatic 55, 3) := by decide +kernel
theorem dX5_worst_38 : decode cX5_worst 38 = .ok (.iaload, 1) := by decide +kernel
theorem dX5_worst_39 : decode cX5_worst 39 = .ok (.if_icmp .le 5, 3) := by decide +kernel
theorem dX5_worst_42 : decode cX5_worst 42 = .ok (.iload_n 2, 1) := by decide +kernel
theorem dX5_worst_43 : decode cX5_worst 43 = .ok (.istore_n 1, 1) := by decide +kernel
theorem dX5_worst_44 : decode cX5_worst 44 = .ok (.iinc 2 1, 3) := by decide +kernel
theorem dX5_worst_47 : decode cX5_worst 47 = .ok (.goto (-42), 3) := by decide +kernel
theorem dX5_worst_50 : decode cX5_worst 50 = .ok (.iload_n 1, 1) := by decide +kernel
theorem dX5_worst_51 : decode cX5_worst 51 = .ok (.ireturn, 1) := by decide +kernel
theorem dX5_heard_0 : decode cX5_heard 0 = .ok (.iload_n 1, 1) := by decide +kernel
theorem dX5_heard_1 : decode cX5_heard 1 = .ok (.ifCond .ne 10, 3) := by decide +kernel
theorem dX5_heard_4 : decode cX5_heard 4 = .ok (.aload_n 0, 1) := by decide +kernel
theorem dX5_heard_5 : decode cX5_heard 5 = .ok (.invokevirtual 210, 3) := by decide +kernel
theorem dX5_heard_8 : decode cX5_heard 8 = .ok (.goto 21, 3) := by decide +kernel
theorem dX5_heard_11 : decode cX5_heard 11 = .ok (.iload_n 1, 1) := by decide +kernel
theorem dX5_heard_12 : decode cX5_heard 12 = .ok (.iconst 1, 1) := by decide +kernel
theorem dX5_heard_13 : decode cX5_heard 13 = .ok (.if_icmp .ne 10, 3) := by decide +kernel
theorem dX5_heard_16 : decode cX5_heard 16 = .ok (.aload_n 0, 1) := by decide +kernel
theorem dX5_heard_17 : decode cX5_heard 17 = .ok (.invokevirtual 213, 3) := by decide +kernel
theorem dX5_heard_20 : decode cX5_heard 20 = .ok (.goto 9, 3) := by decide +kernel
theorem dX5_heard_23 : decode cX5_heard 23 = .ok (.aload_n 0, 1) := by decide +kernel
theorem dX5_heard_24 : decode cX5_heard 24 = .ok (.bipush (-2), 2) := by decide +kernel
theorem dX5_heard_26 : decode cX5_heard 26 = .ok (.invokevirtual 38, 3) := by decide +kernel
theorem dX5_heard_29 : decode cX5_heard 29 = .ok (.ireturn, 1) := by decide +kernel
theorem dX5_meet_0 : decode cX5_meet 0 = .ok (.iload_n 1, 1) := by decide +kernel
theorem dX5_meet_1 : decode cX5_meet 1 = .ok (.iconst 0, 1) := by decide +kernel
theorem dX5_meet_2 : decode cX5_meet 2 = .ok (.iconst 1, 1) := by decide +kernel
theorem dX5_meet_3 : decode cX5_meet 3 = .ok (.invokestatic 44, 3) := by decide +kernel
theorem dX5_meet_6 : decode cX5_meet 6 = .ok (.ifCond .ne 10, 3) := by decide +kernel
theorem dX5_meet_9 : decode cX5_meet 9 = .ok (.aload_n 0, 1) := by decide +kernel
theorem dX5_meet_10 : decode cX5_meet 10 = .ok (.bipush (-2), 2) := by decide +kernel
theorem dX5_meet_12 : decode cX5_meet 12 = .ok (.invokevirtual 38, 3) := by decide +kernel
theorem dX5_meet_15 : decode cX5_meet 15 = .ok (.ireturn, 1) := by decide +kernel
theorem dX5_meet_16 : decode cX5_meet 16 = .ok (.bipush (-9), 2) := by decide +kernel
theorem dX5_meet_18 : decode cX5_meet 18 = .ok (.istore_n 2, 1) := by decide +kernel
theorem dX5_meet_19 : decode cX5_meet 19 = .ok (.ldc 37, 2) := by decide +kernel
theorem dX5_meet_21 : decode cX5_meet 21 = .ok (.istore_n 3, 1) := by decide +kernel
theorem dX5_meet_22 : decode cX5_meet 22 = .ok (.iconst 0, 1) := by decide +kernel
theorem dX5_meet_23 : decode cX5_meet 23 = .ok (.istore 4, 2) := by decide +kernel
theorem dX5_meet_25 : decode cX5_meet 25 = .ok (.iload 4, 2) := by decide +kernel
theorem dX5_meet_27 : decode cX5_meet 27 = .ok (.bipush 7, 2) := by decide +kernel
theorem dX5_meet_29 : decode cX5_meet 29 = .ok (.if_icmp .ge 96, 3) := by decide +kernel
theorem dX5_meet_32 : decode cX5_meet 32 = .ok (.iconst 0, 1) := by decide +kernel
theorem dX5_meet_33 : decode cX5_meet 33 = .ok (.istore 5, 2) := by decide +kernel
theorem dX5_meet_35 : decode cX5_meet 35 = .ok (.iconst 0, 1) := by decide +kernel
theorem dX5_meet_36 : decode cX5_meet 36 = .ok (.istore 6, 2) := by decide +kernel
theorem dX5_meet_38 : decode cX5_meet 38 = .ok (.iload 6, 2) := by decide +kernel
theorem dX5_meet_40 : decode cX5_meet 40 = .ok (.aload_n 0, 1) := by decide +kernel
theorem dX5_meet_41 : decode cX5_meet 41 = .ok (.getfield 9, 3) := by decide +kernel
theorem dX5_meet_44 : decode cX5_meet 44 = .ok (.iconst 1, 1) := by decide +kernel
theorem dX5_meet_45 : decode cX5_meet 45 = .ok (.iaload, 1) := by decide +kernel
theorem dX5_meet_46 : decode cX5_meet 46 = .ok (.if_icmp .ge 58, 3) := by decide +kernel
theorem dX5_meet_49 : decode cX5_meet 49 = .ok (.iload 5, 2) := by decide +kernel
theorem dX5_meet_51 : decode cX5_meet 51 = .ok (.ldc 37, 2) := by decide +kernel
theorem dX5_meet_53 : decode cX5_meet 53 = .ok (.if_icmp .ge 51, 3) := by decide +kernel
theorem dX5_meet_56 : decode cX5_meet 56 = .ok (.aload_n 0, 1) := by decide +kernel
theorem dX5_meet_57 : decode cX5_meet 57 = .ok (.aload_n 0, 1) := by decide +kernel
theorem dX5_meet_58 : decode cX5_meet 58 = .ok (.getfield 9, 3) := by decide +kernel
theorem dX5_meet_61 : decode cX5_meet 61 = .ok (.aload_n 0, 1) := by decide +kernel
theorem dX5_meet_62 : decode cX5_meet 62 = .ok (.getfield 9, 3) := by decide +kernel
theorem dX5_meet_65 : decode cX5_meet 65 = .ok (.iload 6, 2) := by decide +kernel
theorem dX5_meet_67 : decode cX5_meet 67 = .ok (.iconst 1, 1) := by decide +kernel
theorem dX5_meet_68 : decode cX5_meet 68 = .ok (.invokestatic 55, 3) := by decide +kernel
theorem dX5_meet_71 : decode cX5_meet 71 = .ok (.iaload, 1) := by decide +kernel
theorem dX5_meet_72 : decode cX5_meet 72 = .ok (.iload 4, 2) := by decide +kernel
theorem dX5_meet_74 : decode cX5_meet 74 = .ok (.bipush (-9), 2) := by decide +kernel
theorem dX5_meet_76 : decode cX5_meet 76 = .ok (.invokevirtual 184, 3) := by decide +kernel
theorem dX5_meet_79 : decode cX5_meet 79 = .ok (.istore 7, 2) := by decide +kernel
theorem dX5_meet_81 : decode cX5_meet 81 = .ok (.iload 7, 2) := by decide +kernel
theorem dX5_meet_83 : decode cX5_meet 83 = .ok (.ifCond .ge 8, 3) := by decide +kernel
theorem dX5_meet_86 : decode cX5_meet 86 = .ok (.ldc 37, 2) := by decide +kernel
theorem dX5_meet_88 : decode cX5_meet 88 = .ok (.goto 8, 3) := by decide +kernel
theorem dX5_meet_91 : decode cX5_meet 91 = .ok (.iload 5, 2) := by decide +kernel
theorem dX5_meet_93 : decode cX5_meet 93 = .ok (.iload 7, 2) := by decide +kernel
theorem dX5_meet_95 : decode cX5_meet 95 = .ok (.iadd, 1) := by decide +kernel
theorem dX5_meet_96 : decode cX5_meet 96 = .ok (.istore 5, 2) := by decide +kernel
theorem dX5_meet_98 : decode cX5_meet 98 = .ok (.iinc 6 1, 3) := by decide +kernel
theorem dX5_meet_101 : decode cX5_meet 101 = .ok (.goto (-63), 3) := by decide +kernel
theorem dX5_meet_104 : decode cX5_meet 104 = .ok (.iload 5, 2) := by decide +kernel
theorem dX5_meet_106 : decode cX5_meet 106 = .ok (.iload_n 3, 1) := by decide +kernel
theorem dX5_meet_107 : decode cX5_meet 107 = .ok (.if_icmp .lt 6, 3) := by decide +kernel
theorem dX5_meet_110 : decode cX5_meet 110 = .ok (.goto 9, 3) := by decide +kernel
theorem dX5_meet_113 : decode cX5_meet 113 = .ok (.iload 4, 2) := by decide +kernel
theorem dX5_meet_115 : decode cX5_meet 115 = .ok (.istore_n 2, 1) := by decide +kernel
theorem dX5_meet_116 : decode cX5_meet 116 = .ok (.iload 5, 2) := by decide +kernel
theorem dX5_meet_118 : decode cX5_meet 118 = .ok (.istore_n 3, 1) := by decide +kernel
theorem dX5_meet_119 : decode cX5_meet 119 = .ok (.iinc 4 1, 3) := by decide +kernel
theorem dX5_meet_122 : decode cX5_meet 122 = .ok (.goto (-97), 3) := by decide +kernel
theorem dX5_meet_125 : decode cX5_meet 125 = .ok (.iload_n 2, 1) := by decide +kernel
theorem dX5_meet_126 : decode cX5_meet 126 = .ok (.ifCond .lt 7, 3) := by decide +kernel
theorem dX5_meet_129 : decode cX5_meet 129 = .ok (.iload_n 1, 1) := by decide +kernel
theorem dX5_meet_130 : decode cX5_meet 130 = .ok (.ifCond .ne 7, 3) := by decide +kernel
theorem dX5_meet_133 : decode cX5_meet 133 = .ok (.iload_n 2, 1) := by decide +kernel
theorem dX5_meet_134 : decode cX5_meet 134 = .ok (.goto 4, 3) := by decide +kernel
theorem dX5_meet_137 : decode cX5_meet 137 = .ok (.iload_n 3, 1) := by decide +kernel
theorem dX5_meet_138 : decode cX5_meet 138 = .ok (.ireturn, 1) := by decide +kernel
theorem dX5_moodBy_0 : decode cX5_moodBy 0 = .ok (.aload_n 0, 1) := by decide +kernel
theorem dX5_moodBy_1 : decode cX5_moodBy 1 = .ok (.iload_n 2, 1) := by decide +kernel
theorem dX5_moodBy_2 : decode cX5_moodBy 2 = .ok (.iload_n 3, 1) := by decide +kernel
theorem dX5_moodBy_3 : decode cX5_moodBy 3 = .ok (.iload 4, 2) := by decide +kernel
theorem dX5_moodBy_5 : decode cX5_moodBy 5 = .ok (.iload 5, 2) := by decide +kernel
theorem dX5_moodBy_7 : decode cX5_moodBy 7 = .ok (.iload 6, 2) := by decide +kernel
theorem dX5_moodBy_9 : decode cX5_moodBy 9 = .ok (.invokevirtual 191, 3) := by decide +kernel
theorem dX5_moodBy_12 : decode cX5_moodBy 12 = .ok (.aload_n 0, 1) := by decide +kernel
theorem dX5_moodBy_13 : decode cX5_moodBy 13 = .ok (.getfield 13, 3) := by decide +kernel
theorem dX5_moodBy_16 : decode cX5_moodBy 16 = .ok (.iload_n 1, 1) := by decide +kernel
theorem dX5_moodBy_17 : decode cX5_moodBy 17 = .ok (.iconst 2, 1) := by decide +kernel
theorem dX5_moodBy_18 : decode cX5_moodBy 18 = .ok (.invokestatic 55, 3) := by decide +kernel
theorem dX5_moodBy_21 : decode cX5_moodBy 21 = .ok (.iaload, 1) := by decide +kernel
theorem dX5_moodBy_22 : decode cX5_moodBy 22 = .ok (.iconst 4, 1) := by decide +kernel
theorem dX5_moodBy_23 : decode cX5_moodBy 23 = .ok (.iload_n 1, 1) := by decide +kernel
theorem dX5_moodBy_24 : decode cX5_moodBy 24 = .ok (.iload_n 2, 1) := by decide +kernel
theorem dX5_moodBy_25 : decode cX5_moodBy 25 = .ok (.if_icmp .ne 7, 3) := by decide +kernel
theorem dX5_moodBy_28 : decode cX5_moodBy 28 = .ok (.iload_n 3, 1) := by decide +kernel
theorem dX5_moodBy_29 : decode cX5_moodBy 29 = .ok (.goto 5, 3) := by decide +kernel
theorem dX5_moodBy_32 : decode cX5_moodBy 32 = .ok (.iload 5, 2) := by decide +kernel
theorem dX5_moodBy_34 : decode cX5_moodBy 34 = .ok (.imul, 1) := by decide +kernel
theorem dX5_moodBy_35 : decode cX5_moodBy 35 = .ok (.isub, 1) := by decide +kernel
theorem dX5_moodBy_36 : decode cX5_moodBy 36 = .ok (.ireturn, 1) := by decide +kernel
theorem dX5_two_0 : decode cX5_two 0 = .ok (.aload_n 0, 1) := by decide +kernel
theorem dX5_two_1 : decode cX5_two 1 = .ok (.iload_n 1, 1) := by decide +kernel
theorem dX5_two_2 : decode cX5_two 2 = .ok (.iload_n 2, 1) := by decide +kernel
theorem dX5_two_3 : decode cX5_two 3 = .ok (.iload_n 3, 1) := by decide +kernel
theorem dX5_two_4 : decode cX5_two 4 = .ok (.invokevirtual 195, 3) := by decide +kernel
theorem dX5_two_7 : decode cX5_two 7 = .ok (.istore 4, 2) := by decide +kernel
theorem dX5_two_9 : decode cX5_two 9 = .ok (.iload 4, 2) := by decide +kernel
theorem dX5_two_11 : decode cX5_two 11 = .ok (.ifCond .eq 10, 3) := by decide +kernel
theorem dX5_two_14 : decode cX5_two 14 = .ok (.aload_n 0, 1) := by decide +kernel
theorem dX5_two_15 : decode cX5_two 15 = .ok (.iload 4, 2) := by decide +kernel
theorem dX5_two_17 : decode cX5_two 17 = .ok (.invokevirtual 38, 3) := by decide +kernel
theorem dX5_two_20 : decode cX5_two 20 = .ok (.ireturn, 1) := by decide +kernel
theorem dX5_two_21 : decode cX5_two 21 = .ok (.iconst 0, 1) := by decide +kernel
theorem dX5_two_22 : decode cX5_two 22 = .ok (.istore 5, 2) := by decide +kernel
theorem dX5_two_24 : decode cX5_two 24 = .ok (.iload 5, 2) := by decide +kernel
theorem dX5_two_26 : decode cX5_two 26 = .ok (.iconst 4, 1) := by decide +kernel
theorem dX5_two_27 : decode cX5_two 27 = .ok (.if_icmp .ge 88, 3) := by decide +kernel
theorem dX5_two_30 : decode cX5_two 30 = .ok (.iload 5, 2) := by decide +kernel
theorem dX5_two_32 : decode cX5_two 32 = .ok (.iconst 2, 1) := by decide +kernel
theorem dX5_two_33 : decode cX5_two 33 = .ok (.idiv, 1) := by decide +kernel
theorem dX5_two_34 : decode cX5_two 34 = .ok (.istore 6, 2) := by decide +kernel
theorem dX5_two_36 : decode cX5_two 36 = .ok (.iload 5, 2) := by decide +kernel
theorem dX5_two_38 : decode cX5_two 38 = .ok (.iconst 2, 1) := by decide +kernel
theorem dX5_two_39 : decode cX5_two 39 = .ok (.irem, 1) := by decide +kernel
theorem dX5_two_40 : decode cX5_two 40 = .ok (.istore 7, 2) := by decide +kernel
theorem dX5_two_42 : decode cX5_two 42 = .ok (.aload_n 0, 1) := by decide +kernel
theorem dX5_two_43 : decode cX5_two 43 = .ok (.iload_n 1, 1) := by decide +kernel
theorem dX5_two_44 : decode cX5_two 44 = .ok (.iload_n 1, 1) := by decide +kernel
theorem dX5_two_45 : decode cX5_two 45 = .ok (.iconst 1, 1) := by decide +kernel
theorem dX5_two_46 : decode cX5_two 46 = .ok (.iload 6, 2) := by decide +kernel
theorem dX5_two_48 : decode cX5_two 48 = .ok (.isub, 1) := by decide +kernel
theorem dX5_two_49 : decode cX5_two 49 = .ok (.iload_n 2, 1) := by decide +kernel
theorem dX5_two_50 : decode cX5_two 50 = .ok (.iload 7, 2) := by decide +kernel
theorem dX5_two_52 : decode cX5_two 52 = .ok (.iload_n 3, 1) := by decide +kernel
theorem dX5_two_53 : decode cX5_two 53 = .ok (.invokevirtual 216, 3) := by decide +kernel
theorem dX5_two_56 : decode cX5_two 56 = .ok (.aload_n 0, 1) := by decide +kernel
theorem dX5_two_57 : decode cX5_two 57 = .ok (.iload_n 1, 1) := by decide +kernel
theorem dX5_two_58 : decode cX5_two 58 = .ok (.iload_n 1, 1) := by decide +kernel
theorem dX5_two_59 : decode cX5_two 59 = .ok (.iload 6, 2) := by decide +kernel
theorem dX5_two_61 : decode cX5_two 61 = .ok (.iload_n 2, 1) := by decide +kernel
theorem dX5_two_62 : decode cX5_two 62 = .ok (.iload 7, 2) := by decide +kernel
theorem dX5_two_64 : decode cX5_two 64 = .ok (.iload_n 3, 1) := by decide +kernel
theorem dX5_two_65 : decode cX5_two 65 = .ok (.invokevirtual 216, 3) := by decide +kernel
theorem dX5_two_68 : decode cX5_two 68 = .ok (.if_icmp .lt 41, 3) := by decide +kernel
theorem dX5_two_71 : decode cX5_two 71 = .ok (.aload_n 0, 1) := by decide +kernel
theorem dX5_two_72 : decode cX5_two 72 = .ok (.iload_n 2, 1) := by decide +kernel
theorem dX5_two_73 : decode cX5_two 73 = .ok (.iload_n 1, 1) := by decide +kernel
theorem dX5_two_74 : decode cX5_two 74 = .ok (.iload 6, 2) := by decide +kernel
theorem dX5_two_76 : decode cX5_two 76 = .ok (.iload_n 2, 1) := by decide +kernel
theorem dX5_two_77 : decode cX5_two 77 = .ok (.iconst 1, 1) := by decide +kernel
theorem dX5_two_78 : decode cX5_two 78 = .ok (.iload 7, 2) := by decide +kernel
theorem dX5_two_80 : decode cX5_two 80 = .ok (.isub, 1) := by decide +kernel
theorem dX5_two_81 : decode cX5_two 81 = .ok (.iload_n 3, 1) := by decide +kernel
theorem dX5_two_82 : decode cX5_two 82 = .ok (.invokevirtual 216, 3) := by decide +kernel
theorem dX5_two_85 : decode cX5_two 85 = .ok (.aload_n 0, 1) := by decide +kernel
theorem dX5_two_86 : decode cX5_two 86 = .ok (.iload_n 2, 1) := by decide +kernel
theorem dX5_two_87 : decode cX5_two 87 = .ok (.iload_n 1, 1) := by decide +kernel
theorem dX5_two_88 : decode cX5_two 88 = .ok (.iload 6, 2) := by decide +kernel
theorem dX5_two_90 : decode cX5_two 90 = .ok (.iload_n 2, 1) := by decide +kernel
theorem dX5_two_91 : decode cX5_two 91 = .ok (.iload 7, 2) := by decide +kernel
theorem dX5_two_93 : decode cX5_two 93 = .ok (.iload_n 3, 1) := by decide +kernel
theorem dX5_two_94 : decode cX5_two 94 = .ok (.invokevirtual 216, 3) := by decide +kernel
theorem dX5_two_97 : decode cX5_two 97 = .ok (.if_icmp .lt 12, 3) := by decide +kernel
theorem dX5_two_100 : decode cX5_two 100 = .ok (.bipush 10, 2) := by decide +kernel
theorem dX5_two_102 : decode cX5_two 102 = .ok (.iload 6, 2) := by decide +kernel
theorem dX5_two_104 : decode cX5_two 104 = .ok (.imul, 1) := by decide +kernel
theorem dX5_two_105 : decode cX5_two 105 = .ok (.iload 7, 2) := by decide +kernel
theorem dX5_two_107 : decode cX5_two 107 = .ok (.iadd, 1) := by decide +kernel
theorem dX5_two_108 : decode cX5_two 108 = .ok (.ireturn, 1) := by decide +kernel
theorem dX5_two_109 : decode cX5_two 109 = .ok (.iinc 5 1, 3) := by decide +kernel
theorem dX5_two_112 : decode cX5_two 112 = .ok (.goto (-88), 3) := by decide +kernel
theorem dX5_two_115 : decode cX5_two 115 = .ok (.bipush (-9), 2) := by decide +kernel
theorem dX5_two_117 : decode cX5_two 117 = .ok (.ireturn, 1) := by decide +kernel
theorem dX5_gcd_0 : decode cX5_gcd 0 = .ok (.lload_n 0, 1) := by decide +kernel
theorem dX5_gcd_1 : decode cX5_gcd 1 = .ok (.lstore 4, 2) := by decide +kernel
theorem dX5_gcd_3 : decode cX5_gcd 3 = .ok (.lload_n 2, 1) := by decide +kernel
theorem dX5_gcd_4 : decode cX5_gcd 4 = .ok (.lstore 6, 2) := by decide +kernel
theorem dX5_gcd_6 : decode cX5_gcd 6 = .ok (.lload 6, 2) := by decide +kernel
theorem dX5_gcd_8 : decode cX5_gcd 8 = .ok (.lconst 0, 1) := by decide +kernel
theorem dX5_gcd_9 : decode cX5_gcd 9 = .ok (.lcmp, 1) := by decide +kernel
theorem dX5_gcd_10 : decode cX5_gcd 10 = .ok (.ifCond .eq 21, 3) := by decide +kernel
theorem dX5_gcd_13 : decode cX5_gcd 13 = .ok (.lload 4, 2) := by decide +kernel
theorem dX5_gcd_15 : decode cX5_gcd 15 = .ok (.lload 6, 2) := by decide +kernel
theorem dX5_gcd_17 : decode cX5_gcd 17 = .ok (.lrem, 1) := by decide +kernel
theorem dX5_gcd_18 : decode cX5_gcd 18 = .ok (.lstore 8, 2) := by decide +kernel
theorem dX5_gcd_20 : decode cX5_gcd 20 = .ok (.lload 6, 2) := by decide +kernel
theorem dX5_gcd_22 : decode cX5_gcd 22 = .ok (.lstore 4, 2) := by decide +kernel
theorem dX5_gcd_24 : decode cX5_gcd 24 = .ok (.lload 8, 2) := by decide +kernel
theorem dX5_gcd_26 : decode cX5_gcd 26 = .ok (.lstore 6, 2) := by decide +kernel
theorem dX5_gcd_28 : decode cX5_gcd 28 = .ok (.goto (-22), 3) := by decide +kernel
theorem dX5_gcd_31 : decode cX5_gcd 31 = .ok (.lload 4, 2) := by decide +kernel
theorem dX5_gcd_33 : decode cX5_gcd 33 = .ok (.lreturn, 1) := by decide +kernel
theorem dX5_partOf_0 : decode cX5_partOf 0 = .ok (.lload_n 0, 1) := by decide +kernel
theorem dX5_partOf_1 : decode cX5_partOf 1 = .ok (.lconst 0, 1) := by decide +kernel
theorem dX5_partOf_2 : decode cX5_partOf 2 = .ok (.lcmp, 1) := by decide +kernel
theorem dX5_partOf_3 : decode cX5_partOf 3 = .ok (.ifCond .ne 7, 3) := by decide +kernel
theorem dX5_partOf_6 : decode cX5_partOf 6 = .ok (.iload 4, 2) := by decide +kernel
theorem dX5_partOf_8 : decode cX5_partOf 8 = .ok (.i2l, 1) := by decide +kernel
theorem dX5_partOf_9 : decode cX5_partOf 9 = .ok (.lreturn, 1) := by decide +kernel
theorem dX5_partOf_10 : decode cX5_partOf 10 = .ok (.iload 4, 2) := by decide +kernel
theorem dX5_partOf_12 : decode cX5_partOf 12 = .ok (.ifCond .ne 7, 3) := by decide +kernel
theorem dX5_partOf_15 : decode cX5_partOf 15 = .ok (.lload_n 0, 1) := by decide +kernel
theorem dX5_partOf_16 : decode cX5_partOf 16 = .ok (.goto 4, 3) := by decide +kernel
theorem dX5_partOf_19 : decode cX5_partOf 19 = .ok (.lload_n 2, 1) := by decide +kernel
theorem dX5_partOf_20 : decode cX5_partOf 20 = .ok (.lload_n 0, 1) := by decide +kernel
theorem dX5_partOf_21 : decode cX5_partOf 21 = .ok (.lload_n 2, 1) := by decide +kernel
theorem dX5_partOf_22 : decode cX5_partOf 22 = .ok (.invokestatic 220, 3) := by decide +kernel
theorem dX5_partOf_25 : decode cX5_partOf 25 = .ok (.ldiv, 1) := by decide +kernel
theorem dX5_partOf_26 : decode cX5_partOf 26 = .ok (.lreturn, 1) := by decide +kernel
theorem dX5_draught_0 : decode cX5_draught 0 = .ok (.aload_n 0, 1) := by decide +kernel
theorem dX5_draught_1 : decode cX5_draught 1 = .ok (.iload_n 1, 1) := by decide +kernel
theorem dX5_draught_2 : decode cX5_draught 2 = .ok (.invokevirtual 120, 3) := by decide +kernel
theorem dX5_draught_5 : decode cX5_draught 5 = .ok (.ifCond .ne 9, 3) := by decide +kernel
theorem dX5_draught_8 : decode cX5_draught 8 = .ok (.aload_n 0, 1) := by decide +kernel
theorem dX5_draught_9 : decode cX5_draught 9 = .ok (.iconst (-1), 1) := by decide +kernel
theorem dX5_draught_10 : decode cX5_draught 10 = .ok (.invokevirtual 224, 3) := by decide +kernel
theorem dX5_draught_13 : decode cX5_draught 13 = .ok (.lreturn, 1) := by decide +kernel
theorem dX5_draught_14 : decode cX5_draught 14 = .ok (.iload_n 2, 1) := by decide +kernel
theorem dX5_draught_15 : decode cX5_draught 15 = .ok (.ifCond .lt 13, 3) := by decide +kernel
theorem dX5_draught_18 : decode cX5_draught 18 = .ok (.iload 4, 2) := by decide +kernel
theorem dX5_draught_20 : decode cX5_draught 20 = .ok (.ifCond .lt 8, 3) := by decide +kernel
theorem dX5_draught_23 : decode cX5_draught 23 = .ok (.iload_n 3, 1) := by decide +kernel
theorem dX5_draught_24 : decode cX5_draught 24 = .ok (.iconst 2, 1) := by decide +kernel
theorem dX5_draught_25 : decode cX5_draught 25 = .ok (.if_icmp .ge 10, 3) := by decide +kernel
theorem dX5_draught_28 : decode cX5_draught 28 = .ok (.aload_n 0, 1) := by decide +kernel
theorem dX5_draught_29 : decode cX5_draught 29 = .ok (.bipush (-4), 2) := by decide +kernel
theorem dX5_draught_31 : decode cX5_draught 31 = .ok (.invokevirtual 224, 3) := by decide +kernel
theorem dX5_draught_34 : decode cX5_draught 34 = .ok (.lreturn, 1) := by decide +kernel
theorem dX5_draught_35 : decode cX5_draught 35 = .ok (.iload_n 2, 1) := by decide +kernel
theorem dX5_draught_36 : decode cX5_draught 36 = .ok (.bipush 7, 2) := by decide +kernel
theorem dX5_draught_38 : decode cX5_draught 38 = .ok (.if_icmp .gt 16, 3) := by decide +kernel
theorem dX5_draught_41 : decode cX5_draught 41 = .ok (.iload_n 3, 1) := by decide +kernel
theorem dX5_draught_42 : decode cX5_draught 42 = .ok (.bipush 20, 2) := by decide +kernel
theorem dX5_draught_44 : decode cX5_draught 44 = .ok (.if_icmp .gt 10, 3) := by decide +kernel
theorem dX5_draught_47 : decode cX5_draught 47 = .ok (.iload 4, 2) := by decide +kernel
theorem dX5_draught_49 : decode cX5_draught 49 = .ok (.bipush 99, 2) := by decide +kernel
theorem dX5_draught_51 : decode cX5_draught 51 = .ok (.if_icmp .le 10, 3) := by decide +kernel
theorem dX5_draught_54 : decode cX5_draught 54 = .ok (.aload_n 0, 1) := by decide +kernel
theorem dX5_draught_55 : decode cX5_draught 55 = .ok (.bipush (-6), 2) := by decide +kernel
theorem dX5_draught_57 : decode cX5_draught 57 = .ok (.invokevirtual 224, 3) := by decide +kernel
theorem dX5_draught_60 : decode cX5_draught 60 = .ok (.lreturn, 1) := by decide +kernel
theorem dX5_draught_61 : decode cX5_draught 61 = .ok (.iload 5, 2) := by decide +kernel
theorem dX5_draught_63 : decode cX5_draught 63 = .ok (.iconst 0, 1) := by decide +kernel
theorem dX5_draught_64 : decode cX5_draught 64 = .ok (.iconst 1, 1) := by decide +kernel
theorem dX5_draught_65 : decode cX5_draught 65 = .ok (.invokestatic 44, 3) := by decide +kernel
theorem dX5_draught_68 : decode cX5_draught 68 = .ok (.ifCond .ne 10, 3) := by decide +kernel
theorem dX5_draught_71 : decode cX5_draught 71 = .ok (.aload_n 0, 1) := by decide +kernel
theorem dX5_draught_72 : decode cX5_draught 72 = .ok (.bipush (-2), 2) := by decide +kernel
theorem dX5_draught_74 : decode cX5_draught 74 = .ok (.invokevirtual 224, 3) := by decide +kernel
theorem dX5_draught_77 : decode cX5_draught 77 = .ok (.lreturn, 1) := by decide +kernel
theorem dX5_draught_78 : decode cX5_draught 78 = .ok (.lconst 0, 1) := by decide +kernel
theorem dX5_draught_79 : decode cX5_draught 79 = .ok (.lstore 6, 2) := by decide +kernel
theorem dX5_draught_81 : decode cX5_draught 81 = .ok (.lconst 1, 1) := by decide +kernel
theorem dX5_draught_82 : decode cX5_draught 82 = .ok (.lstore 8, 2) := by decide +kernel
theorem dX5_draught_84 : decode cX5_draught 84 = .ok (.iconst 0, 1) := by decide +kernel
theorem dX5_draught_85 : decode cX5_draught 85 = .ok (.istore 10, 2) := by decide +kernel
theorem dX5_draught_87 : decode cX5_draught 87 = .ok (.iload 10, 2) := by decide +kernel
theorem dX5_draught_89 : decode cX5_draught 89 = .ok (.iload_n 2, 1) := by decide +kernel
theorem dX5_draught_90 : decode cX5_draught 90 = .ok (.if_icmp .ge 16, 3) := by decide +kernel
theorem dX5_draught_93 : decode cX5_draught 93 = .ok (.lload 8, 2) := by decide +kernel
theorem dX5_draught_95 : decode cX5_draught 95 = .ok (.iload_n 3, 1) := by decide +kernel
theorem dX5_draught_96 : decode cX5_draught 96 = .ok (.i2l, 1) := by decide +kernel
theorem dX5_draught_97 : decode cX5_draught 97 = .ok (.lmul, 1) := by decide +kernel
theorem dX5_draught_98 : decode cX5_draught 98 = .ok (.lstore 8, 2) := by decide +kernel
theorem dX5_draught_100 : decode cX5_draught 100 = .ok (.iinc 10 1, 3) := by decide +kernel
theorem dX5_draught_103 : decode cX5_draught 103 = .ok (.goto (-16), 3) := by decide +kernel
theorem dX5_draught_106 : decode cX5_draught 106 = .ok (.iconst 0, 1) := by decide +kernel
theorem dX5_draught_107 : decode cX5_draught 107 = .ok (.istore 10, 2) := by decide +kernel
theorem dX5_draught_109 : decode cX5_draught 109 = .ok (.iload 10, 2) := by decide +kernel
theorem dX5_draught_111 : decode cX5_draught 111 = .ok (.iconst 1, 1) := by decide +kernel
theorem dX5_draught_112 : decode cX5_draught 112 = .ok (.iload_n 2, 1) := by decide +kernel
theorem dX5_draught_113 : decode cX5_draught 113 = .ok (.ishl, 1) := by decide +kernel
theorem dX5_draught_114 : decode cX5_draught 114 = .ok (.if_icmp .ge 144, 3) := by decide +kernel
theorem dX5_draught_117 : decode cX5_draught 117 = .ok (.lconst 1, 1) := by decide +kernel
theorem dX5_draught_118 : decode cX5_draught 118 = .ok (.lstore 11, 2) := by decide +kernel
theorem dX5_draught_120 : decode cX5_draught 120 = .ok (.aload_n 0, 1) := by decide +kernel
theorem dX5_draught_121 : decode cX5_draught 121 = .ok (.getfield 9, 3) := by decide +kernel
theorem dX5_draught_124 : decode cX5_draught 124 = .ok (.aload_n 0, 1) := by decide +kernel
theorem dX5_draught_125 : decode cX5_draught 125 = .ok (.getfield 13, 3) := by decide +kernel
theorem dX5_draught_128 : decode cX5_draught 128 = .ok (.invokestatic 137, 3) := by decide +kernel
theorem dX5_draught_131 : decode cX5_draught 131 = .ok (.iconst 0, 1) := by decide +kernel
theorem dX5_draught_132 : decode cX5_draught 132 = .ok (.istore 13, 2) := by decide +kernel
theorem dX5_draught_134 : decode cX5_draught 134 = .ok (.iload 13, 2) := by decide +kernel
theorem dX5_draught_136 : decode cX5_draught 136 = .ok (.iload_n 2, 1) := by decide +kernel
theorem dX5_draught_137 : decode cX5_draught 137 = .ok (.if_icmp .ge 91, 3) := by decide +kernel
theorem dX5_draught_140 : decode cX5_draught 140 = .ok (.lload 11, 2) := by decide +kernel
theorem dX5_draught_142 : decode cX5_draught 142 = .ok (.iload 10, 2) := by decide +kernel
theorem dX5_draught_144 : decode cX5_draught 144 = .ok (.iload 13, 2) := by decide +kernel
theorem dX5_draught_146 : decode cX5_draught 146 = .ok (.invokestatic 178, 3) := by decide +kernel
theorem dX5_draught_149 : decode cX5_draught 149 = .ok (.ifCond .eq 7, 3) := by decide +kernel
theorem dX5_draught_152 : decode cX5_draught 152 = .ok (.lconst 1, 1) := by decide +kernel
theorem dX5_draught_153 : decode cX5_draught 153 = .ok (.goto 7, 3) := by decide +kernel
theorem dX5_draught_156 : decode cX5_draught 156 = .ok (.iload_n 3, 1) := by decide +kernel
theorem dX5_draught_157 : decode cX5_draught 157 = .ok (.iconst 1, 1) := by decide +kernel
theorem dX5_draught_158 : decode cX5_draught 158 = .ok (.isub, 1) := by decide +kernel
theorem dX5_draught_159 : decode cX5_draught 159 = .ok (.i2l, 1) := by decide +kernel
theorem dX5_draught_160 : decode cX5_draught 160 = .ok (.lmul, 1) := by decide +kernel
theorem dX5_draught_161 : decode cX5_draught 161 = .ok (.lstore 11, 2) := by decide +kernel
theorem dX5_draught_163 : decode cX5_draught 163 = .ok (.iconst 0, 1) := by decide +kernel
theorem dX5_draught_164 : decode cX5_draught 164 = .ok (.istore 14, 2) := by decide +kernel
theorem dX5_draught_166 : decode cX5_draught 166 = .ok (.iload 14, 2) := by decide +kernel
theorem dX5_draught_168 : decode cX5_draught 168 = .ok (.aload_n 0, 1) := by decide +kernel
theorem dX5_draught_169 : decode cX5_draught 169 = .ok (.getfield 13, 3) := by decide +kernel
theorem dX5_draught_172 : decode cX5_draught 172 = .ok (.iconst 0, 1) := by decide +kernel
theorem dX5_draught_173 : decode cX5_draught 173 = .ok (.iaload, 1) := by decide +kernel
theorem dX5_draught_174 : decode cX5_draught 174 = .ok (.if_icmp .ge 41, 3) := by decide +kernel
theorem dX5_draught_177 : decode cX5_draught 177 = .ok (.iload 10, 2) := by decide +kernel
theorem dX5_draught_179 : decode cX5_draught 179 = .ok (.iload 13, 2) := by decide +kernel
theorem dX5_draught_181 : decode cX5_draught 181 = .ok (.invokestatic 178, 3) := by decide +kernel
theorem dX5_draught_184 : decode cX5_draught 184 = .ok (.ifCond .eq 31, 3) := by decide +kernel
theorem dX5_draught_187 : decode cX5_draught 187 = .ok (.aload_n 0, 1) := by decide +kernel
theorem dX5_draught_188 : decode cX5_draught 188 = .ok (.getfield 13, 3) := by decide +kernel
theorem dX5_draught_191 : decode cX5_draught 191 = .ok (.iload 14, 2) := by decide +kernel
theorem dX5_draught_193 : decode cX5_draught 193 = .ok (.aload_n 0, 1) := by decide +kernel
theorem dX5_draught_194 : decode cX5_draught 194 = .ok (.getfield 13, 3) := by decide +kernel
theorem dX5_draught_197 : decode cX5_draught 197 = .ok (.iload 14, 2) := by decide +kernel
theorem dX5_draught_199 : decode cX5_draught 199 = .ok (.iconst 4, 1) := by decide +kernel
theorem dX5_draught_200 : decode cX5_draught 200 = .ok (.invokestatic 48, 3) := by decide +kernel
theorem dX5_draught_203 : decode cX5_draught 203 = .ok (.iaload, 1) := by decide +kernel
theorem dX5_draught_204 : decode cX5_draught 204 = .ok (.iconst 2, 1) := by decide +kernel
theorem dX5_draught_205 : decode cX5_draught 205 = .ok (.idiv, 1) := by decide +kernel
theorem dX5_draught_206 : decode cX5_draught 206 = .ok (.invokestatic 79, 3) := by decide +kernel
theorem dX5_draught_209 : decode cX5_draught 209 = .ok (.iinc 14 1, 3) := by decide +kernel
theorem dX5_draught_212 : decode cX5_draught 212 = .ok (.goto (-46), 3) := by decide +kernel
theorem dX5_draught_215 : decode cX5_draught 215 = .ok (.aload_n 0, 1) := by decide +kernel
theorem dX5_draught_216 : decode cX5_draught 216 = .ok (.getfield 13, 3) := by decide +kernel
theorem dX5_draught_219 : decode cX5_draught 219 = .ok (.invokestatic 83, 3) := by decide +kernel
theorem dX5_draught_222 : decode cX5_draught 222 = .ok (.iinc 13 1, 3) := by decide +kernel
theorem dX5_draught_225 : decode cX5_draught 225 = .ok (.goto (-91), 3) := by decide +kernel
theorem dX5_draught_228 : decode cX5_draught 228 = .ok (.lload 6, 2) := by decide +kernel
theorem dX5_draught_230 : decode cX5_draught 230 = .ok (.aload_n 0, 1) := by decide +kernel
theorem dX5_draught_231 : decode cX5_draught 231 = .ok (.getfield 13, 3) := by decide +kernel
theorem dX5_draught_234 : decode cX5_draught 234 = .ok (.iload_n 1, 1) := by decide +kernel
theorem dX5_draught_235 : decode cX5_draught 235 = .ok (.invokestatic 58, 3) := by decide +kernel
theorem dX5_draught_238 : decode cX5_draught 238 = .ok (.iload 4, 2) := by decide +kernel
theorem dX5_draught_240 : decode cX5_draught 240 = .ok (.if_icmp .gt 8, 3) := by decide +kernel
theorem dX5_draught_243 : decode cX5_draught 243 = .ok (.lload 11, 2) := by decide +kernel
theorem dX5_draught_245 : decode cX5_draught 245 = .ok (.goto 4, 3) := by decide +kernel
theorem dX5_draught_248 : decode cX5_draught 248 = .ok (.lconst 0, 1) := by decide +kernel
theorem dX5_draught_249 : decode cX5_draught 249 = .ok (.ladd, 1) := by decide +kernel
theorem dX5_draught_250 : decode cX5_draught 250 = .ok (.lstore 6, 2) := by decide +kernel
theorem dX5_draught_252 : decode cX5_draught 252 = .ok (.iinc 10 1, 3) := by decide +kernel
theorem dX5_draught_255 : decode cX5_draught 255 = .ok (.goto (-146), 3) := by decide +kernel
theorem dX5_draught_258 : decode cX5_draught 258 = .ok (.lload 6, 2) := by decide +kernel
theorem dX5_draught_260 : decode cX5_draught 260 = .ok (.lload 8, 2) := by decide +kernel
theorem dX5_draught_262 : decode cX5_draught 262 = .ok (.iload 5, 2) := by decide +kernel
theorem dX5_draught_264 : decode cX5_draught 264 = .ok (.invokestatic 228, 3) := by decide +kernel
theorem dX5_draught_267 : decode cX5_draught 267 = .ok (.lreturn, 1) := by decide +kernel
theorem dX5_mean_0 : decode cX5_mean 0 = .ok (.iload_n 1, 1) := by decide +kernel
theorem dX5_mean_1 : decode cX5_mean 1 = .ok (.iconst 0, 1) := by decide +kernel
theorem dX5_mean_2 : decode cX5_mean 2 = .ok (.iconst 1, 1) := by decide +kernel
theorem dX5_mean_3 : decode cX5_mean 3 = .ok (.invokestatic 44, 3) := by decide +kernel
theorem dX5_mean_6 : decode cX5_mean 6 = .ok (.ifCond .eq 25, 3) := by decide +kernel
theorem dX5_mean_9 : decode cX5_mean 9 = .ok (.aload_n 0, 1) := by decide +kernel
theorem dX5_mean_10 : decode cX5_mean 10 = .ok (.getfield 9, 3) := by decide +kernel
theorem dX5_mean_13 : decode cX5_mean 13 = .ok (.invokestatic 148, 3) := by decide +kernel
theorem dX5_mean_16 : decode cX5_mean 16 = .ok (.i2l, 1) := by decide +kernel
theorem dX5_mean_17 : decode cX5_mean 17 = .ok (.aload_n 0, 1) := by decide +kernel
theorem dX5_mean_18 : decode cX5_mean 18 = .ok (.getfield 9, 3) := by decide +kernel
theorem dX5_mean_21 : decode cX5_mean 21 = .ok (.iconst 0, 1) := by decide +kernel
theorem dX5_mean_22 : decode cX5_mean 22 = .ok (.iaload, 1) := by decide +kernel
theorem dX5_mean_23 : decode cX5_mean 23 = .ok (.i2l, 1) := by decide +kernel
theorem dX5_mean_24 : decode cX5_mean 24 = .ok (.iload_n 1, 1) := by decide +kernel
theorem dX5_mean_25 : decode cX5_mean 25 = .ok (.invokestatic 228, 3) := by decide +kernel
theorem dX5_mean_28 : decode cX5_mean 28 = .ok (.goto 9, 3) := by decide +kernel
theorem dX5_mean_31 : decode cX5_mean 31 = .ok (.aload_n 0, 1) := by decide +kernel
theorem dX5_mean_32 : decode cX5_mean 32 = .ok (.bipush (-2), 2) := by decide +kernel
theorem dX5_mean_34 : decode cX5_mean 34 = .ok (.invokevirtual 224, 3) := by decide +kernel
theorem dX5_mean_37 : decode cX5_mean 37 = .ok (.lreturn, 1) := by decide +kernel
theorem dX5_isHeatSo_0 : decode cX5_isHeatSo 0 = .ok (.iconst 1, 1) := by decide +kernel
theorem dX5_isHeatSo_1 : decode cX5_isHeatSo 1 = .ok (.istore_n 2, 1) := by decide +kernel
theorem dX5_isHeatSo_2 : decode cX5_isHeatSo 2 = .ok (.iconst 0, 1) := by decide +kernel
theorem dX5_isHeatSo_3 : decode cX5_isHeatSo 3 = .ok (.istore_n 3, 1) := by decide +kernel
theorem dX5_isHeatSo_4 : decode cX5_isHeatSo 4 = .ok (.iload_n 3, 1) := by decide +kernel
theorem dX5_isHeatSo_5 : decode cX5_isHeatSo 5 = .ok (.aload_n 0, 1) := by decide +kernel
theorem dX5_isHeatSo_6 : decode cX5_isHeatSo 6 = .ok (.getfield 188, 3) := by decide +kernel
theorem dX5_isHeatSo_9 : decode cX5_isHeatSo 9 = .ok (.if_icmp .ge 43, 3) := by decide +kernel
theorem dX5_isHeatSo_12 : decode cX5_isHeatSo 12 = .ok (.iload_n 2, 1) := by decide +kernel
theorem dX5_isHeatSo_13 : decode cX5_isHeatSo 13 = .ok (.aload_n 0, 1) := by decide +kernel
theorem dX5_isHeatSo_14 : decode cX5_isHeatSo 14 = .ok (.getfield 13, 3) := by decide +kernel
theorem dX5_isHeatSo_17 : decode cX5_isHeatSo 17 = .ok (.iload_n 1, 1) := by decide +kernel
theorem dX5_isHeatSo_18 : decode cX5_isHeatSo 18 = .ok (.iconst 4, 1) := by decide +kernel
theorem dX5_isHeatSo_19 : decode cX5_isHeatSo 19 = .ok (.invokestatic 48, 3) := by decide +kernel
theorem dX5_isHeatSo_22 : decode cX5_isHeatSo 22 = .ok (.iaload, 1) := by decide +kernel
theorem dX5_isHeatSo_23 : decode cX5_isHeatSo 23 = .ok (.aload_n 0, 1) := by decide +kernel
theorem dX5_isHeatSo_24 : decode cX5_isHeatSo 24 = .ok (.getfield 25, 3) := by decide +kernel
theorem dX5_isHeatSo_27 : decode cX5_isHeatSo 27 = .ok (.iload_n 3, 1) := by decide +kernel
theorem dX5_isHeatSo_28 : decode cX5_isHeatSo 28 = .ok (.iaload, 1) := by decide +kernel
theorem dX5_isHeatSo_29 : decode cX5_isHeatSo 29 = .ok (.if_icmp .ne 7, 3) := by decide +kernel
theorem dX5_isHeatSo_32 : decode cX5_isHeatSo 32 = .ok (.iconst 1, 1) := by decide +kernel
theorem dX5_isHeatSo_33 : decode cX5_isHeatSo 33 = .ok (.goto 4, 3) := by decide +kernel
theorem dX5_isHeatSo_36 : decode cX5_isHeatSo 36 = .ok (.iconst 0, 1) := by decide +kernel
theorem dX5_isHeatSo_37 : decode cX5_isHeatSo 37 = .ok (.iand, 1) := by decide +kernel
theorem dX5_isHeatSo_38 : decode cX5_isHeatSo 38 = .ok (.istore_n 2, 1) := by decide +kernel
theorem dX5_isHeatSo_39 : decode cX5_isHeatSo 39 = .ok (.aload_n 0, 1) := by decide +kernel
theorem dX5_isHeatSo_40 : decode cX5_isHeatSo 40 = .ok (.getfield 13, 3) := by decide +kernel
theorem dX5_isHeatSo_43 : decode cX5_isHeatSo 43 = .ok (.invokestatic 83, 3) := by decide +kernel
theorem dX5_isHeatSo_46 : decode cX5_isHeatSo 46 = .ok (.iinc 3 1, 3) := by decide +kernel
theorem dX5_isHeatSo_49 : decode cX5_isHeatSo 49 = .ok (.goto (-45), 3) := by decide +kernel
theorem dX5_isHeatSo_52 : decode cX5_isHeatSo 52 = .ok (.iload_n 2, 1) := by decide +kernel
theorem dX5_isHeatSo_53 : decode cX5_isHeatSo 53 = .ok (.ireturn, 1) := by decide +kernel
theorem dX5_who_0 : decode cX5_who 0 = .ok (.aload_n 0, 1) := by decide +kernel
theorem dX5_who_1 : decode cX5_who 1 = .ok (.iload_n 1, 1) := by decide +kernel
theorem dX5_who_2 : decode cX5_who 2 = .ok (.invokevirtual 120, 3) := by decide +kernel
theorem dX5_who_5 : decode cX5_who 5 = .ok (.ifCond .ne 9, 3) := by decide +kernel
theorem dX5_who_8 : decode cX5_who 8 = .ok (.aload_n 0, 1) := by decide +kernel
theorem dX5_who_9 : decode cX5_who 9 = .ok (.iconst (-1), 1) := by decide +kernel
theorem dX5_who_10 : decode cX5_who 10 = .ok (.invokevirtual 38, 3) := by decide +kernel
theorem dX5_who_13 : decode cX5_who 13 = .ok (.ireturn, 1) := by decide +kernel
theorem dX5_who_14 : decode cX5_who 14 = .ok (.iconst 0, 1) := by decide +kernel
theorem dX5_who_15 : decode cX5_who 15 = .ok (.istore_n 2, 1) := by decide +kernel
theorem dX5_who_16 : decode cX5_who 16 = .ok (.iconst 0, 1) := by decide +kernel
theorem dX5_who_17 : decode cX5_who 17 = .ok (.istore_n 3, 1) := by decide +kernel
theorem dX5_who_18 : decode cX5_who 18 = .ok (.iload_n 3, 1) := by decide +kernel
theorem dX5_who_19 : decode cX5_who 19 = .ok (.aload_n 0, 1) := by decide +kernel
theorem dX5_who_20 : decode cX5_who 20 = .ok (.getfield 9, 3) := by decide +kernel
theorem dX5_who_23 : decode cX5_who 23 = .ok (.iconst 1, 1) := by decide +kernel
theorem dX5_who_24 : decode cX5_who 24 = .ok (.iaload, 1) := by decide +kernel
theorem dX5_who_25 : decode cX5_who 25 = .ok (.if_icmp .ge 63, 3) := by decide +kernel
theorem dX5_who_28 : decode cX5_who 28 = .ok (.aload_n 0, 1) := by decide +kernel
theorem dX5_who_29 : decode cX5_who 29 = .ok (.getfield 9, 3) := by decide +kernel
theorem dX5_who_32 : decode cX5_who 32 = .ok (.aload_n 0, 1) := by decide +kernel
theorem dX5_who_33 : decode cX5_who 33 = .ok (.getfield 13, 3) := by decide +kernel
theorem dX5_who_36 : decode cX5_who 36 = .ok (.invokestatic 137, 3) := by decide +kernel
theorem dX5_who_39 : decode cX5_who 39 = .ok (.aload_n 0, 1) := by decide +kernel
theorem dX5_who_40 : decode cX5_who 40 = .ok (.getfield 13, 3) := by decide +kernel
theorem dX5_who_43 : decode cX5_who 43 = .ok (.iload_n 1, 1) := by decide +kernel
theorem dX5_who_44 : decode cX5_who 44 = .ok (.aload_n 0, 1) := by decide +kernel
theorem dX5_who_45 : decode cX5_who 45 = .ok (.getfield 13, 3) := by decide +kernel
theorem dX5_who_48 : decode cX5_who 48 = .ok (.iload_n 1, 1) := by decide +kernel
theorem dX5_who_49 : decode cX5_who 49 = .ok (.aload_n 0, 1) := by decide +kernel
theorem dX5_who_50 : decode cX5_who 50 = .ok (.getfield 13, 3) := by decide +kernel
theorem dX5_who_53 : decode cX5_who 53 = .ok (.iload_n 3, 1) := by decide +kernel
theorem dX5_who_54 : decode cX5_who 54 = .ok (.invokestatic 62, 3) := by decide +kernel
theorem dX5_who_57 : decode cX5_who 57 = .ok (.invokestatic 65, 3) := by decide +kernel
theorem dX5_who_60 : decode cX5_who 60 = .ok (.iload_n 3, 1) := by decide +kernel
theorem dX5_who_61 : decode cX5_who 61 = .ok (.invokestatic 69, 3) := by decide +kernel
theorem dX5_who_64 : decode cX5_who 64 = .ok (.iload_n 2, 1) := by decide +kernel
theorem dX5_who_65 : decode cX5_who 65 = .ok (.aload_n 0, 1) := by decide +kernel
theorem dX5_who_66 : decode cX5_who 66 = .ok (.iload_n 1, 1) := by decide +kernel
theorem dX5_who_67 : decode cX5_who 67 = .ok (.invokevirtual 232, 3) := by decide +kernel
theorem dX5_who_70 : decode cX5_who 70 = .ok (.ifCond .eq 9, 3) := by decide +kernel
theorem dX5_who_73 : decode cX5_who 73 = .ok (.iconst 1, 1) := by decide +kernel
theorem dX5_who_74 : decode cX5_who 74 = .ok (.iload_n 3, 1) := by decide +kernel
theorem dX5_who_75 : decode cX5_who 75 = .ok (.ishl, 1) := by decide +kernel
theorem dX5_who_76 : decode cX5_who 76 = .ok (.goto 4, 3) := by decide +kernel
theorem dX5_who_79 : decode cX5_who 79 = .ok (.iconst 0, 1) := by decide +kernel
theorem dX5_who_80 : decode cX5_who 80 = .ok (.ior, 1) := by decide +kernel
theorem dX5_who_81 : decode cX5_who 81 = .ok (.istore_n 2, 1) := by decide +kernel
theorem dX5_who_82 : decode cX5_who 82 = .ok (.iinc 3 1, 3) := by decide +kernel
theorem dX5_who_85 : decode cX5_who 85 = .ok (.goto (-67), 3) := by decide +kernel
theorem dX5_who_88 : decode cX5_who 88 = .ok (.iload_n 2, 1) := by decide +kernel
theorem dX5_who_89 : decode cX5_who 89 = .ok (.ireturn, 1) := by decide +kernel
theorem dX5_whatIs_0 : decode cX5_whatIs 0 = .ok (.aload_n 0, 1) := by decide +kernel
theorem dX5_whatIs_1 : decode cX5_whatIs 1 = .ok (.iload_n 1, 1) := by decide +kernel
theorem dX5_whatIs_2 : decode cX5_whatIs 2 = .ok (.invokevirtual 120, 3) := by decide +kernel
theorem dX5_whatIs_5 : decode cX5_whatIs 5 = .ok (.ifCond .ne 9, 3) := by decide +kernel
theorem dX5_whatIs_8 : decode cX5_whatIs 8 = .ok (.aload_n 0, 1) := by decide +kernel
theorem dX5_whatIs_9 : decode cX5_whatIs 9 = .ok (.iconst (-1), 1) := by decide +kernel
theorem dX5_whatIs_10 : decode cX5_whatIs 10 = .ok (.invokevirtual 38, 3) := by decide +kernel
theorem dX5_whatIs_13 : decode cX5_whatIs 13 = .ok (.ireturn, 1) := by decide +kernel
theorem dX5_whatIs_14 : decode cX5_whatIs 14 = .ok (.iload_n 2, 1) := by decide +kernel
theorem dX5_whatIs_15 : decode cX5_whatIs 15 = .ok (.iconst 0, 1) := by decide +kernel
theorem dX5_whatIs_16 : decode cX5_whatIs 16 = .ok (.iconst 1, 1) := by decide +kernel
theorem dX5_whatIs_17 : decode cX5_whatIs 17 = .ok (.invokestatic 44, 3) := by decide +kernel
theorem dX5_whatIs_20 : decode cX5_whatIs 20 = .ok (.ifCond .ne 10, 3) := by decide +kernel
theorem dX5_whatIs_23 : decode cX5_whatIs 23 = .ok (.aload_n 0, 1) := by decide +kernel
theorem dX5_whatIs_24 : decode cX5_whatIs 24 = .ok (.bipush (-2), 2) := by decide +kernel
theorem dX5_whatIs_26 : decode cX5_whatIs 26 = .ok (.invokevirtual 38, 3) := by decide +kernel
theorem dX5_whatIs_29 : decode cX5_whatIs 29 = .ok (.ireturn, 1) := by decide +kernel
theorem dX5_whatIs_30 : decode cX5_whatIs 30 = .ok (.iconst 0, 1) := by decide +kernel
theorem dX5_whatIs_31 : decode cX5_whatIs 31 = .ok (.istore_n 3, 1) := by decide +kernel
theorem dX5_whatIs_32 : decode cX5_whatIs 32 = .ok (.iconst 0, 1) := by decide +kernel
theorem dX5_whatIs_33 : decode cX5_whatIs 33 = .ok (.istore 4, 2) := by decide +kernel
theorem dX5_whatIs_35 : decode cX5_whatIs 35 = .ok (.iload 4, 2) := by decide +kernel
theorem dX5_whatIs_37 : decode cX5_whatIs 37 = .ok (.iload_n 2, 1) := by decide +kernel
theorem dX5_whatIs_38 : decode cX5_whatIs 38 = .ok (.ifCond .ne 8, 3) := by decide +kernel
theorem dX5_whatIs_41 : decode cX5_whatIs 41 = .ok (.bipush 6, 2) := by decide +kernel
theorem dX5_whatIs_43 : decode cX5_whatIs 43 = .ok (.goto 5, 3) := by decide +kernel
theorem dX5_whatIs_46 : decode cX5_whatIs 46 = .ok (.bipush 10, 2) := by decide +kernel
theorem dX5_whatIs_48 : decode cX5_whatIs 48 = .ok (.if_icmp .ge 51, 3) := by decide +kernel
theorem dX5_whatIs_51 : decode cX5_whatIs 51 = .ok (.aload_n 0, 1) := by decide +kernel
theorem dX5_whatIs_52 : decode cX5_whatIs 52 = .ok (.getfield 9, 3) := by decide +kernel
theorem dX5_whatIs_55 : decode cX5_whatIs 55 = .ok (.aload_n 0, 1) := by decide +kernel
theorem dX5_whatIs_56 : decode cX5_whatIs 56 = .ok (.getfield 13, 3) := by decide +kernel
theorem dX5_whatIs_59 : decode cX5_whatIs 59 = .ok (.invokestatic 137, 3) := by decide +kernel
theorem dX5_whatIs_62 : decode cX5_whatIs 62 = .ok (.aload_n 0, 1) := by decide +kernel
theorem dX5_whatIs_63 : decode cX5_whatIs 63 = .ok (.getfield 13, 3) := by decide +kernel
theorem dX5_whatIs_66 : decode cX5_whatIs 66 = .ok (.iload_n 1, 1) := by decide +kernel
theorem dX5_whatIs_67 : decode cX5_whatIs 67 = .ok (.iload_n 2, 1) := by decide +kernel
theorem dX5_whatIs_68 : decode cX5_whatIs 68 = .ok (.invokestatic 48, 3) := by decide +kernel
theorem dX5_whatIs_71 : decode cX5_whatIs 71 = .ok (.iload 4, 2) := by decide +kernel
theorem dX5_whatIs_73 : decode cX5_whatIs 73 = .ok (.iastore, 1) := by decide +kernel
theorem dX5_whatIs_74 : decode cX5_whatIs 74 = .ok (.iload_n 3, 1) := by decide +kernel
theorem dX5_whatIs_75 : decode cX5_whatIs 75 = .ok (.aload_n 0, 1) := by decide +kernel
theorem dX5_whatIs_76 : decode cX5_whatIs 76 = .ok (.iload_n 1, 1) := by decide +kernel
theorem dX5_whatIs_77 : decode cX5_whatIs 77 = .ok (.invokevirtual 232, 3) := by decide +kernel
theorem dX5_whatIs_80 : decode cX5_whatIs 80 = .ok (.ifCond .eq 10, 3) := by decide +kernel
theorem dX5_whatIs_83 : decode cX5_whatIs 83 = .ok (.iconst 1, 1) := by decide +kernel
theorem dX5_whatIs_84 : decode cX5_whatIs 84 = .ok (.iload 4, 2) := by decide +kernel
theorem dX5_whatIs_86 : decode cX5_whatIs 86 = .ok (.ishl, 1) := by decide +kernel
theorem dX5_whatIs_87 : decode cX5_whatIs 87 = .ok (.goto 4, 3) := by decide +kernel
theorem dX5_whatIs_90 : decode cX5_whatIs 90 = .ok (.iconst 0, 1) := by decide +kernel
theorem dX5_whatIs_91 : decode cX5_whatIs 91 = .ok (.ior, 1) := by decide +kernel
theorem dX5_whatIs_92 : decode cX5_whatIs 92 = .ok (.istore_n 3, 1) := by decide +kernel
theorem dX5_whatIs_93 : decode cX5_whatIs 93 = .ok (.iinc 4 1, 3) := by decide +kernel
theorem dX5_whatIs_96 : decode cX5_whatIs 96 = .ok (.goto (-61), 3) := by decide +kernel
theorem dX5_whatIs_99 : decode cX5_whatIs 99 = .ok (.iload_n 3, 1) := by decide +kernel
theorem dX5_whatIs_100 : decode cX5_whatIs 100 = .ok (.ireturn, 1) := by decide +kernel
theorem dX5_row_0 : decode cX5_row 0 = .ok (.iload_n 1, 1) := by decide +kernel
theorem dX5_row_1 : decode cX5_row 1 = .ok (.iconst 0, 1) := by decide +kernel
theorem dX5_row_2 : decode cX5_row 2 = .ok (.bipush 99, 2) := by decide +kernel
theorem dX5_row_4 : decode cX5_row 4 = .ok (.invokestatic 144, 3) := by decide +kernel
theorem dX5_row_7 : decode cX5_row 7 = .ok (.istore_n 2, 1) := by decide +kernel
theorem dX5_row_8 : decode cX5_row 8 = .ok (.iload_n 2, 1) := by decide +kernel
theorem dX5_row_9 : decode cX5_row 9 = .ok (.ifCond .ne 15, 3) := by decide +kernel
theorem dX5_row_12 : decode cX5_row 12 = .ok (.aload_n 0, 1) := by decide +kernel
theorem dX5_row_13 : decode cX5_row 13 = .ok (.getfield 188, 3) := by decide +kernel
theorem dX5_row_16 : decode cX5_row 16 = .ok (.bipush 16, 2) := by decide +kernel
theorem dX5_row_18 : decode cX5_row 18 = .ok (.if_icmp .ne 6, 3) := by decide +kernel
theorem dX5_row_21 : decode cX5_row 21 = .ok (.bipush (-6), 2) := by decide +kernel
theorem dX5_row_23 : decode cX5_row 23 = .ok (.istore_n 2, 1) := by decide +kernel
theorem dX5_row_24 : decode cX5_row 24 = .ok (.iload_n 2, 1) := by decide +kernel
theorem dX5_row_25 : decode cX5_row 25 = .ok (.ifCond .eq 9, 3) := by decide +kernel
theorem dX5_row_28 : decode cX5_row 28 = .ok (.aload_n 0, 1) := by decide +kernel
theorem dX5_row_29 : decode cX5_row 29 = .ok (.iload_n 2, 1) := by decide +kernel
theorem dX5_row_30 : decode cX5_row 30 = .ok (.invokevirtual 38, 3) := by decide +kernel
theorem dX5_row_33 : decode cX5_row 33 = .ok (.ireturn, 1) := by decide +kernel
theorem dX5_row_34 : decode cX5_row 34 = .ok (.aload_n 0, 1) := by decide +kernel
theorem dX5_row_35 : decode cX5_row 35 = .ok (.getfield 25, 3) := by decide +kernel
theorem dX5_row_38 : decode cX5_row 38 = .ok (.aload_n 0, 1) := by decide +kernel
theorem dX5_row_39 : decode cX5_row 39 = .ok (.getfield 188, 3) := by decide +kernel
theorem dX5_row_42 : decode cX5_row 42 = .ok (.iload_n 1, 1) := by decide +kernel
theorem dX5_row_43 : decode cX5_row 43 = .ok (.iastore, 1) := by decide +kernel
theorem dX5_row_44 : decode cX5_row 44 = .ok (.aload_n 0, 1) := by decide +kernel
theorem dX5_row_45 : decode cX5_row 45 = .ok (.dup, 1) := by decide +kernel
theorem dX5_row_46 : decode cX5_row 46 = .ok (.getfield 188, 3) := by decide +kernel
theorem dX5_row_49 : decode cX5_row 49 = .ok (.iconst 1, 1) := by decide +kernel
theorem dX5_row_50 : decode cX5_row 50 = .ok (.iadd, 1) := by decide +kernel
theorem dX5_row_51 : decode cX5_row 51 = .ok (.putfield 188, 3) := by decide +kernel
theorem dX5_row_54 : decode cX5_row 54 = .ok (.aload_n 0, 1) := by decide +kernel
theorem dX5_row_55 : decode cX5_row 55 = .ok (.getfield 188, 3) := by decide +kernel
theorem dX5_row_58 : decode cX5_row 58 = .ok (.ireturn, 1) := by decide +kernel
theorem dX5_judge_0 : decode cX5_judge 0 = .ok (.aload_n 0, 1) := by decide +kernel
theorem dX5_judge_1 : decode cX5_judge 1 = .ok (.getfield 188, 3) := by decide +kernel
theorem dX5_judge_4 : decode cX5_judge 4 = .ok (.istore_n 1, 1) := by decide +kernel
theorem dX5_judge_5 : decode cX5_judge 5 = .ok (.aload_n 0, 1) := by decide +kernel
theorem dX5_judge_6 : decode cX5_judge 6 = .ok (.iconst 0, 1) := by decide +kernel
theorem dX5_judge_7 : decode cX5_judge 7 = .ok (.putfield 188, 3) := by decide +kernel
theorem dX5_judge_10 : decode cX5_judge 10 = .ok (.iconst 0, 1) := by decide +kernel
theorem dX5_judge_11 : decode cX5_judge 11 = .ok (.istore_n 2, 1) := by decide +kernel
theorem dX5_judge_12 : decode cX5_judge 12 = .ok (.iload_n 2, 1) := by decide +kernel
theorem dX5_judge_13 : decode cX5_judge 13 = .ok (.iload_n 1, 1) := by decide +kernel
theorem dX5_judge_14 : decode cX5_judge 14 = .ok (.if_icmp .ge 36, 3) := by decide +kernel
theorem dX5_judge_17 : decode cX5_judge 17 = .ok (.aload_n 0, 1) := by decide +kernel
theorem dX5_judge_18 : decode cX5_judge 18 = .ok (.iload_n 2, 1) := by decide +kernel
theorem dX5_judge_19 : decode cX5_judge 19 = .ok (.invokevirtual 120, 3) := by decide +kernel
theorem dX5_judge_22 : decode cX5_judge 22 = .ok (.ifCond .eq 20, 3) := by decide +kernel
theorem dX5_judge_25 : decode cX5_judge 25 = .ok (.aload_n 0, 1) := by decide +kernel
theorem dX5_judge_26 : decode cX5_judge 26 = .ok (.getfield 9, 3) := by decide +kernel
theorem dX5_judge_29 : decode cX5_judge 29 = .ok (.iload_n 2, 1) := by decide +kernel
theorem dX5_judge_30 : decode cX5_judge 30 = .ok (.invokestatic 58, 3) := by decide +kernel
theorem dX5_judge_33 : decode cX5_judge 33 = .ok (.aload_n 0, 1) := by decide +kernel
theorem dX5_judge_34 : decode cX5_judge 34 = .ok (.getfield 25, 3) := by decide +kernel
theorem dX5_judge_37 : decode cX5_judge 37 = .ok (.iload_n 2, 1) := by decide +kernel
theorem dX5_judge_38 : decode cX5_judge 38 = .ok (.iaload, 1) := by decide +kernel
theorem dX5_judge_39 : decode cX5_judge 39 = .ok (.if_icmp .eq 5, 3) := by decide +kernel
theorem dX5_judge_42 : decode cX5_judge 42 = .ok (.iload_n 2, 1) := by decide +kernel
theorem dX5_judge_43 : decode cX5_judge 43 = .ok (.ireturn, 1) := by decide +kernel
theorem dX5_judge_44 : decode cX5_judge 44 = .ok (.iinc 2 1, 3) := by decide +kernel
theorem dX5_judge_47 : decode cX5_judge 47 = .ok (.goto (-35), 3) := by decide +kernel
theorem dX5_judge_50 : decode cX5_judge 50 = .ok (.bipush (-9), 2) := by decide +kernel
theorem dX5_judge_52 : decode cX5_judge 52 = .ok (.ireturn, 1) := by decide +kernel
theorem dX5_clear_0 : decode cX5_clear 0 = .ok (.aload_n 0, 1) := by decide +kernel
theorem dX5_clear_1 : decode cX5_clear 1 = .ok (.getfield 188, 3) := by decide +kernel
theorem dX5_clear_4 : decode cX5_clear 4 = .ok (.istore_n 1, 1) := by decide +kernel
theorem dX5_clear_5 : decode cX5_clear 5 = .ok (.aload_n 0, 1) := by decide +kernel
theorem dX5_clear_6 : decode cX5_clear 6 = .ok (.iconst 0, 1) := by decide +kernel
theorem dX5_clear_7 : decode cX5_clear 7 = .ok (.putfield 188, 3) := by decide +kernel
theorem dX5_clear_10 : decode cX5_clear 10 = .ok (.iload_n 1, 1) := by decide +kernel
theorem dX5_clear_11 : decode cX5_clear 11 = .ok (.ireturn, 1) := by decide +kernel
theorem dX5_drawn_0 : decode cX5_drawn 0 = .ok (.aload_n 0, 1) := by decide +kernel
theorem dX5_drawn_1 : decode cX5_drawn 1 = .ok (.aload_n 0, 1) := by decide +kernel
theorem dX5_drawn_2 : decode cX5_drawn 2 = .ok (.getfield 235, 3) := by decide +kernel
theorem dX5_drawn_5 : decode cX5_drawn 5 = .ok (.ldc 238, 2) := by decide +kernel
theorem dX5_drawn_7 : decode cX5_drawn 7 = .ok (.imul, 1) := by decide +kernel
theorem dX5_drawn_8 : decode cX5_drawn 8 = .ok (.ldc 239, 2) := by decide +kernel
theorem dX5_drawn_10 : decode cX5_drawn 10 = .ok (.iadd, 1) := by decide +kernel
theorem dX5_drawn_11 : decode cX5_drawn 11 = .ok (.putfield 235, 3) := by decide +kernel
theorem dX5_drawn_14 : decode cX5_drawn 14 = .ok (.aload_n 0, 1) := by decide +kernel
theorem dX5_drawn_15 : decode cX5_drawn 15 = .ok (.getfield 235, 3) := by decide +kernel
theorem dX5_drawn_18 : decode cX5_drawn 18 = .ok (.ldc 240, 2) := by decide +kernel
theorem dX5_drawn_20 : decode cX5_drawn 20 = .ok (.iand, 1) := by decide +kernel
theorem dX5_drawn_21 : decode cX5_drawn 21 = .ok (.sipush 256, 3) := by decide +kernel
theorem dX5_drawn_24 : decode cX5_drawn 24 = .ok (.idiv, 1) := by decide +kernel
theorem dX5_drawn_25 : decode cX5_drawn 25 = .ok (.iload_n 1, 1) := by decide +kernel
theorem dX5_drawn_26 : decode cX5_drawn 26 = .ok (.irem, 1) := by decide +kernel
theorem dX5_drawn_27 : decode cX5_drawn 27 = .ok (.ireturn, 1) := by decide +kernel
theorem dX5_lots_0 : decode cX5_lots 0 = .ok (.iload_n 1, 1) := by decide +kernel
theorem dX5_lots_1 : decode cX5_lots 1 = .ok (.iconst 1, 1) := by decide +kernel
theorem dX5_lots_2 : decode cX5_lots 2 = .ok (.if_icmp .ge 10, 3) := by decide +kernel
theorem dX5_lots_5 : decode cX5_lots 5 = .ok (.aload_n 0, 1) := by decide +kernel
theorem dX5_lots_6 : decode cX5_lots 6 = .ok (.bipush (-4), 2) := by decide +kernel
theorem dX5_lots_8 : decode cX5_lots 8 = .ok (.invokevirtual 38, 3) := by decide +kernel
theorem dX5_lots_11 : decode cX5_lots 11 = .ok (.ireturn, 1) := by decide +kernel
theorem dX5_lots_12 : decode cX5_lots 12 = .ok (.iload_n 1, 1) := by decide +kernel
theorem dX5_lots_13 : decode cX5_lots 13 = .ok (.bipush 20, 2) := by decide +kernel
theorem dX5_lots_15 : decode cX5_lots 15 = .ok (.if_icmp .le 10, 3) := by decide +kernel
theorem dX5_lots_18 : decode cX5_lots 18 = .ok (.aload_n 0, 1) := by decide +kernel
theorem dX5_lots_19 : decode cX5_lots 19 = .ok (.bipush (-6), 2) := by decide +kernel
theorem dX5_lots_21 : decode cX5_lots 21 = .ok (.invokevirtual 38, 3) := by decide +kernel
theorem dX5_lots_24 : decode cX5_lots 24 = .ok (.ireturn, 1) := by decide +kernel
theorem dX5_lots_25 : decode cX5_lots 25 = .ok (.iload_n 3, 1) := by decide +kernel
theorem dX5_lots_26 : decode cX5_lots 26 = .ok (.iconst 0, 1) := by decide +kernel
theorem dX5_lots_27 : decode cX5_lots 27 = .ok (.iconst 1, 1) := by decide +kernel
theorem dX5_lots_28 : decode cX5_lots 28 = .ok (.invokestatic 44, 3) := by decide +kernel
theorem dX5_lots_31 : decode cX5_lots 31 = .ok (.ifCond .ne 10, 3) := by decide +kernel
theorem dX5_lots_34 : decode cX5_lots 34 = .ok (.aload_n 0, 1) := by decide +kernel
theorem dX5_lots_35 : decode cX5_lots 35 = .ok (.bipush (-2), 2) := by decide +kernel
theorem dX5_lots_37 : decode cX5_lots 37 = .ok (.invokevirtual 38, 3) := by decide +kernel
theorem dX5_lots_40 : decode cX5_lots 40 = .ok (.ireturn, 1) := by decide +kernel
theorem dX5_lots_41 : decode cX5_lots 41 = .ok (.aload_n 0, 1) := by decide +kernel
theorem dX5_lots_42 : decode cX5_lots 42 = .ok (.getfield 9, 3) := by decide +kernel
theorem dX5_lots_45 : decode cX5_lots 45 = .ok (.iconst 1, 1) := by decide +kernel
theorem dX5_lots_46 : decode cX5_lots 46 = .ok (.iaload, 1) := by decide +kernel
theorem dX5_lots_47 : decode cX5_lots 47 = .ok (.ifCond .eq 12, 3) := by decide +kernel
theorem dX5_lots_50 : decode cX5_lots 50 = .ok (.aload_n 0, 1) := by decide +kernel
theorem dX5_lots_51 : decode cX5_lots 51 = .ok (.getfield 9, 3) := by decide +kernel
theorem dX5_lots_54 : decode cX5_lots 54 = .ok (.iconst 0, 1) := by decide +kernel
theorem dX5_lots_55 : decode cX5_lots 55 = .ok (.iaload, 1) := by decide +kernel
theorem dX5_lots_56 : decode cX5_lots 56 = .ok (.ifCond .ne 10, 3) := by decide +kernel
theorem dX5_lots_59 : decode cX5_lots 59 = .ok (.aload_n 0, 1) := by decide +kernel
theorem dX5_lots_60 : decode cX5_lots 60 = .ok (.bipush (-3), 2) := by decide +kernel
theorem dX5_lots_62 : decode cX5_lots 62 = .ok (.invokevirtual 38, 3) := by decide +kernel
theorem dX5_lots_65 : decode cX5_lots 65 = .ok (.ireturn, 1) := by decide +kernel
theorem dX5_lots_66 : decode cX5_lots 66 = .ok (.aload_n 0, 1) := by decide +kernel
theorem dX5_lots_67 : decode cX5_lots 67 = .ok (.iload_n 2, 1) := by decide +kernel
theorem dX5_lots_68 : decode cX5_lots 68 = .ok (.putfield 235, 3) := by decide +kernel
theorem dX5_lots_71 : decode cX5_lots 71 = .ok (.iconst 0, 1) := by decide +kernel
theorem dX5_lots_72 : decode cX5_lots 72 = .ok (.istore 4, 2) := by decide +kernel
theorem dX5_lots_74 : decode cX5_lots 74 = .ok (.iconst 0, 1) := by decide +kernel
theorem dX5_lots_75 : decode cX5_lots 75 = .ok (.istore 5, 2) := by decide +kernel
theorem dX5_lots_77 : decode cX5_lots 77 = .ok (.iload 5, 2) := by decide +kernel
theorem dX5_lots_79 : decode cX5_lots 79 = .ok (.iload_n 1, 1) := by decide +kernel
theorem dX5_lots_80 : decode cX5_lots 80 = .ok (.if_icmp .ge 127, 3) := by decide +kernel
theorem dX5_lots_83 : decode cX5_lots 83 = .ok (.aload_n 0, 1) := by decide +kernel
theorem dX5_lots_84 : decode cX5_lots 84 = .ok (.getfield 9, 3) := by decide +kernel
theorem dX5_lots_87 : decode cX5_lots 87 = .ok (.aload_n 0, 1) := by decide +kernel
theorem dX5_lots_88 : decode cX5_lots 88 = .ok (.getfield 13, 3) := by decide +kernel
theorem dX5_lots_91 : decode cX5_lots 91 = .ok (.invokestatic 137, 3) := by decide +kernel
theorem dX5_lots_94 : decode cX5_lots 94 = .ok (.iconst 0, 1) := by decide +kernel
theorem dX5_lots_95 : decode cX5_lots 95 = .ok (.istore 6, 2) := by decide +kernel
theorem dX5_lots_97 : decode cX5_lots 97 = .ok (.iload 6, 2) := by decide +kernel
theorem dX5_lots_99 : decode cX5_lots 99 = .ok (.bipush 12, 2) := by decide +kernel
theorem dX5_lots_101 : decode cX5_lots 101 = .ok (.if_icmp .ge 67, 3) := by decide +kernel
theorem dX5_lots_104 : decode cX5_lots 104 = .ok (.aload_n 0, 1) := by decide +kernel
theorem dX5_lots_105 : decode cX5_lots 105 = .ok (.aload_n 0, 1) := by decide +kernel
theorem dX5_lots_106 : decode cX5_lots 106 = .ok (.getfield 9, 3) := by decide +kernel
theorem dX5_lots_109 : decode cX5_lots 109 = .ok (.iconst 1, 1) := by decide +kernel
theorem dX5_lots_110 : decode cX5_lots 110 = .ok (.iaload, 1) := by decide +kernel
theorem dX5_lots_111 : decode cX5_lots 111 = .ok (.invokevirtual 241, 3) := by decide +kernel
theorem dX5_lots_114 : decode cX5_lots 114 = .ok (.istore 7, 2) := by decide +kernel
theorem dX5_lots_116 : decode cX5_lots 116 = .ok (.aload_n 0, 1) := by decide +kernel
theorem dX5_lots_117 : decode cX5_lots 117 = .ok (.aload_n 0, 1) := by decide +kernel
theorem dX5_lots_118 : decode cX5_lots 118 = .ok (.getfield 9, 3) := by decide +kernel
theorem dX5_lots_121 : decode cX5_lots 121 = .ok (.iconst 0, 1) := by decide +kernel
theorem dX5_lots_122 : decode cX5_lots 122 = .ok (.iaload, 1) := by decide +kernel
theorem dX5_lots_123 : decode cX5_lots 123 = .ok (.invokevirtual 241, 3) := by decide +kernel
theorem dX5_lots_126 : decode cX5_lots 126 = .ok (.istore 8, 2) := by decide +kernel
theorem dX5_lots_128 : decode cX5_lots 128 = .ok (.aload_n 0, 1) := by decide +kernel
theorem dX5_lots_129 : decode cX5_lots 129 = .ok (.getfield 13, 3) := by decide +kernel
theorem dX5_lots_132 : decode cX5_lots 132 = .ok (.iload 8, 2) := by decide +kernel
theorem dX5_lots_134 : decode cX5_lots 134 = .ok (.aload_n 0, 1) := by decide +kernel
theorem dX5_lots_135 : decode cX5_lots 135 = .ok (.getfield 13, 3) := by decide +kernel
theorem dX5_lots_138 : decode cX5_lots 138 = .ok (.iload 7, 2) := by decide +kernel
theorem dX5_lots_140 : decode cX5_lots 140 = .ok (.iconst 1, 1) := by decide +kernel
theorem dX5_lots_141 : decode cX5_lots 141 = .ok (.invokestatic 55, 3) := by decide +kernel
theorem dX5_lots_144 : decode cX5_lots 144 = .ok (.iaload, 1) := by decide +kernel
theorem dX5_lots_145 : decode cX5_lots 145 = .ok (.invokestatic 123, 3) := by decide +kernel
theorem dX5_lots_148 : decode cX5_lots 148 = .ok (.ifCond .eq 14, 3) := by decide +kernel
theorem dX5_lots_151 : decode cX5_lots 151 = .ok (.aload_n 0, 1) := by decide +kernel
theorem dX5_lots_152 : decode cX5_lots 152 = .ok (.getfield 13, 3) := by decide +kernel
theorem dX5_lots_155 : decode cX5_lots 155 = .ok (.iload 7, 2) := by decide +kernel
theorem dX5_lots_157 : decode cX5_lots 157 = .ok (.iload 8, 2) := by decide +kernel
theorem dX5_lots_159 : decode cX5_lots 159 = .ok (.invokestatic 127, 3) := by decide +kernel
theorem dX5_lots_162 : decode cX5_lots 162 = .ok (.iinc 6 1, 3) := by decide +kernel
theorem dX5_lots_165 : decode cX5_lots 165 = .ok (.goto (-68), 3) := by decide +kernel
theorem dX5_lots_168 : decode cX5_lots 168 = .ok (.aload_n 0, 1) := by decide +kernel
theorem dX5_lots_169 : decode cX5_lots 169 = .ok (.getfield 13, 3) := by decide +kernel
theorem dX5_lots_172 : decode cX5_lots 172 = .ok (.invokestatic 83, 3) := by decide +kernel
theorem dX5_lots_175 : decode cX5_lots 175 = .ok (.iload 4, 2) := by decide +kernel
theorem dX5_lots_177 : decode cX5_lots 177 = .ok (.iload_n 3, 1) := by decide +kernel
theorem dX5_lots_178 : decode cX5_lots 178 = .ok (.ifCond .ne 13, 3) := by decide +kernel
theorem dX5_lots_181 : decode cX5_lots 181 = .ok (.aload_n 0, 1) := by decide +kernel
theorem dX5_lots_182 : decode cX5_lots 182 = .ok (.getfield 13, 3) := by decide +kernel
theorem dX5_lots_185 : decode cX5_lots 185 = .ok (.invokestatic 148, 3) := by decide +kernel
theorem dX5_lots_188 : decode cX5_lots 188 = .ok (.goto 10, 3) := by decide +kernel
theorem dX5_lots_191 : decode cX5_lots 191 = .ok (.aload_n 0, 1) := by decide +kernel
theorem dX5_lots_192 : decode cX5_lots 192 = .ok (.getfield 13, 3) := by decide +kernel
theorem dX5_lots_195 : decode cX5_lots 195 = .ok (.invokestatic 244, 3) := by decide +kernel
theorem dX5_lots_198 : decode cX5_lots 198 = .ok (.iadd, 1) := by decide +kernel
theorem dX5_lots_199 : decode cX5_lots 199 = .ok (.istore 4, 2) := by decide +kernel
theorem dX5_lots_201 : decode cX5_lots 201 = .ok (.iinc 5 1, 3) := by decide +kernel
theorem dX5_lots_204 : decode cX5_lots 204 = .ok (.goto (-127), 3) := by decide +kernel
theorem dX5_lots_207 : decode cX5_lots 207 = .ok (.iload 4, 2) := by decide +kernel
theorem dX5_lots_209 : decode cX5_lots 209 = .ok (.ireturn, 1) := by decide +kernel
theorem dX5_image_0 : decode cX5_image 0 = .ok (.aload_n 0, 1) := by decide +kernel
theorem dX5_image_1 : decode cX5_image 1 = .ok (.getfield 9, 3) := by decide +kernel
theorem dX5_image_4 : decode cX5_image 4 = .ok (.aload_n 0, 1) := by decide +kernel
theorem dX5_image_5 : decode cX5_image 5 = .ok (.getfield 16, 3) := by decide +kernel
theorem dX5_image_8 : decode cX5_image 8 = .ok (.invokestatic 137, 3) := by decide +kernel
theorem dX5_image_11 : decode cX5_image 11 = .ok (.aload_n 0, 1) := by decide +kernel
theorem dX5_image_12 : decode cX5_image 12 = .ok (.iconst 1, 1) := by decide +kernel
theorem dX5_image_13 : decode cX5_image 13 = .ok (.putfield 247, 3) := by decide +kernel
theorem dX5_image_16 : decode cX5_image 16 = .ok (.aload_n 0, 1) := by decide +kernel
theorem dX5_image_17 : decode cX5_image 17 = .ok (.getfield 9, 3) := by decide +kernel
theorem dX5_image_20 : decode cX5_image 20 = .ok (.iconst 2, 1) := by decide +kernel
theorem dX5_image_21 : decode cX5_image 21 = .ok (.iaload, 1) := by decide +kernel
theorem dX5_image_22 : decode cX5_image 22 = .ok (.ireturn, 1) := by decide +kernel
theorem dX5_on_0 : decode cX5_on 0 = .ok (.aload_n 0, 1) := by decide +kernel
theorem dX5_on_1 : decode cX5_on 1 = .ok (.getfield 247, 3) := by decide +kernel
theorem dX5_on_4 : decode cX5_on 4 = .ok (.ifCond .ne 10, 3) := by decide +kernel
theorem dX5_on_7 : decode cX5_on 7 = .ok (.aload_n 0, 1) := by decide +kernel
theorem dX5_on_8 : decode cX5_on 8 = .ok (.bipush (-3), 2) := by decide +kernel
theorem dX5_on_10 : decode cX5_on 10 = .ok (.invokevirtual 38, 3) := by decide +kernel
theorem dX5_on_13 : decode cX5_on 13 = .ok (.ireturn, 1) := by decide +kernel
theorem dX5_on_14 : decode cX5_on 14 = .ok (.aload_n 0, 1) := by decide +kernel
theorem dX5_on_15 : decode cX5_on 15 = .ok (.getfield 16, 3) := by decide +kernel
theorem dX5_on_18 : decode cX5_on 18 = .ok (.aload_n 0, 1) := by decide +kernel
theorem dX5_on_19 : decode cX5_on 19 = .ok (.getfield 9, 3) := by decide +kernel
theorem dX5_on_22 : decode cX5_on 22 = .ok (.invokestatic 137, 3) := by decide +kernel
theorem dX5_on_25 : decode cX5_on 25 = .ok (.aload_n 0, 1) := by decide +kernel
theorem dX5_on_26 : decode cX5_on 26 = .ok (.getfield 9, 3) := by decide +kernel
theorem dX5_on_29 : decode cX5_on 29 = .ok (.iconst 2, 1) := by decide +kernel
theorem dX5_on_30 : decode cX5_on 30 = .ok (.iaload, 1) := by decide +kernel
theorem dX5_on_31 : decode cX5_on 31 = .ok (.ireturn, 1) := by decide +kernel
theorem dX5_count_0 : decode cX5_count 0 = .ok (.iload_n 1, 1) := by decide +kernel
theorem dX5_count_1 : decode cX5_count 1 = .ok (.bipush 11, 2) := by decide +kernel
theorem dX5_count_3 : decode cX5_count 3 = .ok (.bipush 16, 2) := by decide +kernel
theorem dX5_count_5 : decode cX5_count 5 = .ok (.invokestatic 44, 3) := by decide +kernel
theorem dX5_count_8 : decode cX5_count 8 = .ok (.ifCond .eq 13, 3) := by decide +kernel
theorem dX5_count_11 : decode cX5_count 11 = .ok (.aload_n 0, 1) := by decide +kernel
theorem dX5_count_12 : decode cX5_count 12 = .ok (.getfield 28, 3) := by decide +kernel
theorem dX5_count_15 : decode cX5_count 15 = .ok (.iload_n 1, 1) := by decide +kernel
theorem dX5_count_16 : decode cX5_count 16 = .ok (.bipush 10, 2) := by decide +kernel
theorem dX5_count_18 : decode cX5_count 18 = .ok (.isub, 1) := by decide +kernel
theorem dX5_count_19 : decode cX5_count 19 = .ok (.iaload, 1) := by decide +kernel
theorem dX5_count_20 : decode cX5_count 20 = .ok (.ireturn, 1) := by decide +kernel
theorem dX5_count_21 : decode cX5_count 21 = .ok (.iload_n 1, 1) := by decide +kernel
theorem dX5_count_22 : decode cX5_count 22 = .ok (.tableswitch 99 0 7 #[46, 46, 46, 53, 61, 69, 89, 94], 46) := by decide +kernel
theorem dX5_count_68 : decode cX5_count 68 = .ok (.aload_n 0, 1) := by decide +kernel
theorem dX5_count_69 : decode cX5_count 69 = .ok (.getfield 9, 3) := by decide +kernel
theorem dX5_count_72 : decode cX5_count 72 = .ok (.iload_n 1, 1) := by decide +kernel
theorem dX5_count_73 : decode cX5_count 73 = .ok (.iaload, 1) := by decide +kernel
theorem dX5_count_74 : decode cX5_count 74 = .ok (.ireturn, 1) := by decide +kernel
theorem dX5_count_75 : decode cX5_count 75 = .ok (.aload_n 0, 1) := by decide +kernel
theorem dX5_count_76 : decode cX5_count 76 = .ok (.getfield 9, 3) := by decide +kernel
theorem dX5_count_79 : decode cX5_count 79 = .ok (.invokestatic 148, 3) := by decide +kernel
theorem dX5_count_82 : decode cX5_count 82 = .ok (.ireturn, 1) := by decide +kernel
theorem dX5_count_83 : decode cX5_count 83 = .ok (.aload_n 0, 1) := by decide +kernel
theorem dX5_count_84 : decode cX5_count 84 = .ok (.getfield 9, 3) := by decide +kernel
theorem dX5_count_87 : decode cX5_count 87 = .ok (.invokestatic 244, 3) := by decide +kernel
theorem dX5_count_90 : decode cX5_count 90 = .ok (.ireturn, 1) := by decide +kernel
theorem dX5_count_91 : decode cX5_count 91 = .ok (.iconst 1, 1) := by decide +kernel
theorem dX5_count_92 : decode cX5_count 92 = .ok (.aload_n 0, 1) := by decide +kernel
theorem dX5_count_93 : decode cX5_count 93 = .ok (.getfield 9, 3) := by decide +kernel
theorem dX5_count_96 : decode cX5_count 96 = .ok (.iconst 0, 1) := by decide +kernel
theorem dX5_count_97 : decode cX5_count 97 = .ok (.iaload, 1) := by decide +kernel
theorem dX5_count_98 : decode cX5_count 98 = .ok (.ishl, 1) := by decide +kernel
theorem dX5_count_99 : decode cX5_count 99 = .ok (.iconst 1, 1) := by decide +kernel
theorem dX5_count_100 : decode cX5_count 100 = .ok (.isub, 1) := by decide +kernel
theorem dX5_count_101 : decode cX5_count 101 = .ok (.aload_n 0, 1) := by decide +kernel
theorem dX5_count_102 : decode cX5_count 102 = .ok (.bipush 9, 2) := by decide +kernel
theorem dX5_count_104 : decode cX5_count 104 = .ok (.invokevirtual 204, 3) := by decide +kernel
theorem dX5_count_107 : decode cX5_count 107 = .ok (.iconst (-1), 1) := by decide +kernel
theorem dX5_count_108 : decode cX5_count 108 = .ok (.ixor, 1) := by decide +kernel
theorem dX5_count_109 : decode cX5_count 109 = .ok (.iand, 1) := by decide +kernel
theorem dX5_count_110 : decode cX5_count 110 = .ok (.ireturn, 1) := by decide +kernel
theorem dX5_count_111 : decode cX5_count 111 = .ok (.aload_n 0, 1) := by decide +kernel
theorem dX5_count_112 : decode cX5_count 112 = .ok (.getfield 188, 3) := by decide +kernel
theorem dX5_count_115 : decode cX5_count 115 = .ok (.ireturn, 1) := by decide +kernel
theorem dX5_count_116 : decode cX5_count 116 = .ok (.aload_n 0, 1) := by decide +kernel
theorem dX5_count_117 : decode cX5_count 117 = .ok (.getfield 87, 3) := by decide +kernel
theorem dX5_count_120 : decode cX5_count 120 = .ok (.ireturn, 1) := by decide +kernel
theorem dX5_count_121 : decode cX5_count 121 = .ok (.bipush (-9), 2) := by decide +kernel
theorem dX5_count_123 : decode cX5_count 123 = .ok (.ireturn, 1) := by decide +kernel
