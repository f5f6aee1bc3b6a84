theorem dX0_init_0 : decode cX0_init 0 = .ok (.aload_n 0, 1) := by decide +kernel
theorem dX0_init_1 : decode cX0_init 1 = .ok (.invokespecial 3, 3) := by decide +kernel
theorem dX0_init_4 : decode cX0_init 4 = .ok (.aload_n 0, 1) := by decide +kernel
theorem dX0_init_5 : decode cX0_init 5 = .ok (.iconst 0, 1) := by decide +kernel
theorem dX0_init_6 : decode cX0_init 6 = .ok (.putfield 9, 3) := by decide +kernel
theorem dX0_init_9 : decode cX0_init 9 = .ok (.aload_n 0, 1) := by decide +kernel
theorem dX0_init_10 : decode cX0_init 10 = .ok (.bipush 9, 2) := by decide +kernel
theorem dX0_init_12 : decode cX0_init 12 = .ok (.newarray .int, 2) := by decide +kernel
theorem dX0_init_14 : decode cX0_init 14 = .ok (.putfield 15, 3) := by decide +kernel
theorem dX0_init_17 : decode cX0_init 17 = .ok (.aload_n 0, 1) := by decide +kernel
theorem dX0_init_18 : decode cX0_init 18 = .ok (.bipush 9, 2) := by decide +kernel
theorem dX0_init_20 : decode cX0_init 20 = .ok (.newarray .int, 2) := by decide +kernel
theorem dX0_init_22 : decode cX0_init 22 = .ok (.putfield 19, 3) := by decide +kernel
theorem dX0_init_25 : decode cX0_init 25 = .ok (.aload_n 0, 1) := by decide +kernel
theorem dX0_init_26 : decode cX0_init 26 = .ok (.bipush 9, 2) := by decide +kernel
theorem dX0_init_28 : decode cX0_init 28 = .ok (.newarray .int, 2) := by decide +kernel
theorem dX0_init_30 : decode cX0_init 30 = .ok (.putfield 22, 3) := by decide +kernel
theorem dX0_init_33 : decode cX0_init 33 = .ok (.aload_n 0, 1) := by decide +kernel
theorem dX0_init_34 : decode cX0_init 34 = .ok (.bipush 9, 2) := by decide +kernel
theorem dX0_init_36 : decode cX0_init 36 = .ok (.newarray .int, 2) := by decide +kernel
theorem dX0_init_38 : decode cX0_init 38 = .ok (.putfield 25, 3) := by decide +kernel
theorem dX0_init_41 : decode cX0_init 41 = .ok (.aload_n 0, 1) := by decide +kernel
theorem dX0_init_42 : decode cX0_init 42 = .ok (.bipush 9, 2) := by decide +kernel
theorem dX0_init_44 : decode cX0_init 44 = .ok (.newarray .int, 2) := by decide +kernel
theorem dX0_init_46 : decode cX0_init 46 = .ok (.putfield 28, 3) := by decide +kernel
theorem dX0_init_49 : decode cX0_init 49 = .ok (.aload_n 0, 1) := by decide +kernel
theorem dX0_init_50 : decode cX0_init 50 = .ok (.bipush 9, 2) := by decide +kernel
theorem dX0_init_52 : decode cX0_init 52 = .ok (.newarray .int, 2) := by decide +kernel
theorem dX0_init_54 : decode cX0_init 54 = .ok (.putfield 31, 3) := by decide +kernel
theorem dX0_init_57 : decode cX0_init 57 = .ok (.aload_n 0, 1) := by decide +kernel
theorem dX0_init_58 : decode cX0_init 58 = .ok (.iconst 0, 1) := by decide +kernel
theorem dX0_init_59 : decode cX0_init 59 = .ok (.putfield 34, 3) := by decide +kernel
theorem dX0_init_62 : decode cX0_init 62 = .ok (.aload_n 0, 1) := by decide +kernel
theorem dX0_init_63 : decode cX0_init 63 = .ok (.bipush 6, 2) := by decide +kernel
theorem dX0_init_65 : decode cX0_init 65 = .ok (.newarray .int, 2) := by decide +kernel
theorem dX0_init_67 : decode cX0_init 67 = .ok (.putfield 37, 3) := by decide +kernel
theorem dX0_init_70 : decode cX0_init 70 = .ok (.aload_n 0, 1) := by decide +kernel
theorem dX0_init_71 : decode cX0_init 71 = .ok (.bipush 6, 2) := by decide +kernel
theorem dX0_init_73 : decode cX0_init 73 = .ok (.newarray .int, 2) := by decide +kernel
theorem dX0_init_75 : decode cX0_init 75 = .ok (.putfield 40, 3) := by decide +kernel
theorem dX0_init_78 : decode cX0_init 78 = .ok (.aload_n 0, 1) := by decide +kernel
theorem dX0_init_79 : decode cX0_init 79 = .ok (.bipush 6, 2) := by decide +kernel
theorem dX0_init_81 : decode cX0_init 81 = .ok (.newarray .int, 2) := by decide +kernel
theorem dX0_init_83 : decode cX0_init 83 = .ok (.putfield 43, 3) := by decide +kernel
theorem dX0_init_86 : decode cX0_init 86 = .ok (.aload_n 0, 1) := by decide +kernel
theorem dX0_init_87 : decode cX0_init 87 = .ok (.iconst 0, 1) := by decide +kernel
theorem dX0_init_88 : decode cX0_init 88 = .ok (.putfield 46, 3) := by decide +kernel
theorem dX0_init_91 : decode cX0_init 91 = .ok (.return_, 1) := by decide +kernel
theorem dX0_copyFrom_0 : decode cX0_copyFrom 0 = .ok (.aload_n 0, 1) := by decide +kernel
theorem dX0_copyFrom_1 : decode cX0_copyFrom 1 = .ok (.aload_n 1, 1) := by decide +kernel
theorem dX0_copyFrom_2 : decode cX0_copyFrom 2 = .ok (.getfield 9, 3) := by decide +kernel
theorem dX0_copyFrom_5 : decode cX0_copyFrom 5 = .ok (.putfield 9, 3) := by decide +kernel
theorem dX0_copyFrom_8 : decode cX0_copyFrom 8 = .ok (.iconst 0, 1) := by decide +kernel
theorem dX0_copyFrom_9 : decode cX0_copyFrom 9 = .ok (.istore_n 2, 1) := by decide +kernel
theorem dX0_copyFrom_10 : decode cX0_copyFrom 10 = .ok (.iload_n 2, 1) := by decide +kernel
theorem dX0_copyFrom_11 : decode cX0_copyFrom 11 = .ok (.aload_n 0, 1) := by decide +kernel
theorem dX0_copyFrom_12 : decode cX0_copyFrom 12 = .ok (.getfield 9, 3) := by decide +kernel
theorem dX0_copyFrom_15 : decode cX0_copyFrom 15 = .ok (.if_icmp .ge 81, 3) := by decide +kernel
theorem dX0_copyFrom_18 : decode cX0_copyFrom 18 = .ok (.aload_n 0, 1) := by decide +kernel
theorem dX0_copyFrom_19 : decode cX0_copyFrom 19 = .ok (.getfield 15, 3) := by decide +kernel
theorem dX0_copyFrom_22 : decode cX0_copyFrom 22 = .ok (.iload_n 2, 1) := by decide +kernel
theorem dX0_copyFrom_23 : decode cX0_copyFrom 23 = .ok (.aload_n 1, 1) := by decide +kernel
theorem dX0_copyFrom_24 : decode cX0_copyFrom 24 = .ok (.getfield 15, 3) := by decide +kernel
theorem dX0_copyFrom_27 : decode cX0_copyFrom 27 = .ok (.iload_n 2, 1) := by decide +kernel
theorem dX0_copyFrom_28 : decode cX0_copyFrom 28 = .ok (.iaload, 1) := by decide +kernel
theorem dX0_copyFrom_29 : decode cX0_copyFrom 29 = .ok (.iastore, 1) := by decide +kernel
theorem dX0_copyFrom_30 : decode cX0_copyFrom 30 = .ok (.aload_n 0, 1) := by decide +kernel
theorem dX0_copyFrom_31 : decode cX0_copyFrom 31 = .ok (.getfield 19, 3) := by decide +kernel
theorem dX0_copyFrom_34 : decode cX0_copyFrom 34 = .ok (.iload_n 2, 1) := by decide +kernel
theorem dX0_copyFrom_35 : decode cX0_copyFrom 35 = .ok (.aload_n 1, 1) := by decide +kernel
theorem dX0_copyFrom_36 : decode cX0_copyFrom 36 = .ok (.getfield 19, 3) := by decide +kernel
theorem dX0_copyFrom_39 : decode cX0_copyFrom 39 = .ok (.iload_n 2, 1) := by decide +kernel
theorem dX0_copyFrom_40 : decode cX0_copyFrom 40 = .ok (.iaload, 1) := by decide +kernel
theorem dX0_copyFrom_41 : decode cX0_copyFrom 41 = .ok (.iastore, 1) := by decide +kernel
theorem dX0_copyFrom_42 : decode cX0_copyFrom 42 = .ok (.aload_n 0, 1) := by decide +kernel
theorem dX0_copyFrom_43 : decode cX0_copyFrom 43 = .ok (.getfield 22, 3) := by decide +kernel
theorem dX0_copyFrom_46 : decode cX0_copyFrom 46 = .ok (.iload_n 2, 1) := by decide +kernel
theorem dX0_copyFrom_47 : decode cX0_copyFrom 47 = .ok (.aload_n 1, 1) := by decide +kernel
theorem dX0_copyFrom_48 : decode cX0_copyFrom 48 = .ok (.getfield 22, 3) := by decide +kernel
theorem dX0_copyFrom_51 : decode cX0_copyFrom 51 = .ok (.iload_n 2, 1) := by decide +kernel
theorem dX0_copyFrom_52 : decode cX0_copyFrom 52 = .ok (.iaload, 1) := by decide +kernel
theorem dX0_copyFrom_53 : decode cX0_copyFrom 53 = .ok (.iastore, 1) := by decide +kernel
theorem dX0_copyFrom_54 : decode cX0_copyFrom 54 = .ok (.aload_n 0, 1) := by decide +kernel
theorem dX0_copyFrom_55 : decode cX0_copyFrom 55 = .ok (.getfield 25, 3) := by decide +kernel
theorem dX0_copyFrom_58 : decode cX0_copyFrom 58 = .ok (.iload_n 2, 1) := by decide +kernel
theorem dX0_copyFrom_59 : decode cX0_copyFrom 59 = .ok (.aload_n 1, 1) := by decide +kernel
theorem dX0_copyFrom_60 : decode cX0_copyFrom 60 = .ok (.getfield 25, 3) := by decide +kernel
theorem dX0_copyFrom_63 : decode cX0_copyFrom 63 = .ok (.iload_n 2, 1) := by decide +kernel
theorem dX0_copyFrom_64 : decode cX0_copyFrom 64 = .ok (.iaload, 1) := by decide +kernel
theorem dX0_copyFrom_65 : decode cX0_copyFrom 65 = .ok (.iastore, 1) := by decide +kernel
theorem dX0_copyFrom_66 : decode cX0_copyFrom 66 = .ok (.aload_n 0, 1) := by decide +kernel
theorem dX0_copyFrom_67 : decode cX0_copyFrom 67 = .ok (.getfield 28, 3) := by decide +kernel
theorem dX0_copyFrom_70 : decode cX0_copyFrom 70 = .ok (.iload_n 2, 1) := by decide +kernel
theorem dX0_copyFrom_71 : decode cX0_copyFrom 71 = .ok (.aload_n 1, 1) := by decide +kernel
theorem dX0_copyFrom_72 : decode cX0_copyFrom 72 = .ok (.getfield 28, 3) := by decide +kernel
theorem dX0_copyFrom_75 : decode cX0_copyFrom 75 = .ok (.iload_n 2, 1) := by decide +kernel
theorem dX0_copyFrom_76 : decode cX0_copyFrom 76 = .ok (.iaload, 1) := by decide +kernel
theorem dX0_copyFrom_77 : decode cX0_copyFrom 77 = .ok (.iastore, 1) := by decide +kernel
theorem dX0_copyFrom_78 : decode cX0_copyFrom 78 = .ok (.aload_n 0, 1) := by decide +kernel
theorem dX0_copyFrom_79 : decode cX0_copyFrom 79 = .ok (.getfield 31, 3) := by decide +kernel
theorem dX0_copyFrom_82 : decode cX0_copyFrom 82 = .ok (.iload_n 2, 1) := by decide +kernel
theorem dX0_copyFrom_83 : decode cX0_copyFrom 83 = .ok (.aload_n 1, 1) := by decide +kernel
theorem dX0_copyFrom_84 : decode cX0_copyFrom 84 = .ok (.getfield 31, 3) := by decide +kernel
theorem dX0_copyFrom_87 : decode cX0_copyFrom 87 = .ok (.iload_n 2, 1) := by decide +kernel
theorem dX0_copyFrom_88 : decode cX0_copyFrom 88 = .ok (.iaload, 1) := by decide +kernel
theorem dX0_copyFrom_89 : decode cX0_copyFrom 89 = .ok (.iastore, 1) := by decide +kernel
theorem dX0_copyFrom_90 : decode cX0_copyFrom 90 = .ok (.iinc 2 1, 3) := by decide +kernel
theorem dX0_copyFrom_93 : decode cX0_copyFrom 93 = .ok (.goto (-83), 3) := by decide +kernel
theorem dX0_copyFrom_96 : decode cX0_copyFrom 96 = .ok (.aload_n 0, 1) := by decide +kernel
theorem dX0_copyFrom_97 : decode cX0_copyFrom 97 = .ok (.aload_n 1, 1) := by decide +kernel
theorem dX0_copyFrom_98 : decode cX0_copyFrom 98 = .ok (.getfield 34, 3) := by decide +kernel
theorem dX0_copyFrom_101 : decode cX0_copyFrom 101 = .ok (.putfield 34, 3) := by decide +kernel
theorem dX0_copyFrom_104 : decode cX0_copyFrom 104 = .ok (.iconst 0, 1) := by decide +kernel
theorem dX0_copyFrom_105 : decode cX0_copyFrom 105 = .ok (.istore_n 2, 1) := by decide +kernel
theorem dX0_copyFrom_106 : decode cX0_copyFrom 106 = .ok (.iload_n 2, 1) := by decide +kernel
theorem dX0_copyFrom_107 : decode cX0_copyFrom 107 = .ok (.aload_n 0, 1) := by decide +kernel
theorem dX0_copyFrom_108 : decode cX0_copyFrom 108 = .ok (.getfield 34, 3) := by decide +kernel
theorem dX0_copyFrom_111 : decode cX0_copyFrom 111 = .ok (.if_icmp .ge 45, 3) := by decide +kernel
theorem dX0_copyFrom_114 : decode cX0_copyFrom 114 = .ok (.aload_n 0, 1) := by decide +kernel
theorem dX0_copyFrom_115 : decode cX0_copyFrom 115 = .ok (.getfield 37, 3) := by decide +kernel
theorem dX0_copyFrom_118 : decode cX0_copyFrom 118 = .ok (.iload_n 2, 1) := by decide +kernel
theorem dX0_copyFrom_119 : decode cX0_copyFrom 119 = .ok (.aload_n 1, 1) := by decide +kernel
theorem dX0_copyFrom_120 : decode cX0_copyFrom 120 = .ok (.getfield 37, 3) := by decide +kernel
theorem dX0_copyFrom_123 : decode cX0_copyFrom 123 = .ok (.iload_n 2, 1) := by decide +kernel
theorem dX0_copyFrom_124 : decode cX0_copyFrom 124 = .ok (.iaload, 1) := by decide +kernel
theorem dX0_copyFrom_125 : decode cX0_copyFrom 125 = .ok (.iastore, 1) := by decide +kernel
theorem dX0_copyFrom_126 : decode cX0_copyFrom 126 = .ok (.aload_n 0, 1) := by decide +kernel
theorem dX0_copyFrom_127 : decode cX0_copyFrom 127 = .ok (.getfield 40, 3) := by decide +kernel
theorem dX0_copyFrom_130 : decode cX0_copyFrom 130 = .ok (.iload_n 2, 1) := by decide +kernel
theorem dX0_copyFrom_131 : decode cX0_copyFrom 131 = .ok (.aload_n 1, 1) := by decide +kernel
theorem dX0_copyFrom_132 : decode cX0_copyFrom 132 = .ok (.getfield 40, 3) := by decide +kernel
theorem dX0_copyFrom_135 : decode cX0_copyFrom 135 = .ok (.iload_n 2, 1) := by decide +kernel
theorem dX0_copyFrom_136 : decode cX0_copyFrom 136 = .ok (.iaload, 1) := by decide +kernel
theorem dX0_copyFrom_137 : decode cX0_copyFrom 137 = .ok (.iastore, 1) := by decide +kernel
theorem dX0_copyFrom_138 : decode cX0_copyFrom 138 = .ok (.aload_n 0, 1) := by decide +kernel
theorem dX0_copyFrom_139 : decode cX0_copyFrom 139 = .ok (.getfield 43, 3) := by decide +kernel
theorem dX0_copyFrom_142 : decode cX0_copyFrom 142 = .ok (.iload_n 2, 1) := by decide +kernel
theorem dX0_copyFrom_143 : decode cX0_copyFrom 143 = .ok (.aload_n 1, 1) := by decide +kernel
theorem dX0_copyFrom_144 : decode cX0_copyFrom 144 = .ok (.getfield 43, 3) := by decide +kernel
theorem dX0_copyFrom_147 : decode cX0_copyFrom 147 = .ok (.iload_n 2, 1) := by decide +kernel
theorem dX0_copyFrom_148 : decode cX0_copyFrom 148 = .ok (.iaload, 1) := by decide +kernel
theorem dX0_copyFrom_149 : decode cX0_copyFrom 149 = .ok (.iastore, 1) := by decide +kernel
theorem dX0_copyFrom_150 : decode cX0_copyFrom 150 = .ok (.iinc 2 1, 3) := by decide +kernel
theorem dX0_copyFrom_153 : decode cX0_copyFrom 153 = .ok (.goto (-47), 3) := by decide +kernel
theorem dX0_copyFrom_156 : decode cX0_copyFrom 156 = .ok (.aload_n 0, 1) := by decide +kernel
theorem dX0_copyFrom_157 : decode cX0_copyFrom 157 = .ok (.aload_n 1, 1) := by decide +kernel
theorem dX0_copyFrom_158 : decode cX0_copyFrom 158 = .ok (.getfield 46, 3) := by decide +kernel
theorem dX0_copyFrom_161 : decode cX0_copyFrom 161 = .ok (.putfield 46, 3) := by decide +kernel
theorem dX0_copyFrom_164 : decode cX0_copyFrom 164 = .ok (.return_, 1) := by decide +kernel
theorem dX0_hasDoor_0 : decode cX0_hasDoor 0 = .ok (.iload_n 1, 1) := by decide +kernel
theorem dX0_hasDoor_1 : decode cX0_hasDoor 1 = .ok (.ifCond .lt 15, 3) := by decide +kernel
theorem dX0_hasDoor_4 : decode cX0_hasDoor 4 = .ok (.iload_n 1, 1) := by decide +kernel
theorem dX0_hasDoor_5 : decode cX0_hasDoor 5 = .ok (.aload_n 0, 1) := by decide +kernel
theorem dX0_hasDoor_6 : decode cX0_hasDoor 6 = .ok (.getfield 9, 3) := by decide +kernel
theorem dX0_hasDoor_9 : decode cX0_hasDoor 9 = .ok (.if_icmp .ge 7, 3) := by decide +kernel
theorem dX0_hasDoor_12 : decode cX0_hasDoor 12 = .ok (.iconst 1, 1) := by decide +kernel
theorem dX0_hasDoor_13 : decode cX0_hasDoor 13 = .ok (.goto 4, 3) := by decide +kernel
theorem dX0_hasDoor_16 : decode cX0_hasDoor 16 = .ok (.iconst 0, 1) := by decide +kernel
theorem dX0_hasDoor_17 : decode cX0_hasDoor 17 = .ok (.ireturn, 1) := by decide +kernel
theorem dX0_hasPerson_0 : decode cX0_hasPerson 0 = .ok (.iload_n 1, 1) := by decide +kernel
theorem dX0_hasPerson_1 : decode cX0_hasPerson 1 = .ok (.ifCond .lt 15, 3) := by decide +kernel
theorem dX0_hasPerson_4 : decode cX0_hasPerson 4 = .ok (.iload_n 1, 1) := by decide +kernel
theorem dX0_hasPerson_5 : decode cX0_hasPerson 5 = .ok (.aload_n 0, 1) := by decide +kernel
theorem dX0_hasPerson_6 : decode cX0_hasPerson 6 = .ok (.getfield 34, 3) := by decide +kernel
theorem dX0_hasPerson_9 : decode cX0_hasPerson 9 = .ok (.if_icmp .ge 7, 3) := by decide +kernel
theorem dX0_hasPerson_12 : decode cX0_hasPerson 12 = .ok (.iconst 1, 1) := by decide +kernel
theorem dX0_hasPerson_13 : decode cX0_hasPerson 13 = .ok (.goto 4, 3) := by decide +kernel
theorem dX0_hasPerson_16 : decode cX0_hasPerson 16 = .ok (.iconst 0, 1) := by decide +kernel
theorem dX0_hasPerson_17 : decode cX0_hasPerson 17 = .ok (.ireturn, 1) := by decide +kernel
theorem dX0_addDoor_0 : decode cX0_addDoor 0 = .ok (.aload_n 0, 1) := by decide +kernel
theorem dX0_addDoor_1 : decode cX0_addDoor 1 = .ok (.getfield 9, 3) := by decide +kernel
theorem dX0_addDoor_4 : decode cX0_addDoor 4 = .ok (.bipush 9, 2) := by decide +kernel
theorem dX0_addDoor_6 : decode cX0_addDoor 6 = .ok (.if_icmp .ge 24, 3) := by decide +kernel
theorem dX0_addDoor_9 : decode cX0_addDoor 9 = .ok (.iload_n 3, 1) := by decide +kernel
theorem dX0_addDoor_10 : decode cX0_addDoor 10 = .ok (.invokestatic 49, 3) := by decide +kernel
theorem dX0_addDoor_13 : decode cX0_addDoor 13 = .ok (.ifCond .eq 17, 3) := by decide +kernel
theorem dX0_addDoor_16 : decode cX0_addDoor 16 = .ok (.iload 4, 2) := by decide +kernel
theorem dX0_addDoor_18 : decode cX0_addDoor 18 = .ok (.invokestatic 49, 3) := by decide +kernel
theorem dX0_addDoor_21 : decode cX0_addDoor 21 = .ok (.ifCond .eq 9, 3) := by decide +kernel
theorem dX0_addDoor_24 : decode cX0_addDoor 24 = .ok (.iload_n 3, 1) := by decide +kernel
theorem dX0_addDoor_25 : decode cX0_addDoor 25 = .ok (.iload 4, 2) := by decide +kernel
theorem dX0_addDoor_27 : decode cX0_addDoor 27 = .ok (.if_icmp .ne 5, 3) := by decide +kernel
theorem dX0_addDoor_30 : decode cX0_addDoor 30 = .ok (.iconst 0, 1) := by decide +kernel
theorem dX0_addDoor_31 : decode cX0_addDoor 31 = .ok (.ireturn, 1) := by decide +kernel
theorem dX0_addDoor_32 : decode cX0_addDoor 32 = .ok (.aload_n 0, 1) := by decide +kernel
theorem dX0_addDoor_33 : decode cX0_addDoor 33 = .ok (.getfield 15, 3) := by decide +kernel
theorem dX0_addDoor_36 : decode cX0_addDoor 36 = .ok (.aload_n 0, 1) := by decide +kernel
theorem dX0_addDoor_37 : decode cX0_addDoor 37 = .ok (.getfield 9, 3) := by decide +kernel
theorem dX0_addDoor_40 : decode cX0_addDoor 40 = .ok (.iload_n 1, 1) := by decide +kernel
theorem dX0_addDoor_41 : decode cX0_addDoor 41 = .ok (.iastore, 1) := by decide +kernel
theorem dX0_addDoor_42 : decode cX0_addDoor 42 = .ok (.aload_n 0, 1) := by decide +kernel
theorem dX0_addDoor_43 : decode cX0_addDoor 43 = .ok (.getfield 19, 3) := by decide +kernel
theorem dX0_addDoor_46 : decode cX0_addDoor 46 = .ok (.aload_n 0, 1) := by decide +kernel
theorem dX0_addDoor_47 : decode cX0_addDoor 47 = .ok (.getfield 9, 3) := by decide +kernel
theorem dX0_addDoor_50 : decode cX0_addDoor 50 = .ok (.iload_n 2, 1) := by decide +kernel
theorem dX0_addDoor_51 : decode cX0_addDoor 51 = .ok (.iastore, 1) := by decide +kernel
theorem dX0_addDoor_52 : decode cX0_addDoor 52 = .ok (.aload_n 0, 1) := by decide +kernel
theorem dX0_addDoor_53 : decode cX0_addDoor 53 = .ok (.getfield 22, 3) := by decide +kernel
theorem dX0_addDoor_56 : decode cX0_addDoor 56 = .ok (.aload_n 0, 1) := by decide +kernel
theorem dX0_addDoor_57 : decode cX0_addDoor 57 = .ok (.getfield 9, 3) := by decide +kernel
theorem dX0_addDoor_60 : decode cX0_addDoor 60 = .ok (.iload_n 3, 1) := by decide +kernel
theorem dX0_addDoor_61 : decode cX0_addDoor 61 = .ok (.iastore, 1) := by decide +kernel
theorem dX0_addDoor_62 : decode cX0_addDoor 62 = .ok (.aload_n 0, 1) := by decide +kernel
theorem dX0_addDoor_63 : decode cX0_addDoor 63 = .ok (.getfield 25, 3) := by decide +kernel
theorem dX0_addDoor_66 : decode cX0_addDoor 66 = .ok (.aload_n 0, 1) := by decide +kernel
theorem dX0_addDoor_67 : decode cX0_addDoor 67 = .ok (.getfield 9, 3) := by decide +kernel
theorem dX0_addDoor_70 : decode cX0_addDoor 70 = .ok (.iload 4, 2) := by decide +kernel
theorem dX0_addDoor_72 : decode cX0_addDoor 72 = .ok (.iastore, 1) := by decide +kernel
theorem dX0_addDoor_73 : decode cX0_addDoor 73 = .ok (.aload_n 0, 1) := by decide +kernel
theorem dX0_addDoor_74 : decode cX0_addDoor 74 = .ok (.getfield 28, 3) := by decide +kernel
theorem dX0_addDoor_77 : decode cX0_addDoor 77 = .ok (.aload_n 0, 1) := by decide +kernel
theorem dX0_addDoor_78 : decode cX0_addDoor 78 = .ok (.getfield 9, 3) := by decide +kernel
theorem dX0_addDoor_81 : decode cX0_addDoor 81 = .ok (.iconst 0, 1) := by decide +kernel
theorem dX0_addDoor_82 : decode cX0_addDoor 82 = .ok (.iastore, 1) := by decide +kernel
theorem dX0_addDoor_83 : decode cX0_addDoor 83 = .ok (.aload_n 0, 1) := by decide +kernel
theorem dX0_addDoor_84 : decode cX0_addDoor 84 = .ok (.getfield 31, 3) := by decide +kernel
theorem dX0_addDoor_87 : decode cX0_addDoor 87 = .ok (.aload_n 0, 1) := by decide +kernel
theorem dX0_addDoor_88 : decode cX0_addDoor 88 = .ok (.getfield 9, 3) := by decide +kernel
theorem dX0_addDoor_91 : decode cX0_addDoor 91 = .ok (.bipush 9, 2) := by decide +kernel
theorem dX0_addDoor_93 : decode cX0_addDoor 93 = .ok (.iastore, 1) := by decide +kernel
theorem dX0_addDoor_94 : decode cX0_addDoor 94 = .ok (.aload_n 0, 1) := by decide +kernel
theorem dX0_addDoor_95 : decode cX0_addDoor 95 = .ok (.dup, 1) := by decide +kernel
theorem dX0_addDoor_96 : decode cX0_addDoor 96 = .ok (.getfield 9, 3) := by decide +kernel
theorem dX0_addDoor_99 : decode cX0_addDoor 99 = .ok (.iconst 1, 1) := by decide +kernel
theorem dX0_addDoor_100 : decode cX0_addDoor 100 = .ok (.iadd, 1) := by decide +kernel
theorem dX0_addDoor_101 : decode cX0_addDoor 101 = .ok (.putfield 9, 3) := by decide +kernel
theorem dX0_addDoor_104 : decode cX0_addDoor 104 = .ok (.iconst 1, 1) := by decide +kernel
theorem dX0_addDoor_105 : decode cX0_addDoor 105 = .ok (.ireturn, 1) := by decide +kernel
theorem dX0_addPerson_0 : decode cX0_addPerson 0 = .ok (.aload_n 0, 1) := by decide +kernel
theorem dX0_addPerson_1 : decode cX0_addPerson 1 = .ok (.getfield 34, 3) := by decide +kernel
theorem dX0_addPerson_4 : decode cX0_addPerson 4 = .ok (.bipush 6, 2) := by decide +kernel
theorem dX0_addPerson_6 : decode cX0_addPerson 6 = .ok (.if_icmp .ge 10, 3) := by decide +kernel
theorem dX0_addPerson_9 : decode cX0_addPerson 9 = .ok (.iload_n 2, 1) := by decide +kernel
theorem dX0_addPerson_10 : decode cX0_addPerson 10 = .ok (.invokestatic 49, 3) := by decide +kernel
theorem dX0_addPerson_13 : decode cX0_addPerson 13 = .ok (.ifCond .ne 5, 3) := by decide +kernel
theorem dX0_addPerson_16 : decode cX0_addPerson 16 = .ok (.iconst 0, 1) := by decide +kernel
theorem dX0_addPerson_17 : decode cX0_addPerson 17 = .ok (.ireturn, 1) := by decide +kernel
theorem dX0_addPerson_18 : decode cX0_addPerson 18 = .ok (.aload_n 0, 1) := by decide +kernel
theorem dX0_addPerson_19 : decode cX0_addPerson 19 = .ok (.getfield 37, 3) := by decide +kernel
theorem dX0_addPerson_22 : decode cX0_addPerson 22 = .ok (.aload_n 0, 1) := by decide +kernel
theorem dX0_addPerson_23 : decode cX0_addPerson 23 = .ok (.getfield 34, 3) := by decide +kernel
theorem dX0_addPerson_26 : decode cX0_addPerson 26 = .ok (.iload_n 1, 1) := by decide +kernel
theorem dX0_addPerson_27 : decode cX0_addPerson 27 = .ok (.iastore, 1) := by decide +kernel
theorem dX0_addPerson_28 : decode cX0_addPerson 28 = .ok (.aload_n 0, 1) := by decide +kernel
theorem dX0_addPerson_29 : decode cX0_addPerson 29 = .ok (.getfield 40, 3) := by decide +kernel
theorem dX0_addPerson_32 : decode cX0_addPerson 32 = .ok (.aload_n 0, 1) := by decide +kernel
theorem dX0_addPerson_33 : decode cX0_addPerson 33 = .ok (.getfield 34, 3) := by decide +kernel
theorem dX0_addPerson_36 : decode cX0_addPerson 36 = .ok (.iload_n 2, 1) := by decide +kernel
theorem dX0_addPerson_37 : decode cX0_addPerson 37 = .ok (.iastore, 1) := by decide +kernel
theorem dX0_addPerson_38 : decode cX0_addPerson 38 = .ok (.aload_n 0, 1) := by decide +kernel
theorem dX0_addPerson_39 : decode cX0_addPerson 39 = .ok (.getfield 43, 3) := by decide +kernel
theorem dX0_addPerson_42 : decode cX0_addPerson 42 = .ok (.aload_n 0, 1) := by decide +kernel
theorem dX0_addPerson_43 : decode cX0_addPerson 43 = .ok (.getfield 34, 3) := by decide +kernel
theorem dX0_addPerson_46 : decode cX0_addPerson 46 = .ok (.iconst 0, 1) := by decide +kernel
theorem dX0_addPerson_47 : decode cX0_addPerson 47 = .ok (.iastore, 1) := by decide +kernel
theorem dX0_addPerson_48 : decode cX0_addPerson 48 = .ok (.aload_n 0, 1) := by decide +kernel
theorem dX0_addPerson_49 : decode cX0_addPerson 49 = .ok (.dup, 1) := by decide +kernel
theorem dX0_addPerson_50 : decode cX0_addPerson 50 = .ok (.getfield 34, 3) := by decide +kernel
theorem dX0_addPerson_53 : decode cX0_addPerson 53 = .ok (.iconst 1, 1) := by decide +kernel
theorem dX0_addPerson_54 : decode cX0_addPerson 54 = .ok (.iadd, 1) := by decide +kernel
theorem dX0_addPerson_55 : decode cX0_addPerson 55 = .ok (.putfield 34, 3) := by decide +kernel
theorem dX0_addPerson_58 : decode cX0_addPerson 58 = .ok (.iconst 1, 1) := by decide +kernel
theorem dX0_addPerson_59 : decode cX0_addPerson 59 = .ok (.ireturn, 1) := by decide +kernel
theorem dX0_leadsFrom_0 : decode cX0_leadsFrom 0 = .ok (.aload_n 0, 1) := by decide +kernel
theorem dX0_leadsFrom_1 : decode cX0_leadsFrom 1 = .ok (.getfield 22, 3) := by decide +kernel
theorem dX0_leadsFrom_4 : decode cX0_leadsFrom 4 = .ok (.iload_n 1, 1) := by decide +kernel
theorem dX0_leadsFrom_5 : decode cX0_leadsFrom 5 = .ok (.iaload, 1) := by decide +kernel
theorem dX0_leadsFrom_6 : decode cX0_leadsFrom 6 = .ok (.iload_n 2, 1) := by decide +kernel
theorem dX0_leadsFrom_7 : decode cX0_leadsFrom 7 = .ok (.if_icmp .eq 13, 3) := by decide +kernel
theorem dX0_leadsFrom_10 : decode cX0_leadsFrom 10 = .ok (.aload_n 0, 1) := by decide +kernel
theorem dX0_leadsFrom_11 : decode cX0_leadsFrom 11 = .ok (.getfield 25, 3) := by decide +kernel
theorem dX0_leadsFrom_14 : decode cX0_leadsFrom 14 = .ok (.iload_n 1, 1) := by decide +kernel
theorem dX0_leadsFrom_15 : decode cX0_leadsFrom 15 = .ok (.iaload, 1) := by decide +kernel
theorem dX0_leadsFrom_16 : decode cX0_leadsFrom 16 = .ok (.iload_n 2, 1) := by decide +kernel
theorem dX0_leadsFrom_17 : decode cX0_leadsFrom 17 = .ok (.if_icmp .ne 7, 3) := by decide +kernel
theorem dX0_leadsFrom_20 : decode cX0_leadsFrom 20 = .ok (.iconst 1, 1) := by decide +kernel
theorem dX0_leadsFrom_21 : decode cX0_leadsFrom 21 = .ok (.goto 4, 3) := by decide +kernel
theorem dX0_leadsFrom_24 : decode cX0_leadsFrom 24 = .ok (.iconst 0, 1) := by decide +kernel
theorem dX0_leadsFrom_25 : decode cX0_leadsFrom 25 = .ok (.ireturn, 1) := by decide +kernel
theorem dX0_beyond_0 : decode cX0_beyond 0 = .ok (.aload_n 0, 1) := by decide +kernel
theorem dX0_beyond_1 : decode cX0_beyond 1 = .ok (.getfield 22, 3) := by decide +kernel
theorem dX0_beyond_4 : decode cX0_beyond 4 = .ok (.iload_n 1, 1) := by decide +kernel
theorem dX0_beyond_5 : decode cX0_beyond 5 = .ok (.iaload, 1) := by decide +kernel
theorem dX0_beyond_6 : decode cX0_beyond 6 = .ok (.iload_n 2, 1) := by decide +kernel
theorem dX0_beyond_7 : decode cX0_beyond 7 = .ok (.if_icmp .ne 12, 3) := by decide +kernel
theorem dX0_beyond_10 : decode cX0_beyond 10 = .ok (.aload_n 0, 1) := by decide +kernel
theorem dX0_beyond_11 : decode cX0_beyond 11 = .ok (.getfield 25, 3) := by decide +kernel
theorem dX0_beyond_14 : decode cX0_beyond 14 = .ok (.iload_n 1, 1) := by decide +kernel
theorem dX0_beyond_15 : decode cX0_beyond 15 = .ok (.iaload, 1) := by decide +kernel
theorem dX0_beyond_16 : decode cX0_beyond 16 = .ok (.goto 9, 3) := by decide +kernel
theorem dX0_beyond_19 : decode cX0_beyond 19 = .ok (.aload_n 0, 1) := by decide +kernel
theorem dX0_beyond_20 : decode cX0_beyond 20 = .ok (.getfield 22, 3) := by decide +kernel
theorem dX0_beyond_23 : decode cX0_beyond 23 = .ok (.iload_n 1, 1) := by decide +kernel
theorem dX0_beyond_24 : decode cX0_beyond 24 = .ok (.iaload, 1) := by decide +kernel
theorem dX0_beyond_25 : decode cX0_beyond 25 = .ok (.ireturn, 1) := by decide +kernel
theorem dX0_canOpen_0 : decode cX0_canOpen 0 = .ok (.aload_n 0, 1) := by decide +kernel
theorem dX0_canOpen_1 : decode cX0_canOpen 1 = .ok (.iload_n 2, 1) := by decide +kernel
theorem dX0_canOpen_2 : decode cX0_canOpen 2 = .ok (.aload_n 0, 1) := by decide +kernel
theorem dX0_canOpen_3 : decode cX0_canOpen 3 = .ok (.getfield 40, 3) := by decide +kernel
theorem dX0_canOpen_6 : decode cX0_canOpen 6 = .ok (.iload_n 1, 1) := by decide +kernel
theorem dX0_canOpen_7 : decode cX0_canOpen 7 = .ok (.iaload, 1) := by decide +kernel
theorem dX0_canOpen_8 : decode cX0_canOpen 8 = .ok (.invokevirtual 53, 3) := by decide +kernel
theorem dX0_canOpen_11 : decode cX0_canOpen 11 = .ok (.ireturn, 1) := by decide +kernel
theorem dX0_given_0 : decode cX0_given 0 = .ok (.aload_n 0, 1) := by decide +kernel
theorem dX0_given_1 : decode cX0_given 1 = .ok (.getfield 15, 3) := by decide +kernel
theorem dX0_given_4 : decode cX0_given 4 = .ok (.iload_n 1, 1) := by decide +kernel
theorem dX0_given_5 : decode cX0_given 5 = .ok (.iaload, 1) := by decide +kernel
theorem dX0_given_6 : decode cX0_given 6 = .ok (.aload_n 0, 1) := by decide +kernel
theorem dX0_given_7 : decode cX0_given 7 = .ok (.getfield 19, 3) := by decide +kernel
theorem dX0_given_10 : decode cX0_given 10 = .ok (.iload_n 1, 1) := by decide +kernel
theorem dX0_given_11 : decode cX0_given 11 = .ok (.iaload, 1) := by decide +kernel
theorem dX0_given_12 : decode cX0_given 12 = .ok (.aload_n 0, 1) := by decide +kernel
theorem dX0_given_13 : decode cX0_given 13 = .ok (.getfield 28, 3) := by decide +kernel
theorem dX0_given_16 : decode cX0_given 16 = .ok (.iload_n 1, 1) := by decide +kernel
theorem dX0_given_17 : decode cX0_given 17 = .ok (.iaload, 1) := by decide +kernel
theorem dX0_given_18 : decode cX0_given 18 = .ok (.invokestatic 57, 3) := by decide +kernel
theorem dX0_given_21 : decode cX0_given 21 = .ok (.ireturn, 1) := by decide +kernel
theorem dX0_givenAfter_0 : decode cX0_givenAfter 0 = .ok (.aload_n 0, 1) := by decide +kernel
theorem dX0_givenAfter_1 : decode cX0_givenAfter 1 = .ok (.getfield 15, 3) := by decide +kernel
theorem dX0_givenAfter_4 : decode cX0_givenAfter 4 = .ok (.iload_n 1, 1) := by decide +kernel
theorem dX0_givenAfter_5 : decode cX0_givenAfter 5 = .ok (.iaload, 1) := by decide +kernel
theorem dX0_givenAfter_6 : decode cX0_givenAfter 6 = .ok (.aload_n 0, 1) := by decide +kernel
theorem dX0_givenAfter_7 : decode cX0_givenAfter 7 = .ok (.getfield 19, 3) := by decide +kernel
theorem dX0_givenAfter_10 : decode cX0_givenAfter 10 = .ok (.iload_n 1, 1) := by decide +kernel
theorem dX0_givenAfter_11 : decode cX0_givenAfter 11 = .ok (.iaload, 1) := by decide +kernel
theorem dX0_givenAfter_12 : decode cX0_givenAfter 12 = .ok (.aload_n 0, 1) := by decide +kernel
theorem dX0_givenAfter_13 : decode cX0_givenAfter 13 = .ok (.getfield 28, 3) := by decide +kernel
theorem dX0_givenAfter_16 : decode cX0_givenAfter 16 = .ok (.iload_n 1, 1) := by decide +kernel
theorem dX0_givenAfter_17 : decode cX0_givenAfter 17 = .ok (.iaload, 1) := by decide +kernel
theorem dX0_givenAfter_18 : decode cX0_givenAfter 18 = .ok (.iload_n 2, 1) := by decide +kernel
theorem dX0_givenAfter_19 : decode cX0_givenAfter 19 = .ok (.invokestatic 63, 3) := by decide +kernel
theorem dX0_givenAfter_22 : decode cX0_givenAfter 22 = .ok (.istore_n 3, 1) := by decide +kernel
theorem dX0_givenAfter_23 : decode cX0_givenAfter 23 = .ok (.aload_n 0, 1) := by decide +kernel
theorem dX0_givenAfter_24 : decode cX0_givenAfter 24 = .ok (.getfield 15, 3) := by decide +kernel
theorem dX0_givenAfter_27 : decode cX0_givenAfter 27 = .ok (.iload_n 1, 1) := by decide +kernel
theorem dX0_givenAfter_28 : decode cX0_givenAfter 28 = .ok (.iaload, 1) := by decide +kernel
theorem dX0_givenAfter_29 : decode cX0_givenAfter 29 = .ok (.aload_n 0, 1) := by decide +kernel
theorem dX0_givenAfter_30 : decode cX0_givenAfter 30 = .ok (.getfield 19, 3) := by decide +kernel
theorem dX0_givenAfter_33 : decode cX0_givenAfter 33 = .ok (.iload_n 1, 1) := by decide +kernel
theorem dX0_givenAfter_34 : decode cX0_givenAfter 34 = .ok (.iaload, 1) := by decide +kernel
theorem dX0_givenAfter_35 : decode cX0_givenAfter 35 = .ok (.iload_n 3, 1) := by decide +kernel
theorem dX0_givenAfter_36 : decode cX0_givenAfter 36 = .ok (.invokestatic 57, 3) := by decide +kernel
theorem dX0_givenAfter_39 : decode cX0_givenAfter 39 = .ok (.ireturn, 1) := by decide +kernel
theorem dX0_said_0 : decode cX0_said 0 = .ok (.aload_n 0, 1) := by decide +kernel
theorem dX0_said_1 : decode cX0_said 1 = .ok (.getfield 43, 3) := by decide +kernel
theorem dX0_said_4 : decode cX0_said 4 = .ok (.iload_n 1, 1) := by decide +kernel
theorem dX0_said_5 : decode cX0_said 5 = .ok (.iaload, 1) := by decide +kernel
theorem dX0_said_6 : decode cX0_said 6 = .ok (.iconst 2, 1) := by decide +kernel
theorem dX0_said_7 : decode cX0_said 7 = .ok (.idiv, 1) := by decide +kernel
theorem dX0_said_8 : decode cX0_said 8 = .ok (.aload_n 0, 1) := by decide +kernel
theorem dX0_said_9 : decode cX0_said 9 = .ok (.getfield 37, 3) := by decide +kernel
theorem dX0_said_12 : decode cX0_said 12 = .ok (.iload_n 1, 1) := by decide +kernel
theorem dX0_said_13 : decode cX0_said 13 = .ok (.iaload, 1) := by decide +kernel
theorem dX0_said_14 : decode cX0_said 14 = .ok (.iadd, 1) := by decide +kernel
theorem dX0_said_15 : decode cX0_said 15 = .ok (.ireturn, 1) := by decide +kernel
theorem dX0_open_0 : decode cX0_open 0 = .ok (.aload_n 0, 1) := by decide +kernel
theorem dX0_open_1 : decode cX0_open 1 = .ok (.getfield 15, 3) := by decide +kernel
theorem dX0_open_4 : decode cX0_open 4 = .ok (.iload_n 2, 1) := by decide +kernel
theorem dX0_open_5 : decode cX0_open 5 = .ok (.iaload, 1) := by decide +kernel
theorem dX0_open_6 : decode cX0_open 6 = .ok (.aload_n 0, 1) := by decide +kernel
theorem dX0_open_7 : decode cX0_open 7 = .ok (.getfield 19, 3) := by decide +kernel
theorem dX0_open_10 : decode cX0_open 10 = .ok (.iload_n 2, 1) := by decide +kernel
theorem dX0_open_11 : decode cX0_open 11 = .ok (.iaload, 1) := by decide +kernel
theorem dX0_open_12 : decode cX0_open 12 = .ok (.aload_n 0, 1) := by decide +kernel
theorem dX0_open_13 : decode cX0_open 13 = .ok (.getfield 28, 3) := by decide +kernel
theorem dX0_open_16 : decode cX0_open 16 = .ok (.iload_n 2, 1) := by decide +kernel
theorem dX0_open_17 : decode cX0_open 17 = .ok (.iaload, 1) := by decide +kernel
theorem dX0_open_18 : decode cX0_open 18 = .ok (.invokestatic 57, 3) := by decide +kernel
theorem dX0_open_21 : decode cX0_open 21 = .ok (.istore_n 3, 1) := by decide +kernel
theorem dX0_open_22 : decode cX0_open 22 = .ok (.aload_n 0, 1) := by decide +kernel
theorem dX0_open_23 : decode cX0_open 23 = .ok (.getfield 43, 3) := by decide +kernel
theorem dX0_open_26 : decode cX0_open 26 = .ok (.iload_n 1, 1) := by decide +kernel
theorem dX0_open_27 : decode cX0_open 27 = .ok (.bipush 99, 2) := by decide +kernel
theorem dX0_open_29 : decode cX0_open 29 = .ok (.aload_n 0, 1) := by decide +kernel
theorem dX0_open_30 : decode cX0_open 30 = .ok (.getfield 43, 3) := by decide +kernel
theorem dX0_open_33 : decode cX0_open 33 = .ok (.iload_n 1, 1) := by decide +kernel
theorem dX0_open_34 : decode cX0_open 34 = .ok (.iaload, 1) := by decide +kernel
theorem dX0_open_35 : decode cX0_open 35 = .ok (.iload_n 3, 1) := by decide +kernel
theorem dX0_open_36 : decode cX0_open 36 = .ok (.iadd, 1) := by decide +kernel
theorem dX0_open_37 : decode cX0_open 37 = .ok (.invokestatic 67, 3) := by decide +kernel
theorem dX0_open_40 : decode cX0_open 40 = .ok (.iastore, 1) := by decide +kernel
theorem dX0_open_41 : decode cX0_open 41 = .ok (.aload_n 0, 1) := by decide +kernel
theorem dX0_open_42 : decode cX0_open 42 = .ok (.iload_n 2, 1) := by decide +kernel
theorem dX0_open_43 : decode cX0_open 43 = .ok (.aload_n 0, 1) := by decide +kernel
theorem dX0_open_44 : decode cX0_open 44 = .ok (.getfield 15, 3) := by decide +kernel
theorem dX0_open_47 : decode cX0_open 47 = .ok (.iload_n 2, 1) := by decide +kernel
theorem dX0_open_48 : decode cX0_open 48 = .ok (.iaload, 1) := by decide +kernel
theorem dX0_open_49 : decode cX0_open 49 = .ok (.aload_n 0, 1) := by decide +kernel
theorem dX0_open_50 : decode cX0_open 50 = .ok (.getfield 19, 3) := by decide +kernel
theorem dX0_open_53 : decode cX0_open 53 = .ok (.iload_n 2, 1) := by decide +kernel
theorem dX0_open_54 : decode cX0_open 54 = .ok (.iaload, 1) := by decide +kernel
theorem dX0_open_55 : decode cX0_open 55 = .ok (.aload_n 0, 1) := by decide +kernel
theorem dX0_open_56 : decode cX0_open 56 = .ok (.iload_n 1, 1) := by decide +kernel
theorem dX0_open_57 : decode cX0_open 57 = .ok (.invokevirtual 73, 3) := by decide +kernel
theorem dX0_open_60 : decode cX0_open 60 = .ok (.invokestatic 77, 3) := by decide +kernel
theorem dX0_open_63 : decode cX0_open 63 = .ok (.iload_n 1, 1) := by decide +kernel
theorem dX0_open_64 : decode cX0_open 64 = .ok (.invokevirtual 80, 3) := by decide +kernel
theorem dX0_open_67 : decode cX0_open 67 = .ok (.aload_n 0, 1) := by decide +kernel
theorem dX0_open_68 : decode cX0_open 68 = .ok (.getfield 40, 3) := by decide +kernel
theorem dX0_open_71 : decode cX0_open 71 = .ok (.iload_n 1, 1) := by decide +kernel
theorem dX0_open_72 : decode cX0_open 72 = .ok (.aload_n 0, 1) := by decide +kernel
theorem dX0_open_73 : decode cX0_open 73 = .ok (.iload_n 2, 1) := by decide +kernel
theorem dX0_open_74 : decode cX0_open 74 = .ok (.aload_n 0, 1) := by decide +kernel
theorem dX0_open_75 : decode cX0_open 75 = .ok (.getfield 40, 3) := by decide +kernel
theorem dX0_open_78 : decode cX0_open 78 = .ok (.iload_n 1, 1) := by decide +kernel
theorem dX0_open_79 : decode cX0_open 79 = .ok (.iaload, 1) := by decide +kernel
theorem dX0_open_80 : decode cX0_open 80 = .ok (.invokevirtual 84, 3) := by decide +kernel
theorem dX0_open_83 : decode cX0_open 83 = .ok (.iastore, 1) := by decide +kernel
theorem dX0_open_84 : decode cX0_open 84 = .ok (.aload_n 0, 1) := by decide +kernel
theorem dX0_open_85 : decode cX0_open 85 = .ok (.getfield 43, 3) := by decide +kernel
theorem dX0_open_88 : decode cX0_open 88 = .ok (.iload_n 1, 1) := by decide +kernel
theorem dX0_open_89 : decode cX0_open 89 = .ok (.iconst 0, 1) := by decide +kernel
theorem dX0_open_90 : decode cX0_open 90 = .ok (.aload_n 0, 1) := by decide +kernel
theorem dX0_open_91 : decode cX0_open 91 = .ok (.getfield 43, 3) := by decide +kernel
theorem dX0_open_94 : decode cX0_open 94 = .ok (.iload_n 1, 1) := by decide +kernel
theorem dX0_open_95 : decode cX0_open 95 = .ok (.iaload, 1) := by decide +kernel
theorem dX0_open_96 : decode cX0_open 96 = .ok (.iconst 5, 1) := by decide +kernel
theorem dX0_open_97 : decode cX0_open 97 = .ok (.isub, 1) := by decide +kernel
theorem dX0_open_98 : decode cX0_open 98 = .ok (.invokestatic 87, 3) := by decide +kernel
theorem dX0_open_101 : decode cX0_open 101 = .ok (.iastore, 1) := by decide +kernel
theorem dX0_open_102 : decode cX0_open 102 = .ok (.return_, 1) := by decide +kernel
theorem dX0_fill_0 : decode cX0_fill 0 = .ok (.aload_n 0, 1) := by decide +kernel
theorem dX0_fill_1 : decode cX0_fill 1 = .ok (.getfield 28, 3) := by decide +kernel
theorem dX0_fill_4 : decode cX0_fill 4 = .ok (.iload_n 1, 1) := by decide +kernel
theorem dX0_fill_5 : decode cX0_fill 5 = .ok (.iload_n 2, 1) := by decide +kernel
theorem dX0_fill_6 : decode cX0_fill 6 = .ok (.iastore, 1) := by decide +kernel
theorem dX0_fill_7 : decode cX0_fill 7 = .ok (.aload_n 0, 1) := by decide +kernel
theorem dX0_fill_8 : decode cX0_fill 8 = .ok (.getfield 31, 3) := by decide +kernel
theorem dX0_fill_11 : decode cX0_fill 11 = .ok (.iload_n 1, 1) := by decide +kernel
theorem dX0_fill_12 : decode cX0_fill 12 = .ok (.iload_n 2, 1) := by decide +kernel
theorem dX0_fill_13 : decode cX0_fill 13 = .ok (.ifCond .le 7, 3) := by decide +kernel
theorem dX0_fill_16 : decode cX0_fill 16 = .ok (.iload_n 3, 1) := by decide +kernel
theorem dX0_fill_17 : decode cX0_fill 17 = .ok (.goto 5, 3) := by decide +kernel
theorem dX0_fill_20 : decode cX0_fill 20 = .ok (.bipush 9, 2) := by decide +kernel
theorem dX0_fill_22 : decode cX0_fill 22 = .ok (.iastore, 1) := by decide +kernel
theorem dX0_fill_23 : decode cX0_fill 23 = .ok (.return_, 1) := by decide +kernel
theorem dX0_heatAfter_0 : decode cX0_heatAfter 0 = .ok (.aload_n 0, 1) := by decide +kernel
theorem dX0_heatAfter_1 : decode cX0_heatAfter 1 = .ok (.getfield 15, 3) := by decide +kernel
theorem dX0_heatAfter_4 : decode cX0_heatAfter 4 = .ok (.iload_n 1, 1) := by decide +kernel
theorem dX0_heatAfter_5 : decode cX0_heatAfter 5 = .ok (.iaload, 1) := by decide +kernel
theorem dX0_heatAfter_6 : decode cX0_heatAfter 6 = .ok (.aload_n 0, 1) := by decide +kernel
theorem dX0_heatAfter_7 : decode cX0_heatAfter 7 = .ok (.getfield 19, 3) := by decide +kernel
theorem dX0_heatAfter_10 : decode cX0_heatAfter 10 = .ok (.iload_n 1, 1) := by decide +kernel
theorem dX0_heatAfter_11 : decode cX0_heatAfter 11 = .ok (.iaload, 1) := by decide +kernel
theorem dX0_heatAfter_12 : decode cX0_heatAfter 12 = .ok (.aload_n 0, 1) := by decide +kernel
theorem dX0_heatAfter_13 : decode cX0_heatAfter 13 = .ok (.getfield 28, 3) := by decide +kernel
theorem dX0_heatAfter_16 : decode cX0_heatAfter 16 = .ok (.iload_n 1, 1) := by decide +kernel
theorem dX0_heatAfter_17 : decode cX0_heatAfter 17 = .ok (.iaload, 1) := by decide +kernel
theorem dX0_heatAfter_18 : decode cX0_heatAfter 18 = .ok (.iload_n 2, 1) := by decide +kernel
theorem dX0_heatAfter_19 : decode cX0_heatAfter 19 = .ok (.invokestatic 63, 3) := by decide +kernel
theorem dX0_heatAfter_22 : decode cX0_heatAfter 22 = .ok (.ireturn, 1) := by decide +kernel
theorem dX0_moodAfter_0 : decode cX0_moodAfter 0 = .ok (.iconst 0, 1) := by decide +kernel
theorem dX0_moodAfter_1 : decode cX0_moodAfter 1 = .ok (.aload_n 0, 1) := by decide +kernel
theorem dX0_moodAfter_2 : decode cX0_moodAfter 2 = .ok (.getfield 43, 3) := by decide +kernel
theorem dX0_moodAfter_5 : decode cX0_moodAfter 5 = .ok (.iload_n 1, 1) := by decide +kernel
theorem dX0_moodAfter_6 : decode cX0_moodAfter 6 = .ok (.iaload, 1) := by decide +kernel
theorem dX0_moodAfter_7 : decode cX0_moodAfter 7 = .ok (.iload_n 2, 1) := by decide +kernel
theorem dX0_moodAfter_8 : decode cX0_moodAfter 8 = .ok (.iconst 3, 1) := by decide +kernel
theorem dX0_moodAfter_9 : decode cX0_moodAfter 9 = .ok (.imul, 1) := by decide +kernel
theorem dX0_moodAfter_10 : decode cX0_moodAfter 10 = .ok (.isub, 1) := by decide +kernel
theorem dX0_moodAfter_11 : decode cX0_moodAfter 11 = .ok (.invokestatic 87, 3) := by decide +kernel
theorem dX0_moodAfter_14 : decode cX0_moodAfter 14 = .ok (.ireturn, 1) := by decide +kernel
theorem dX0_pass_0 : decode cX0_pass 0 = .ok (.aload_n 0, 1) := by decide +kernel
theorem dX0_pass_1 : decode cX0_pass 1 = .ok (.dup, 1) := by decide +kernel
theorem dX0_pass_2 : decode cX0_pass 2 = .ok (.getfield 46, 3) := by decide +kernel
theorem dX0_pass_5 : decode cX0_pass 5 = .ok (.iload_n 1, 1) := by decide +kernel
theorem dX0_pass_6 : decode cX0_pass 6 = .ok (.iadd, 1) := by decide +kernel
theorem dX0_pass_7 : decode cX0_pass 7 = .ok (.putfield 46, 3) := by decide +kernel
theorem dX0_pass_10 : decode cX0_pass 10 = .ok (.iconst 0, 1) := by decide +kernel
theorem dX0_pass_11 : decode cX0_pass 11 = .ok (.istore_n 2, 1) := by decide +kernel
theorem dX0_pass_12 : decode cX0_pass 12 = .ok (.iload_n 2, 1) := by decide +kernel
theorem dX0_pass_13 : decode cX0_pass 13 = .ok (.aload_n 0, 1) := by decide +kernel
theorem dX0_pass_14 : decode cX0_pass 14 = .ok (.getfield 9, 3) := by decide +kernel
theorem dX0_pass_17 : decode cX0_pass 17 = .ok (.if_icmp .ge 42, 3) := by decide +kernel
theorem dX0_pass_20 : decode cX0_pass 20 = .ok (.aload_n 0, 1) := by decide +kernel
theorem dX0_pass_21 : decode cX0_pass 21 = .ok (.iload_n 2, 1) := by decide +kernel
theorem dX0_pass_22 : decode cX0_pass 22 = .ok (.aload_n 0, 1) := by decide +kernel
theorem dX0_pass_23 : decode cX0_pass 23 = .ok (.getfield 15, 3) := by decide +kernel
theorem dX0_pass_26 : decode cX0_pass 26 = .ok (.iload_n 2, 1) := by decide +kernel
theorem dX0_pass_27 : decode cX0_pass 27 = .ok (.iaload, 1) := by decide +kernel
theorem dX0_pass_28 : decode cX0_pass 28 = .ok (.aload_n 0, 1) := by decide +kernel
theorem dX0_pass_29 : decode cX0_pass 29 = .ok (.getfield 19, 3) := by decide +kernel
theorem dX0_pass_32 : decode cX0_pass 32 = .ok (.iload_n 2, 1) := by decide +kernel
theorem dX0_pass_33 : decode cX0_pass 33 = .ok (.iaload, 1) := by decide +kernel
theorem dX0_pass_34 : decode cX0_pass 34 = .ok (.aload_n 0, 1) := by decide +kernel
theorem dX0_pass_35 : decode cX0_pass 35 = .ok (.getfield 28, 3) := by decide +kernel
theorem dX0_pass_38 : decode cX0_pass 38 = .ok (.iload_n 2, 1) := by decide +kernel
theorem dX0_pass_39 : decode cX0_pass 39 = .ok (.iaload, 1) := by decide +kernel
theorem dX0_pass_40 : decode cX0_pass 40 = .ok (.iload_n 1, 1) := by decide +kernel
theorem dX0_pass_41 : decode cX0_pass 41 = .ok (.invokestatic 63, 3) := by decide +kernel
theorem dX0_pass_44 : decode cX0_pass 44 = .ok (.aload_n 0, 1) := by decide +kernel
theorem dX0_pass_45 : decode cX0_pass 45 = .ok (.getfield 31, 3) := by decide +kernel
theorem dX0_pass_48 : decode cX0_pass 48 = .ok (.iload_n 2, 1) := by decide +kernel
theorem dX0_pass_49 : decode cX0_pass 49 = .ok (.iaload, 1) := by decide +kernel
theorem dX0_pass_50 : decode cX0_pass 50 = .ok (.invokevirtual 80, 3) := by decide +kernel
theorem dX0_pass_53 : decode cX0_pass 53 = .ok (.iinc 2 1, 3) := by decide +kernel
theorem dX0_pass_56 : decode cX0_pass 56 = .ok (.goto (-44), 3) := by decide +kernel
theorem dX0_pass_59 : decode cX0_pass 59 = .ok (.iconst 0, 1) := by decide +kernel
theorem dX0_pass_60 : decode cX0_pass 60 = .ok (.istore_n 2, 1) := by decide +kernel
theorem dX0_pass_61 : decode cX0_pass 61 = .ok (.iload_n 2, 1) := by decide +kernel
theorem dX0_pass_62 : decode cX0_pass 62 = .ok (.aload_n 0, 1) := by decide +kernel
theorem dX0_pass_63 : decode cX0_pass 63 = .ok (.getfield 34, 3) := by decide +kernel
theorem dX0_pass_66 : decode cX0_pass 66 = .ok (.if_icmp .ge 21, 3) := by decide +kernel
theorem dX0_pass_69 : decode cX0_pass 69 = .ok (.aload_n 0, 1) := by decide +kernel
theorem dX0_pass_70 : decode cX0_pass 70 = .ok (.getfield 43, 3) := by decide +kernel
theorem dX0_pass_73 : decode cX0_pass 73 = .ok (.iload_n 2, 1) := by decide +kernel
theorem dX0_pass_74 : decode cX0_pass 74 = .ok (.aload_n 0, 1) := by decide +kernel
theorem dX0_pass_75 : decode cX0_pass 75 = .ok (.iload_n 2, 1) := by decide +kernel
theorem dX0_pass_76 : decode cX0_pass 76 = .ok (.iload_n 1, 1) := by decide +kernel
theorem dX0_pass_77 : decode cX0_pass 77 = .ok (.invokevirtual 90, 3) := by decide +kernel
theorem dX0_pass_80 : decode cX0_pass 80 = .ok (.iastore, 1) := by decide +kernel
theorem dX0_pass_81 : decode cX0_pass 81 = .ok (.iinc 2 1, 3) := by decide +kernel
theorem dX0_pass_84 : decode cX0_pass 84 = .ok (.goto (-23), 3) := by decide +kernel
theorem dX0_pass_87 : decode cX0_pass 87 = .ok (.return_, 1) := by decide +kernel
theorem dX0_allHeat_0 : decode cX0_allHeat 0 = .ok (.iconst 0, 1) := by decide +kernel
theorem dX0_allHeat_1 : decode cX0_allHeat 1 = .ok (.istore_n 1, 1) := by decide +kernel
theorem dX0_allHeat_2 : decode cX0_allHeat 2 = .ok (.iconst 0, 1) := by decide +kernel
theorem dX0_allHeat_3 : decode cX0_allHeat 3 = .ok (.istore_n 2, 1) := by decide +kernel
theorem dX0_allHeat_4 : decode cX0_allHeat 4 = .ok (.iload_n 2, 1) := by decide +kernel
theorem dX0_allHeat_5 : decode cX0_allHeat 5 = .ok (.aload_n 0, 1) := by decide +kernel
theorem dX0_allHeat_6 : decode cX0_allHeat 6 = .ok (.getfield 9, 3) := by decide +kernel
theorem dX0_allHeat_9 : decode cX0_allHeat 9 = .ok (.if_icmp .ge 18, 3) := by decide +kernel
theorem dX0_allHeat_12 : decode cX0_allHeat 12 = .ok (.iload_n 1, 1) := by decide +kernel
theorem dX0_allHeat_13 : decode cX0_allHeat 13 = .ok (.aload_n 0, 1) := by decide +kernel
theorem dX0_allHeat_14 : decode cX0_allHeat 14 = .ok (.getfield 28, 3) := by decide +kernel
theorem dX0_allHeat_17 : decode cX0_allHeat 17 = .ok (.iload_n 2, 1) := by decide +kernel
theorem dX0_allHeat_18 : decode cX0_allHeat 18 = .ok (.iaload, 1) := by decide +kernel
theorem dX0_allHeat_19 : decode cX0_allHeat 19 = .ok (.iadd, 1) := by decide +kernel
theorem dX0_allHeat_20 : decode cX0_allHeat 20 = .ok (.istore_n 1, 1) := by decide +kernel
theorem dX0_allHeat_21 : decode cX0_allHeat 21 = .ok (.iinc 2 1, 3) := by decide +kernel
theorem dX0_allHeat_24 : decode cX0_allHeat 24 = .ok (.goto (-20), 3) := by decide +kernel
theorem dX0_allHeat_27 : decode cX0_allHeat 27 = .ok (.iload_n 1, 1) := by decide +kernel
theorem dX0_allHeat_28 : decode cX0_allHeat 28 = .ok (.ireturn, 1) := by decide +kernel
theorem dX0_allMood_0 : decode cX0_allMood 0 = .ok (.iconst 0, 1) := by decide +kernel
theorem dX0_allMood_1 : decode cX0_allMood 1 = .ok (.istore_n 1, 1) := by decide +kernel
theorem dX0_allMood_2 : decode cX0_allMood 2 = .ok (.iconst 0, 1) := by decide +kernel
theorem dX0_allMood_3 : decode cX0_allMood 3 = .ok (.istore_n 2, 1) := by decide +kernel
theorem dX0_allMood_4 : decode cX0_allMood 4 = .ok (.iload_n 2, 1) := by decide +kernel
theorem dX0_allMood_5 : decode cX0_allMood 5 = .ok (.aload_n 0, 1) := by decide +kernel
theorem dX0_allMood_6 : decode cX0_allMood 6 = .ok (.getfield 34, 3) := by decide +kernel
theorem dX0_allMood_9 : decode cX0_allMood 9 = .ok (.if_icmp .ge 18, 3) := by decide +kernel
theorem dX0_allMood_12 : decode cX0_allMood 12 = .ok (.iload_n 1, 1) := by decide +kernel
theorem dX0_allMood_13 : decode cX0_allMood 13 = .ok (.aload_n 0, 1) := by decide +kernel
theorem dX0_allMood_14 : decode cX0_allMood 14 = .ok (.getfield 43, 3) := by decide +kernel
theorem dX0_allMood_17 : decode cX0_allMood 17 = .ok (.iload_n 2, 1) := by decide +kernel
theorem dX0_allMood_18 : decode cX0_allMood 18 = .ok (.iaload, 1) := by decide +kernel
theorem dX0_allMood_19 : decode cX0_allMood 19 = .ok (.iadd, 1) := by decide +kernel
theorem dX0_allMood_20 : decode cX0_allMood 20 = .ok (.istore_n 1, 1) := by decide +kernel
theorem dX0_allMood_21 : decode cX0_allMood 21 = .ok (.iinc 2 1, 3) := by decide +kernel
theorem dX0_allMood_24 : decode cX0_allMood 24 = .ok (.goto (-20), 3) := by decide +kernel
theorem dX0_allMood_27 : decode cX0_allMood 27 = .ok (.iload_n 1, 1) := by decide +kernel
theorem dX0_allMood_28 : decode cX0_allMood 28 = .ok (.ireturn, 1) := by decide +kernel
theorem dX0_doorsOfVoice_0 : decode cX0_doorsOfVoice 0 = .ok (.iconst 0, 1) := by decide +kernel
theorem dX0_doorsOfVoice_1 : decode cX0_doorsOfVoice 1 = .ok (.istore_n 2, 1) := by decide +kernel
theorem dX0_doorsOfVoice_2 : decode cX0_doorsOfVoice 2 = .ok (.iconst 0, 1) := by decide +kernel
theorem dX0_doorsOfVoice_3 : decode cX0_doorsOfVoice 3 = .ok (.istore_n 3, 1) := by decide +kernel
theorem dX0_doorsOfVoice_4 : decode cX0_doorsOfVoice 4 = .ok (.iload_n 3, 1) := by decide +kernel
theorem dX0_doorsOfVoice_5 : decode cX0_doorsOfVoice 5 = .ok (.aload_n 0, 1) := by decide +kernel
theorem dX0_doorsOfVoice_6 : decode cX0_doorsOfVoice 6 = .ok (.getfield 9, 3) := by decide +kernel
theorem dX0_doorsOfVoice_9 : decode cX0_doorsOfVoice 9 = .ok (.if_icmp .ge 25, 3) := by decide +kernel
theorem dX0_doorsOfVoice_12 : decode cX0_doorsOfVoice 12 = .ok (.aload_n 0, 1) := by decide +kernel
theorem dX0_doorsOfVoice_13 : decode cX0_doorsOfVoice 13 = .ok (.getfield 31, 3) := by decide +kernel
theorem dX0_doorsOfVoice_16 : decode cX0_doorsOfVoice 16 = .ok (.iload_n 3, 1) := by decide +kernel
theorem dX0_doorsOfVoice_17 : decode cX0_doorsOfVoice 17 = .ok (.iaload, 1) := by decide +kernel
theorem dX0_doorsOfVoice_18 : decode cX0_doorsOfVoice 18 = .ok (.iload_n 1, 1) := by decide +kernel
theorem dX0_doorsOfVoice_19 : decode cX0_doorsOfVoice 19 = .ok (.if_icmp .ne 9, 3) := by decide +kernel
theorem dX0_doorsOfVoice_22 : decode cX0_doorsOfVoice 22 = .ok (.iload_n 2, 1) := by decide +kernel
theorem dX0_doorsOfVoice_23 : decode cX0_doorsOfVoice 23 = .ok (.iconst 1, 1) := by decide +kernel
theorem dX0_doorsOfVoice_24 : decode cX0_doorsOfVoice 24 = .ok (.iload_n 3, 1) := by decide +kernel
theorem dX0_doorsOfVoice_25 : decode cX0_doorsOfVoice 25 = .ok (.ishl, 1) := by decide +kernel
theorem dX0_doorsOfVoice_26 : decode cX0_doorsOfVoice 26 = .ok (.ior, 1) := by decide +kernel
theorem dX0_doorsOfVoice_27 : decode cX0_doorsOfVoice 27 = .ok (.istore_n 2, 1) := by decide +kernel
theorem dX0_doorsOfVoice_28 : decode cX0_doorsOfVoice 28 = .ok (.iinc 3 1, 3) := by decide +kernel
theorem dX0_doorsOfVoice_31 : decode cX0_doorsOfVoice 31 = .ok (.goto (-27), 3) := by decide +kernel
theorem dX0_doorsOfVoice_34 : decode cX0_doorsOfVoice 34 = .ok (.iload_n 2, 1) := by decide +kernel
theorem dX0_doorsOfVoice_35 : decode cX0_doorsOfVoice 35 = .ok (.ireturn, 1) := by decide +kernel
theorem dX1_gives_0 : decode cX1_gives 0 = .ok (.iload_n 0, 1) := by decide +kernel
theorem dX1_gives_1 : decode cX1_gives 1 = .ok (.tableswitch 53 1 5 #[35, 37, 39, 53, 45], 35) := by decide +kernel
theorem dX1_gives_36 : decode cX1_gives 36 = .ok (.iload_n 2, 1) := by decide +kernel
theorem dX1_gives_37 : decode cX1_gives 37 = .ok (.ireturn, 1) := by decide +kernel
theorem dX1_gives_38 : decode cX1_gives 38 = .ok (.iconst 0, 1) := by decide +kernel
theorem dX1_gives_39 : decode cX1_gives 39 = .ok (.ireturn, 1) := by decide +kernel
theorem dX1_gives_40 : decode cX1_gives 40 = .ok (.iload_n 1, 1) := by decide +kernel
theorem dX1_gives_41 : decode cX1_gives 41 = .ok (.iload_n 2, 1) := by decide +kernel
theorem dX1_gives_42 : decode cX1_gives 42 = .ok (.invokestatic 9, 3) := by decide +kernel
theorem dX1_gives_45 : decode cX1_gives 45 = .ok (.ireturn, 1) := by decide +kernel
theorem dX1_gives_46 : decode cX1_gives 46 = .ok (.iload_n 1, 1) := by decide +kernel
theorem dX1_gives_47 : decode cX1_gives 47 = .ok (.iload_n 2, 1) := by decide +kernel
theorem dX1_gives_48 : decode cX1_gives 48 = .ok (.invokestatic 9, 3) := by decide +kernel
theorem dX1_gives_51 : decode cX1_gives 51 = .ok (.iconst 2, 1) := by decide +kernel
theorem dX1_gives_52 : decode cX1_gives 52 = .ok (.idiv, 1) := by decide +kernel
theorem dX1_gives_53 : decode cX1_gives 53 = .ok (.ireturn, 1) := by decide +kernel
theorem dX1_gives_54 : decode cX1_gives 54 = .ok (.iload_n 2, 1) := by decide +kernel
theorem dX1_gives_55 : decode cX1_gives 55 = .ok (.iconst 2, 1) := by decide +kernel
theorem dX1_gives_56 : decode cX1_gives 56 = .ok (.idiv, 1) := by decide +kernel
theorem dX1_gives_57 : decode cX1_gives 57 = .ok (.ireturn, 1) := by decide +kernel
theorem dX1_slammedGives_0 : decode cX1_slammedGives 0 = .ok (.iload_n 1, 1) := by decide +kernel
theorem dX1_slammedGives_1 : decode cX1_slammedGives 1 = .ok (.ifCond .le 9, 3) := by decide +kernel
theorem dX1_slammedGives_4 : decode cX1_slammedGives 4 = .ok (.iload_n 1, 1) := by decide +kernel
theorem dX1_slammedGives_5 : decode cX1_slammedGives 5 = .ok (.iload_n 0, 1) := by decide +kernel
theorem dX1_slammedGives_6 : decode cX1_slammedGives 6 = .ok (.iadd, 1) := by decide +kernel
theorem dX1_slammedGives_7 : decode cX1_slammedGives 7 = .ok (.goto 4, 3) := by decide +kernel
theorem dX1_slammedGives_10 : decode cX1_slammedGives 10 = .ok (.iload_n 1, 1) := by decide +kernel
theorem dX1_slammedGives_11 : decode cX1_slammedGives 11 = .ok (.ireturn, 1) := by decide +kernel
theorem dX1_keeps_0 : decode cX1_keeps 0 = .ok (.iload_n 0, 1) := by decide +kernel
theorem dX1_keeps_1 : decode cX1_keeps 1 = .ok (.tableswitch 49 2 5 #[31, 40, 31, 40], 31) := by decide +kernel
theorem dX1_keeps_32 : decode cX1_keeps 32 = .ok (.bipush 99, 2) := by decide +kernel
theorem dX1_keeps_34 : decode cX1_keeps 34 = .ok (.iload_n 2, 1) := by decide +kernel
theorem dX1_keeps_35 : decode cX1_keeps 35 = .ok (.iconst 4, 1) := by decide +kernel
theorem dX1_keeps_36 : decode cX1_keeps 36 = .ok (.idiv, 1) := by decide +kernel
theorem dX1_keeps_37 : decode cX1_keeps 37 = .ok (.invokestatic 15, 3) := by decide +kernel
theorem dX1_keeps_40 : decode cX1_keeps 40 = .ok (.ireturn, 1) := by decide +kernel
theorem dX1_keeps_41 : decode cX1_keeps 41 = .ok (.bipush 99, 2) := by decide +kernel
theorem dX1_keeps_43 : decode cX1_keeps 43 = .ok (.iload_n 2, 1) := by decide +kernel
theorem dX1_keeps_44 : decode cX1_keeps 44 = .ok (.iload_n 1, 1) := by decide +kernel
theorem dX1_keeps_45 : decode cX1_keeps 45 = .ok (.iadd, 1) := by decide +kernel
theorem dX1_keeps_46 : decode cX1_keeps 46 = .ok (.invokestatic 15, 3) := by decide +kernel
theorem dX1_keeps_49 : decode cX1_keeps 49 = .ok (.ireturn, 1) := by decide +kernel
theorem dX1_keeps_50 : decode cX1_keeps 50 = .ok (.bipush 99, 2) := by decide +kernel
theorem dX1_keeps_52 : decode cX1_keeps 52 = .ok (.iload_n 2, 1) := by decide +kernel
theorem dX1_keeps_53 : decode cX1_keeps 53 = .ok (.invokestatic 15, 3) := by decide +kernel
theorem dX1_keeps_56 : decode cX1_keeps 56 = .ok (.ireturn, 1) := by decide +kernel
theorem dX1_cooled_0 : decode cX1_cooled 0 = .ok (.iconst 0, 1) := by decide +kernel
theorem dX1_cooled_1 : decode cX1_cooled 1 = .ok (.iload_n 2, 1) := by decide +kernel
theorem dX1_cooled_2 : decode cX1_cooled 2 = .ok (.iload_n 3, 1) := by decide +kernel
theorem dX1_cooled_3 : decode cX1_cooled 3 = .ok (.iload_n 0, 1) := by decide +kernel
theorem dX1_cooled_4 : decode cX1_cooled 4 = .ok (.iload_n 1, 1) := by decide +kernel
theorem dX1_cooled_5 : decode cX1_cooled 5 = .ok (.invokestatic 20, 3) := by decide +kernel
theorem dX1_cooled_8 : decode cX1_cooled 8 = .ok (.imul, 1) := by decide +kernel
theorem dX1_cooled_9 : decode cX1_cooled 9 = .ok (.isub, 1) := by decide +kernel
theorem dX1_cooled_10 : decode cX1_cooled 10 = .ok (.invokestatic 23, 3) := by decide +kernel
theorem dX1_cooled_13 : decode cX1_cooled 13 = .ok (.ireturn, 1) := by decide +kernel
theorem dX1_coolsBy_0 : decode cX1_coolsBy 0 = .ok (.iload_n 0, 1) := by decide +kernel
theorem dX1_coolsBy_1 : decode cX1_coolsBy 1 = .ok (.tableswitch 43 1 5 #[35, 43, 37, 39, 37], 35) := by decide +kernel
theorem dX1_coolsBy_36 : decode cX1_coolsBy 36 = .ok (.iconst 1, 1) := by decide +kernel
theorem dX1_coolsBy_37 : decode cX1_coolsBy 37 = .ok (.ireturn, 1) := by decide +kernel
theorem dX1_coolsBy_38 : decode cX1_coolsBy 38 = .ok (.iconst 0, 1) := by decide +kernel
theorem dX1_coolsBy_39 : decode cX1_coolsBy 39 = .ok (.ireturn, 1) := by decide +kernel
theorem dX1_coolsBy_40 : decode cX1_coolsBy 40 = .ok (.iconst 2, 1) := by decide +kernel
theorem dX1_coolsBy_41 : decode cX1_coolsBy 41 = .ok (.iload_n 1, 1) := by decide +kernel
theorem dX1_coolsBy_42 : decode cX1_coolsBy 42 = .ok (.iadd, 1) := by decide +kernel
theorem dX1_coolsBy_43 : decode cX1_coolsBy 43 = .ok (.ireturn, 1) := by decide +kernel
theorem dX1_coolsBy_44 : decode cX1_coolsBy 44 = .ok (.iconst 2, 1) := by decide +kernel
theorem dX1_coolsBy_45 : decode cX1_coolsBy 45 = .ok (.ireturn, 1) := by decide +kernel
theorem dX1_ofLetter_0 : decode cX1_ofLetter 0 = .ok (.iload_n 0, 1) := by decide +kernel
theorem dX1_ofLetter_1 : decode cX1_ofLetter 1 = .ok (.tableswitch 99 98 115 #[97, 91, 87, 99, 99, 95, 99, 99, 99, 99, 99, 99, 99, 89, 99, 99, 99, 93], 87) := by decide +kernel
theorem dX1_ofLetter_88 : decode cX1_ofLetter 88 = .ok (.iconst 0, 1) := by decide +kernel
theorem dX1_ofLetter_89 : decode cX1_ofLetter 89 = .ok (.ireturn, 1) := by decide +kernel
theorem dX1_ofLetter_90 : decode cX1_ofLetter 90 = .ok (.iconst 1, 1) := by decide +kernel
theorem dX1_ofLetter_91 : decode cX1_ofLetter 91 = .ok (.ireturn, 1) := by decide +kernel
theorem dX1_ofLetter_92 : decode cX1_ofLetter 92 = .ok (.iconst 2, 1) := by decide +kernel
theorem dX1_ofLetter_93 : decode cX1_ofLetter 93 = .ok (.ireturn, 1) := by decide +kernel
theorem dX1_ofLetter_94 : decode cX1_ofLetter 94 = .ok (.iconst 3, 1) := by decide +kernel
theorem dX1_ofLetter_95 : decode cX1_ofLetter 95 = .ok (.ireturn, 1) := by decide +kernel
theorem dX1_ofLetter_96 : decode cX1_ofLetter 96 = .ok (.iconst 4, 1) := by decide +kernel
theorem dX1_ofLetter_97 : decode cX1_ofLetter 97 = .ok (.ireturn, 1) := by decide +kernel
theorem dX1_ofLetter_98 : decode cX1_ofLetter 98 = .ok (.iconst 5, 1) := by decide +kernel
theorem dX1_ofLetter_99 : decode cX1_ofLetter 99 = .ok (.ireturn, 1) := by decide +kernel
theorem dX1_ofLetter_100 : decode cX1_ofLetter 100 = .ok (.bipush (-9), 2) := by decide +kernel
theorem dX1_ofLetter_102 : decode cX1_ofLetter 102 = .ok (.ireturn, 1) := by decide +kernel
theorem dX2_init_0 : decode cX2_init 0 = .ok (.aload_n 0, 1) := by decide +kernel
theorem dX2_init_1 : decode cX2_init 1 = .ok (.invokespecial 3, 3) := by decide +kernel
theorem dX2_init_4 : decode cX2_init 4 = .ok (.aload_n 0, 1) := by decide +kernel
theorem dX2_init_5 : decode cX2_init 5 = .ok (.bipush 96, 2) := by decide +kernel
theorem dX2_init_7 : decode cX2_init 7 = .ok (.newarray .int, 2) := by decide +kernel
theorem dX2_init_9 : decode cX2_init 9 = .ok (.putfield 9, 3) := by decide +kernel
theorem dX2_init_12 : decode cX2_init 12 = .ok (.aload_n 0, 1) := by decide +kernel
theorem dX2_init_13 : decode cX2_init 13 = .ok (.iconst 0, 1) := by decide +kernel
theorem dX2_init_14 : decode cX2_init 14 = .ok (.putfield 15, 3) := by decide +kernel
theorem dX2_init_17 : decode cX2_init 17 = .ok (.return_, 1) := by decide +kernel
theorem dX2_add_0 : decode cX2_add 0 = .ok (.aload_n 0, 1) := by decide +kernel
theorem dX2_add_1 : decode cX2_add 1 = .ok (.getfield 15, 3) := by decide +kernel
theorem dX2_add_4 : decode cX2_add 4 = .ok (.bipush 96, 2) := by decide +kernel
theorem dX2_add_6 : decode cX2_add 6 = .ok (.if_icmp .ge 23, 3) := by decide +kernel
theorem dX2_add_9 : decode cX2_add 9 = .ok (.aload_n 0, 1) := by decide +kernel
theorem dX2_add_10 : decode cX2_add 10 = .ok (.getfield 9, 3) := by decide +kernel
theorem dX2_add_13 : decode cX2_add 13 = .ok (.aload_n 0, 1) := by decide +kernel
theorem dX2_add_14 : decode cX2_add 14 = .ok (.getfield 15, 3) := by decide +kernel
theorem dX2_add_17 : decode cX2_add 17 = .ok (.iload_n 1, 1) := by decide +kernel
theorem dX2_add_18 : decode cX2_add 18 = .ok (.iastore, 1) := by decide +kernel
theorem dX2_add_19 : decode cX2_add 19 = .ok (.aload_n 0, 1) := by decide +kernel
theorem dX2_add_20 : decode cX2_add 20 = .ok (.dup, 1) := by decide +kernel
theorem dX2_add_21 : decode cX2_add 21 = .ok (.getfield 15, 3) := by decide +kernel
theorem dX2_add_24 : decode cX2_add 24 = .ok (.iconst 1, 1) := by decide +kernel
theorem dX2_add_25 : decode cX2_add 25 = .ok (.iadd, 1) := by decide +kernel
theorem dX2_add_26 : decode cX2_add 26 = .ok (.putfield 15, 3) := by decide +kernel
theorem dX2_add_29 : decode cX2_add 29 = .ok (.return_, 1) := by decide +kernel
theorem dX2_at_0 : decode cX2_at 0 = .ok (.iload_n 1, 1) := by decide +kernel
theorem dX2_at_1 : decode cX2_at 1 = .ok (.ifCond .lt 20, 3) := by decide +kernel
theorem dX2_at_4 : decode cX2_at 4 = .ok (.iload_n 1, 1) := by decide +kernel
theorem dX2_at_5 : decode cX2_at 5 = .ok (.aload_n 0, 1) := by decide +kernel
theorem dX2_at_6 : decode cX2_at 6 = .ok (.getfield 15, 3) := by decide +kernel
theorem dX2_at_9 : decode cX2_at 9 = .ok (.if_icmp .ge 12, 3) := by decide +kernel
theorem dX2_at_12 : decode cX2_at 12 = .ok (.aload_n 0, 1) := by decide +kernel
theorem dX2_at_13 : decode cX2_at 13 = .ok (.getfield 9, 3) := by decide +kernel
theorem dX2_at_16 : decode cX2_at 16 = .ok (.iload_n 1, 1) := by decide +kernel
theorem dX2_at_17 : decode cX2_at 17 = .ok (.iaload, 1) := by decide +kernel
theorem dX2_at_18 : decode cX2_at 18 = .ok (.goto 5, 3) := by decide +kernel
theorem dX2_at_21 : decode cX2_at 21 = .ok (.bipush (-9), 2) := by decide +kernel
theorem dX2_at_23 : decode cX2_at 23 = .ok (.ireturn, 1) := by decide +kernel
theorem dX2_isDigit_0 : decode cX2_isDigit 0 = .ok (.aload_n 0, 1) := by decide +kernel
theorem dX2_isDigit_1 : decode cX2_isDigit 1 = .ok (.iload_n 1, 1) := by decide +kernel
theorem dX2_isDigit_2 : decode cX2_isDigit 2 = .ok (.invokevirtual 19, 3) := by decide +kernel
theorem dX2_isDigit_5 : decode cX2_isDigit 5 = .ok (.bipush 48, 2) := by decide +kernel
theorem dX2_isDigit_7 : decode cX2_isDigit 7 = .ok (.if_icmp .lt 17, 3) := by decide +kernel
theorem dX2_isDigit_10 : decode cX2_isDigit 10 = .ok (.aload_n 0, 1) := by decide +kernel
theorem dX2_isDigit_11 : decode cX2_isDigit 11 = .ok (.iload_n 1, 1) := by decide +kernel
theorem dX2_isDigit_12 : decode cX2_isDigit 12 = .ok (.invokevirtual 19, 3) := by decide +kernel
theorem dX2_isDigit_15 : decode cX2_isDigit 15 = .ok (.bipush 57, 2) := by decide +kernel
theorem dX2_isDigit_17 : decode cX2_isDigit 17 = .ok (.if_icmp .gt 7, 3) := by decide +kernel
theorem dX2_isDigit_20 : decode cX2_isDigit 20 = .ok (.iconst 1, 1) := by decide +kernel
theorem dX2_isDigit_21 : decode cX2_isDigit 21 = .ok (.goto 4, 3) := by decide +kernel
theorem dX2_isDigit_24 : decode cX2_isDigit 24 = .ok (.iconst 0, 1) := by decide +kernel
theorem dX2_isDigit_25 : decode cX2_isDigit 25 = .ok (.ireturn, 1) := by decide +kernel
theorem dX2_digit_0 : decode cX2_digit 0 = .ok (.aload_n 0, 1) := by decide +kernel
theorem dX2_digit_1 : decode cX2_digit 1 = .ok (.iload_n 1, 1) := by decide +kernel
theorem dX2_digit_2 : decode cX2_digit 2 = .ok (.invokevirtual 23, 3) := by decide +kernel
theorem dX2_digit_5 : decode cX2_digit 5 = .ok (.ifCond .eq 14, 3) := by decide +kernel
theorem dX2_digit_8 : decode cX2_digit 8 = .ok (.aload_n 0, 1) := by decide +kernel
theorem dX2_digit_9 : decode cX2_digit 9 = .ok (.iload_n 1, 1) := by decide +kernel
theorem dX2_digit_10 : decode cX2_digit 10 = .ok (.invokevirtual 19, 3) := by decide +kernel
theorem dX2_digit_13 : decode cX2_digit 13 = .ok (.bipush 48, 2) := by decide +kernel
theorem dX2_digit_15 : decode cX2_digit 15 = .ok (.isub, 1) := by decide +kernel
theorem dX2_digit_16 : decode cX2_digit 16 = .ok (.goto 4, 3) := by decide +kernel
theorem dX2_digit_19 : decode cX2_digit 19 = .ok (.iconst 0, 1) := by decide +kernel
theorem dX2_digit_20 : decode cX2_digit 20 = .ok (.ireturn, 1) := by decide +kernel
theorem dX2_twoDigits_0 : decode cX2_twoDigits 0 = .ok (.bipush 10, 2) := by decide +kernel
theorem dX2_twoDigits_2 : decode cX2_twoDigits 2 = .ok (.aload_n 0, 1) := by decide +kernel
theorem dX2_twoDigits_3 : decode cX2_twoDigits 3 = .ok (.iload_n 1, 1) := by decide +kernel
theorem dX2_twoDigits_4 : decode cX2_twoDigits 4 = .ok (.invokevirtual 27, 3) := by decide +kernel
theorem dX2_twoDigits_7 : decode cX2_twoDigits 7 = .ok (.imul, 1) := by decide +kernel
theorem dX2_twoDigits_8 : decode cX2_twoDigits 8 = .ok (.aload_n 0, 1) := by decide +kernel
theorem dX2_twoDigits_9 : decode cX2_twoDigits 9 = .ok (.iload_n 1, 1) := by decide +kernel
theorem dX2_twoDigits_10 : decode cX2_twoDigits 10 = .ok (.iconst 1, 1) := by decide +kernel
theorem dX2_twoDigits_11 : decode cX2_twoDigits 11 = .ok (.iadd, 1) := by decide +kernel
theorem dX2_twoDigits_12 : decode cX2_twoDigits 12 = .ok (.invokevirtual 27, 3) := by decide +kernel
theorem dX2_twoDigits_15 : decode cX2_twoDigits 15 = .ok (.iadd, 1) := by decide +kernel
theorem dX2_twoDigits_16 : decode cX2_twoDigits 16 = .ok (.ireturn, 1) := by decide +kernel
theorem dX2_lengthOf_0 : decode cX2_lengthOf 0 = .ok (.iload_n 0, 1) := by decide +kernel
theorem dX2_lengthOf_1 : decode cX2_lengthOf 1 = .ok (.tableswitch 90 97 113 #[88, 90, 90, 83, 90, 90, 90, 86, 90, 90, 90, 90, 90, 90, 86, 86, 83], 83) := by decide +kernel
theorem dX2_lengthOf_84 : decode cX2_lengthOf 84 = .ok (.bipush 6, 2) := by decide +kernel
theorem dX2_lengthOf_86 : decode cX2_lengthOf 86 = .ok (.ireturn, 1) := by decide +kernel
theorem dX2_lengthOf_87 : decode cX2_lengthOf 87 = .ok (.iconst 4, 1) := by decide +kernel
theorem dX2_lengthOf_88 : decode cX2_lengthOf 88 = .ok (.ireturn, 1) := by decide +kernel
theorem dX2_lengthOf_89 : decode cX2_lengthOf 89 = .ok (.iconst 3, 1) := by decide +kernel
theorem dX2_lengthOf_90 : decode cX2_lengthOf 90 = .ok (.ireturn, 1) := by decide +kernel
theorem dX2_lengthOf_91 : decode cX2_lengthOf 91 = .ok (.iconst 0, 1) := by decide +kernel
theorem dX2_lengthOf_92 : decode cX2_lengthOf 92 = .ok (.ireturn, 1) := by decide +kernel
theorem dX2_misspelling_0 : decode cX2_misspelling 0 = .ok (.aload_n 0, 1) := by decide +kernel
theorem dX2_misspelling_1 : decode cX2_misspelling 1 = .ok (.getfield 15, 3) := by decide +kernel
theorem dX2_misspelling_4 : decode cX2_misspelling 4 = .ok (.ifCond .ne 7, 3) := by decide +kernel
theorem dX2_misspelling_7 : decode cX2_misspelling 7 = .ok (.sipush (-1000), 3) := by decide +kernel
theorem dX2_misspelling_10 : decode cX2_misspelling 10 = .ok (.ireturn, 1) := by decide +kernel
theorem dX2_misspelling_11 : decode cX2_misspelling 11 = .ok (.iconst 0, 1) := by decide +kernel
theorem dX2_misspelling_12 : decode cX2_misspelling 12 = .ok (.istore_n 1, 1) := by decide +kernel
theorem dX2_misspelling_13 : decode cX2_misspelling 13 = .ok (.iconst 0, 1) := by decide +kernel
theorem dX2_misspelling_14 : decode cX2_misspelling 14 = .ok (.istore_n 2, 1) := by decide +kernel
theorem dX2_misspelling_15 : decode cX2_misspelling 15 = .ok (.iload_n 2, 1) := by decide +kernel
theorem dX2_misspelling_16 : decode cX2_misspelling 16 = .ok (.bipush 96, 2) := by decide +kernel
theorem dX2_misspelling_18 : decode cX2_misspelling 18 = .ok (.if_icmp .ge 77, 3) := by decide +kernel
theorem dX2_misspelling_21 : decode cX2_misspelling 21 = .ok (.iload_n 1, 1) := by decide +kernel
theorem dX2_misspelling_22 : decode cX2_misspelling 22 = .ok (.aload_n 0, 1) := by decide +kernel
theorem dX2_misspelling_23 : decode cX2_misspelling 23 = .ok (.getfield 15, 3) := by decide +kernel
theorem dX2_misspelling_26 : decode cX2_misspelling 26 = .ok (.if_icmp .ge 69, 3) := by decide +kernel
theorem dX2_misspelling_29 : decode cX2_misspelling 29 = .ok (.aload_n 0, 1) := by decide +kernel
theorem dX2_misspelling_30 : decode cX2_misspelling 30 = .ok (.iload_n 1, 1) := by decide +kernel
theorem dX2_misspelling_31 : decode cX2_misspelling 31 = .ok (.invokevirtual 19, 3) := by decide +kernel
theorem dX2_misspelling_34 : decode cX2_misspelling 34 = .ok (.invokestatic 30, 3) := by decide +kernel
theorem dX2_misspelling_37 : decode cX2_misspelling 37 = .ok (.istore_n 3, 1) := by decide +kernel
theorem dX2_misspelling_38 : decode cX2_misspelling 38 = .ok (.iload_n 3, 1) := by decide +kernel
theorem dX2_misspelling_39 : decode cX2_misspelling 39 = .ok (.ifCond .ne 9, 3) := by decide +kernel
theorem dX2_misspelling_42 : decode cX2_misspelling 42 = .ok (.sipush (-1000), 3) := by decide +kernel
theorem dX2_misspelling_45 : decode cX2_misspelling 45 = .ok (.iload_n 1, 1) := by decide +kernel
theorem dX2_misspelling_46 : decode cX2_misspelling 46 = .ok (.isub, 1) := by decide +kernel
theorem dX2_misspelling_47 : decode cX2_misspelling 47 = .ok (.ireturn, 1) := by decide +kernel
theorem dX2_misspelling_48 : decode cX2_misspelling 48 = .ok (.iload_n 1, 1) := by decide +kernel
theorem dX2_misspelling_49 : decode cX2_misspelling 49 = .ok (.iconst 1, 1) := by decide +kernel
theorem dX2_misspelling_50 : decode cX2_misspelling 50 = .ok (.iadd, 1) := by decide +kernel
theorem dX2_misspelling_51 : decode cX2_misspelling 51 = .ok (.istore 4, 2) := by decide +kernel
theorem dX2_misspelling_53 : decode cX2_misspelling 53 = .ok (.iload 4, 2) := by decide +kernel
theorem dX2_misspelling_55 : decode cX2_misspelling 55 = .ok (.iload_n 1, 1) := by decide +kernel
theorem dX2_misspelling_56 : decode cX2_misspelling 56 = .ok (.iload_n 3, 1) := by decide +kernel
theorem dX2_misspelling_57 : decode cX2_misspelling 57 = .ok (.iadd, 1) := by decide +kernel
theorem dX2_misspelling_58 : decode cX2_misspelling 58 = .ok (.if_icmp .ge 27, 3) := by decide +kernel
theorem dX2_misspelling_61 : decode cX2_misspelling 61 = .ok (.aload_n 0, 1) := by decide +kernel
theorem dX2_misspelling_62 : decode cX2_misspelling 62 = .ok (.iload 4, 2) := by decide +kernel
theorem dX2_misspelling_64 : decode cX2_misspelling 64 = .ok (.iload_n 1, 1) := by decide +kernel
theorem dX2_misspelling_65 : decode cX2_misspelling 65 = .ok (.iload_n 3, 1) := by decide +kernel
theorem dX2_misspelling_66 : decode cX2_misspelling 66 = .ok (.invokevirtual 33, 3) := by decide +kernel
theorem dX2_misspelling_69 : decode cX2_misspelling 69 = .ok (.ifCond .ne 10, 3) := by decide +kernel
theorem dX2_misspelling_72 : decode cX2_misspelling 72 = .ok (.sipush (-1000), 3) := by decide +kernel
theorem dX2_misspelling_75 : decode cX2_misspelling 75 = .ok (.iload 4, 2) := by decide +kernel
theorem dX2_misspelling_77 : decode cX2_misspelling 77 = .ok (.isub, 1) := by decide +kernel
theorem dX2_misspelling_78 : decode cX2_misspelling 78 = .ok (.ireturn, 1) := by decide +kernel
theorem dX2_misspelling_79 : decode cX2_misspelling 79 = .ok (.iinc 4 1, 3) := by decide +kernel
theorem dX2_misspelling_82 : decode cX2_misspelling 82 = .ok (.goto (-29), 3) := by decide +kernel
theorem dX2_misspelling_85 : decode cX2_misspelling 85 = .ok (.iload_n 1, 1) := by decide +kernel
theorem dX2_misspelling_86 : decode cX2_misspelling 86 = .ok (.iload_n 3, 1) := by decide +kernel
theorem dX2_misspelling_87 : decode cX2_misspelling 87 = .ok (.iadd, 1) := by decide +kernel
theorem dX2_misspelling_88 : decode cX2_misspelling 88 = .ok (.istore_n 1, 1) := by decide +kernel
theorem dX2_misspelling_89 : decode cX2_misspelling 89 = .ok (.iinc 2 1, 3) := by decide +kernel
theorem dX2_misspelling_92 : decode cX2_misspelling 92 = .ok (.goto (-77), 3) := by decide +kernel
theorem dX2_misspelling_95 : decode cX2_misspelling 95 = .ok (.iconst 0, 1) := by decide +kernel
theorem dX2_misspelling_96 : decode cX2_misspelling 96 = .ok (.ireturn, 1) := by decide +kernel
theorem dX2_fits_0 : decode cX2_fits 0 = .ok (.iload_n 1, 1) := by decide +kernel
theorem dX2_fits_1 : decode cX2_fits 1 = .ok (.iload_n 2, 1) := by decide +kernel
theorem dX2_fits_2 : decode cX2_fits 2 = .ok (.iload_n 3, 1) := by decide +kernel
theorem dX2_fits_3 : decode cX2_fits 3 = .ok (.iadd, 1) := by decide +kernel
theorem dX2_fits_4 : decode cX2_fits 4 = .ok (.iconst 1, 1) := by decide +kernel
theorem dX2_fits_5 : decode cX2_fits 5 = .ok (.isub, 1) := by decide +kernel
theorem dX2_fits_6 : decode cX2_fits 6 = .ok (.if_icmp .ne 19, 3) := by decide +kernel
theorem dX2_fits_9 : decode cX2_fits 9 = .ok (.aload_n 0, 1) := by decide +kernel
theorem dX2_fits_10 : decode cX2_fits 10 = .ok (.iload_n 1, 1) := by decide +kernel
theorem dX2_fits_11 : decode cX2_fits 11 = .ok (.invokevirtual 19, 3) := by decide +kernel
theorem dX2_fits_14 : decode cX2_fits 14 = .ok (.bipush 59, 2) := by decide +kernel
theorem dX2_fits_16 : decode cX2_fits 16 = .ok (.if_icmp .ne 7, 3) := by decide +kernel
theorem dX2_fits_19 : decode cX2_fits 19 = .ok (.iconst 1, 1) := by decide +kernel
theorem dX2_fits_20 : decode cX2_fits 20 = .ok (.goto 4, 3) := by decide +kernel
theorem dX2_fits_23 : decode cX2_fits 23 = .ok (.iconst 0, 1) := by decide +kernel
theorem dX2_fits_24 : decode cX2_fits 24 = .ok (.ireturn, 1) := by decide +kernel
theorem dX2_fits_25 : decode cX2_fits 25 = .ok (.iload_n 1, 1) := by decide +kernel
theorem dX2_fits_26 : decode cX2_fits 26 = .ok (.iload_n 2, 1) := by decide +kernel
theorem dX2_fits_27 : decode cX2_fits 27 = .ok (.iconst 1, 1) := by decide +kernel
theorem dX2_fits_28 : decode cX2_fits 28 = .ok (.iadd, 1) := by decide +kernel
theorem dX2_fits_29 : decode cX2_fits 29 = .ok (.if_icmp .ne 32, 3) := by decide +kernel
theorem dX2_fits_32 : decode cX2_fits 32 = .ok (.aload_n 0, 1) := by decide +kernel
theorem dX2_fits_33 : decode cX2_fits 33 = .ok (.iload_n 2, 1) := by decide +kernel
theorem dX2_fits_34 : decode cX2_fits 34 = .ok (.invokevirtual 19, 3) := by decide +kernel
theorem dX2_fits_37 : decode cX2_fits 37 = .ok (.bipush 100, 2) := by decide +kernel
theorem dX2_fits_39 : decode cX2_fits 39 = .ok (.if_icmp .ne 22, 3) := by decide +kernel
theorem dX2_fits_42 : decode cX2_fits 42 = .ok (.aload_n 0, 1) := by decide +kernel
theorem dX2_fits_43 : decode cX2_fits 43 = .ok (.iload_n 1, 1) := by decide +kernel
theorem dX2_fits_44 : decode cX2_fits 44 = .ok (.invokevirtual 19, 3) := by decide +kernel
theorem dX2_fits_47 : decode cX2_fits 47 = .ok (.invokestatic 37, 3) := by decide +kernel
theorem dX2_fits_50 : decode cX2_fits 50 = .ok (.bipush (-9), 2) := by decide +kernel
theorem dX2_fits_52 : decode cX2_fits 52 = .ok (.if_icmp .eq 7, 3) := by decide +kernel
theorem dX2_fits_55 : decode cX2_fits 55 = .ok (.iconst 1, 1) := by decide +kernel
theorem dX2_fits_56 : decode cX2_fits 56 = .ok (.goto 4, 3) := by decide +kernel
theorem dX2_fits_59 : decode cX2_fits 59 = .ok (.iconst 0, 1) := by decide +kernel
theorem dX2_fits_60 : decode cX2_fits 60 = .ok (.ireturn, 1) := by decide +kernel
theorem dX2_fits_61 : decode cX2_fits 61 = .ok (.aload_n 0, 1) := by decide +kernel
theorem dX2_fits_62 : decode cX2_fits 62 = .ok (.iload_n 1, 1) := by decide +kernel
theorem dX2_fits_63 : decode cX2_fits 63 = .ok (.invokevirtual 23, 3) := by decide +kernel
theorem dX2_fits_66 : decode cX2_fits 66 = .ok (.ireturn, 1) := by decide +kernel
theorem dX2_carryOut_0 : decode cX2_carryOut 0 = .ok (.iconst 0, 1) := by decide +kernel
theorem dX2_carryOut_1 : decode cX2_carryOut 1 = .ok (.istore_n 2, 1) := by decide +kernel
theorem dX2_carryOut_2 : decode cX2_carryOut 2 = .ok (.iconst 0, 1) := by decide +kernel
theorem dX2_carryOut_3 : decode cX2_carryOut 3 = .ok (.istore_n 3, 1) := by decide +kernel
theorem dX2_carryOut_4 : decode cX2_carryOut 4 = .ok (.iconst 0, 1) := by decide +kernel
theorem dX2_carryOut_5 : decode cX2_carryOut 5 = .ok (.istore 4, 2) := by decide +kernel
theorem dX2_carryOut_7 : decode cX2_carryOut 7 = .ok (.iload 4, 2) := by decide +kernel
theorem dX2_carryOut_9 : decode cX2_carryOut 9 = .ok (.bipush 96, 2) := by decide +kernel
theorem dX2_carryOut_11 : decode cX2_carryOut 11 = .ok (.if_icmp .ge 46, 3) := by decide +kernel
theorem dX2_carryOut_14 : decode cX2_carryOut 14 = .ok (.iload_n 2, 1) := by decide +kernel
theorem dX2_carryOut_15 : decode cX2_carryOut 15 = .ok (.aload_n 0, 1) := by decide +kernel
theorem dX2_carryOut_16 : decode cX2_carryOut 16 = .ok (.getfield 15, 3) := by decide +kernel
theorem dX2_carryOut_19 : decode cX2_carryOut 19 = .ok (.if_icmp .ge 38, 3) := by decide +kernel
theorem dX2_carryOut_22 : decode cX2_carryOut 22 = .ok (.aload_n 0, 1) := by decide +kernel
theorem dX2_carryOut_23 : decode cX2_carryOut 23 = .ok (.aload_n 1, 1) := by decide +kernel
theorem dX2_carryOut_24 : decode cX2_carryOut 24 = .ok (.iload_n 2, 1) := by decide +kernel
theorem dX2_carryOut_25 : decode cX2_carryOut 25 = .ok (.invokevirtual 42, 3) := by decide +kernel
theorem dX2_carryOut_28 : decode cX2_carryOut 28 = .ok (.ifCond .ne 9, 3) := by decide +kernel
theorem dX2_carryOut_31 : decode cX2_carryOut 31 = .ok (.sipush (-2000), 3) := by decide +kernel
theorem dX2_carryOut_34 : decode cX2_carryOut 34 = .ok (.iload_n 2, 1) := by decide +kernel
theorem dX2_carryOut_35 : decode cX2_carryOut 35 = .ok (.isub, 1) := by decide +kernel
theorem dX2_carryOut_36 : decode cX2_carryOut 36 = .ok (.ireturn, 1) := by decide +kernel
theorem dX2_carryOut_37 : decode cX2_carryOut 37 = .ok (.iinc 3 1, 3) := by decide +kernel
theorem dX2_carryOut_40 : decode cX2_carryOut 40 = .ok (.iload_n 2, 1) := by decide +kernel
theorem dX2_carryOut_41 : decode cX2_carryOut 41 = .ok (.aload_n 0, 1) := by decide +kernel
theorem dX2_carryOut_42 : decode cX2_carryOut 42 = .ok (.iload_n 2, 1) := by decide +kernel
theorem dX2_carryOut_43 : decode cX2_carryOut 43 = .ok (.invokevirtual 19, 3) := by decide +kernel
theorem dX2_carryOut_46 : decode cX2_carryOut 46 = .ok (.invokestatic 30, 3) := by decide +kernel
theorem dX2_carryOut_49 : decode cX2_carryOut 49 = .ok (.iadd, 1) := by decide +kernel
theorem dX2_carryOut_50 : decode cX2_carryOut 50 = .ok (.istore_n 2, 1) := by decide +kernel
theorem dX2_carryOut_51 : decode cX2_carryOut 51 = .ok (.iinc 4 1, 3) := by decide +kernel
theorem dX2_carryOut_54 : decode cX2_carryOut 54 = .ok (.goto (-47), 3) := by decide +kernel
theorem dX2_carryOut_57 : decode cX2_carryOut 57 = .ok (.iload_n 3, 1) := by decide +kernel
theorem dX2_carryOut_58 : decode cX2_carryOut 58 = .ok (.ireturn, 1) := by decide +kernel
theorem dX2_happens_0 : decode cX2_happens 0 = .ok (.aload_n 0, 1) := by decide +kernel
theorem dX2_happens_1 : decode cX2_happens 1 = .ok (.iload_n 2, 1) := by decide +kernel
theorem dX2_happens_2 : decode cX2_happens 2 = .ok (.invokevirtual 19, 3) := by decide +kernel
theorem dX2_happens_5 : decode cX2_happens 5 = .ok (.tableswitch 207 97 113 #[183, 207, 207, 83, 207, 207, 207, 195, 207, 207, 207, 207, 207, 207, 138, 119, 157], 83) := by decide +kernel
theorem dX2_happens_88 : decode cX2_happens 88 = .ok (.aload_n 1, 1) := by decide +kernel
theorem dX2_happens_89 : decode cX2_happens 89 = .ok (.aload_n 0, 1) := by decide +kernel
theorem dX2_happens_90 : decode cX2_happens 90 = .ok (.iload_n 2, 1) := by decide +kernel
theorem dX2_happens_91 : decode cX2_happens 91 = .ok (.iconst 1, 1) := by decide +kernel
theorem dX2_happens_92 : decode cX2_happens 92 = .ok (.iadd, 1) := by decide +kernel
theorem dX2_happens_93 : decode cX2_happens 93 = .ok (.invokevirtual 19, 3) := by decide +kernel
theorem dX2_happens_96 : decode cX2_happens 96 = .ok (.invokestatic 37, 3) := by decide +kernel
theorem dX2_happens_99 : decode cX2_happens 99 = .ok (.aload_n 0, 1) := by decide +kernel
theorem dX2_happens_100 : decode cX2_happens 100 = .ok (.iload_n 2, 1) := by decide +kernel
theorem dX2_happens_101 : decode cX2_happens 101 = .ok (.iconst 2, 1) := by decide +kernel
theorem dX2_happens_102 : decode cX2_happens 102 = .ok (.iadd, 1) := by decide +kernel
theorem dX2_happens_103 : decode cX2_happens 103 = .ok (.invokevirtual 27, 3) := by decide +kernel
theorem dX2_happens_106 : decode cX2_happens 106 = .ok (.aload_n 0, 1) := by decide +kernel
theorem dX2_happens_107 : decode cX2_happens 107 = .ok (.iload_n 2, 1) := by decide +kernel
theorem dX2_happens_108 : decode cX2_happens 108 = .ok (.iconst 3, 1) := by decide +kernel
theorem dX2_happens_109 : decode cX2_happens 109 = .ok (.iadd, 1) := by decide +kernel
theorem dX2_happens_110 : decode cX2_happens 110 = .ok (.invokevirtual 27, 3) := by decide +kernel
theorem dX2_happens_113 : decode cX2_happens 113 = .ok (.aload_n 0, 1) := by decide +kernel
theorem dX2_happens_114 : decode cX2_happens 114 = .ok (.iload_n 2, 1) := by decide +kernel
theorem dX2_happens_115 : decode cX2_happens 115 = .ok (.iconst 4, 1) := by decide +kernel
theorem dX2_happens_116 : decode cX2_happens 116 = .ok (.iadd, 1) := by decide +kernel
theorem dX2_happens_117 : decode cX2_happens 117 = .ok (.invokevirtual 27, 3) := by decide +kernel
theorem dX2_happens_120 : decode cX2_happens 120 = .ok (.invokevirtual 46, 3) := by decide +kernel
theorem dX2_happens_123 : decode cX2_happens 123 = .ok (.ireturn, 1) := by decide +kernel
theorem dX2_happens_124 : decode cX2_happens 124 = .ok (.aload_n 1, 1) := by decide +kernel
theorem dX2_happens_125 : decode cX2_happens 125 = .ok (.aload_n 0, 1) := by decide +kernel
theorem dX2_happens_126 : decode cX2_happens 126 = .ok (.iload_n 2, 1) := by decide +kernel
theorem dX2_happens_127 : decode cX2_happens 127 = .ok (.iconst 1, 1) := by decide +kernel
theorem dX2_happens_128 : decode cX2_happens 128 = .ok (.iadd, 1) := by decide +kernel
theorem dX2_happens_129 : decode cX2_happens 129 = .ok (.invokevirtual 27, 3) := by decide +kernel
theorem dX2_happens_132 : decode cX2_happens 132 = .ok (.aload_n 0, 1) := by decide +kernel
theorem dX2_happens_133 : decode cX2_happens 133 = .ok (.iload_n 2, 1) := by decide +kernel
theorem dX2_happens_134 : decode cX2_happens 134 = .ok (.iconst 2, 1) := by decide +kernel
theorem dX2_happens_135 : decode cX2_happens 135 = .ok (.iadd, 1) := by decide +kernel
theorem dX2_happens_136 : decode cX2_happens 136 = .ok (.invokevirtual 27, 3) := by decide +kernel
theorem dX2_happens_139 : decode cX2_happens 139 = .ok (.invokevirtual 52, 3) := by decide +kernel
theorem dX2_happens_142 : decode cX2_happens 142 = .ok (.ireturn, 1) := by decide +kernel
theorem dX2_happens_143 : decode cX2_happens 143 = .ok (.aload_n 1, 1) := by decide +kernel
theorem dX2_happens_144 : decode cX2_happens 144 = .ok (.aload_n 0, 1) := by decide +kernel
theorem dX2_happens_145 : decode cX2_happens 145 = .ok (.iload_n 2, 1) := by decide +kernel
theorem dX2_happens_146 : decode cX2_happens 146 = .ok (.iconst 1, 1) := by decide +kernel
theorem dX2_happens_147 : decode cX2_happens 147 = .ok (.iadd, 1) := by decide +kernel
theorem dX2_happens_148 : decode cX2_happens 148 = .ok (.invokevirtual 27, 3) := by decide +kernel
theorem dX2_happens_151 : decode cX2_happens 151 = .ok (.aload_n 0, 1) := by decide +kernel
theorem dX2_happens_152 : decode cX2_happens 152 = .ok (.iload_n 2, 1) := by decide +kernel
theorem dX2_happens_153 : decode cX2_happens 153 = .ok (.iconst 2, 1) := by decide +kernel
theorem dX2_happens_154 : decode cX2_happens 154 = .ok (.iadd, 1) := by decide +kernel
theorem dX2_happens_155 : decode cX2_happens 155 = .ok (.invokevirtual 27, 3) := by decide +kernel
theorem dX2_happens_158 : decode cX2_happens 158 = .ok (.invokestatic 56, 3) := by decide +kernel
theorem dX2_happens_161 : decode cX2_happens 161 = .ok (.ireturn, 1) := by decide +kernel
theorem dX2_happens_162 : decode cX2_happens 162 = .ok (.aload_n 1, 1) := by decide +kernel
theorem dX2_happens_163 : decode cX2_happens 163 = .ok (.aload_n 0, 1) := by decide +kernel
theorem dX2_happens_164 : decode cX2_happens 164 = .ok (.iload_n 2, 1) := by decide +kernel
theorem dX2_happens_165 : decode cX2_happens 165 = .ok (.iconst 1, 1) := by decide +kernel
theorem dX2_happens_166 : decode cX2_happens 166 = .ok (.iadd, 1) := by decide +kernel
theorem dX2_happens_167 : decode cX2_happens 167 = .ok (.invokevirtual 27, 3) := by decide +kernel
theorem dX2_happens_170 : decode cX2_happens 170 = .ok (.aload_n 0, 1) := by decide +kernel
theorem dX2_happens_171 : decode cX2_happens 171 = .ok (.iload_n 2, 1) := by decide +kernel
theorem dX2_happens_172 : decode cX2_happens 172 = .ok (.iconst 2, 1) := by decide +kernel
theorem dX2_happens_173 : decode cX2_happens 173 = .ok (.iadd, 1) := by decide +kernel
theorem dX2_happens_174 : decode cX2_happens 174 = .ok (.invokevirtual 60, 3) := by decide +kernel
theorem dX2_happens_177 : decode cX2_happens 177 = .ok (.aload_n 0, 1) := by decide +kernel
theorem dX2_happens_178 : decode cX2_happens 178 = .ok (.iload_n 2, 1) := by decide +kernel
theorem dX2_happens_179 : decode cX2_happens 179 = .ok (.iconst 4, 1) := by decide +kernel
theorem dX2_happens_180 : decode cX2_happens 180 = .ok (.iadd, 1) := by decide +kernel
theorem dX2_happens_181 : decode cX2_happens 181 = .ok (.invokevirtual 27, 3) := by decide +kernel
theorem dX2_happens_184 : decode cX2_happens 184 = .ok (.invokestatic 63, 3) := by decide +kernel
theorem dX2_happens_187 : decode cX2_happens 187 = .ok (.ireturn, 1) := by decide +kernel
theorem dX2_happens_188 : decode cX2_happens 188 = .ok (.aload_n 1, 1) := by decide +kernel
theorem dX2_happens_189 : decode cX2_happens 189 = .ok (.aload_n 0, 1) := by decide +kernel
theorem dX2_happens_190 : decode cX2_happens 190 = .ok (.iload_n 2, 1) := by decide +kernel
theorem dX2_happens_191 : decode cX2_happens 191 = .ok (.iconst 1, 1) := by decide +kernel
theorem dX2_happens_192 : decode cX2_happens 192 = .ok (.iadd, 1) := by decide +kernel
theorem dX2_happens_193 : decode cX2_happens 193 = .ok (.invokevirtual 27, 3) := by decide +kernel
theorem dX2_happens_196 : decode cX2_happens 196 = .ok (.invokestatic 67, 3) := by decide +kernel
theorem dX2_happens_199 : decode cX2_happens 199 = .ok (.ireturn, 1) := by decide +kernel
theorem dX2_happens_200 : decode cX2_happens 200 = .ok (.aload_n 1, 1) := by decide +kernel
theorem dX2_happens_201 : decode cX2_happens 201 = .ok (.aload_n 0, 1) := by decide +kernel
theorem dX2_happens_202 : decode cX2_happens 202 = .ok (.iload_n 2, 1) := by decide +kernel
theorem dX2_happens_203 : decode cX2_happens 203 = .ok (.iconst 1, 1) := by decide +kernel
theorem dX2_happens_204 : decode cX2_happens 204 = .ok (.iadd, 1) := by decide +kernel
theorem dX2_happens_205 : decode cX2_happens 205 = .ok (.invokevirtual 60, 3) := by decide +kernel
theorem dX2_happens_208 : decode cX2_happens 208 = .ok (.invokestatic 70, 3) := by decide +kernel
theorem dX2_happens_211 : decode cX2_happens 211 = .ok (.ireturn, 1) := by decide +kernel
theorem dX2_happens_212 : decode cX2_happens 212 = .ok (.iconst 0, 1) := by decide +kernel
theorem dX2_happens_213 : decode cX2_happens 213 = .ok (.ireturn, 1) := by decide +kernel
theorem dX2_isOpened_0 : decode cX2_isOpened 0 = .ok (.aload_n 0, 1) := by decide +kernel
theorem dX2_isOpened_1 : decode cX2_isOpened 1 = .ok (.iload_n 1, 1) := by decide +kernel
theorem dX2_isOpened_2 : decode cX2_isOpened 2 = .ok (.invokevirtual 73, 3) := by decide +kernel
theorem dX2_isOpened_5 : decode cX2_isOpened 5 = .ok (.ifCond .eq 20, 3) := by decide +kernel
theorem dX2_isOpened_8 : decode cX2_isOpened 8 = .ok (.aload_n 0, 1) := by decide +kernel
theorem dX2_isOpened_9 : decode cX2_isOpened 9 = .ok (.iload_n 2, 1) := by decide +kernel
theorem dX2_isOpened_10 : decode cX2_isOpened 10 = .ok (.invokevirtual 76, 3) := by decide +kernel
theorem dX2_isOpened_13 : decode cX2_isOpened 13 = .ok (.ifCond .eq 12, 3) := by decide +kernel
theorem dX2_isOpened_16 : decode cX2_isOpened 16 = .ok (.aload_n 0, 1) := by decide +kernel
theorem dX2_isOpened_17 : decode cX2_isOpened 17 = .ok (.iload_n 1, 1) := by decide +kernel
theorem dX2_isOpened_18 : decode cX2_isOpened 18 = .ok (.iload_n 2, 1) := by decide +kernel
theorem dX2_isOpened_19 : decode cX2_isOpened 19 = .ok (.invokevirtual 79, 3) := by decide +kernel
theorem dX2_isOpened_22 : decode cX2_isOpened 22 = .ok (.ifCond .ne 5, 3) := by decide +kernel
theorem dX2_isOpened_25 : decode cX2_isOpened 25 = .ok (.iconst 0, 1) := by decide +kernel
theorem dX2_isOpened_26 : decode cX2_isOpened 26 = .ok (.ireturn, 1) := by decide +kernel
theorem dX2_isOpened_27 : decode cX2_isOpened 27 = .ok (.aload_n 0, 1) := by decide +kernel
theorem dX2_isOpened_28 : decode cX2_isOpened 28 = .ok (.iload_n 1, 1) := by decide +kernel
theorem dX2_isOpened_29 : decode cX2_isOpened 29 = .ok (.iload_n 2, 1) := by decide +kernel
theorem dX2_isOpened_30 : decode cX2_isOpened 30 = .ok (.invokevirtual 82, 3) := by decide +kernel
theorem dX2_isOpened_33 : decode cX2_isOpened 33 = .ok (.iconst 1, 1) := by decide +kernel
theorem dX2_isOpened_34 : decode cX2_isOpened 34 = .ok (.ireturn, 1) := by decide +kernel
theorem dX2_isFilled_0 : decode cX2_isFilled 0 = .ok (.aload_n 0, 1) := by decide +kernel
theorem dX2_isFilled_1 : decode cX2_isFilled 1 = .ok (.iload_n 1, 1) := by decide +kernel
theorem dX2_isFilled_2 : decode cX2_isFilled 2 = .ok (.invokevirtual 76, 3) := by decide +kernel
theorem dX2_isFilled_5 : decode cX2_isFilled 5 = .ok (.ifCond .eq 11, 3) := by decide +kernel
theorem dX2_isFilled_8 : decode cX2_isFilled 8 = .ok (.aload_n 0, 1) := by decide +kernel
theorem dX2_isFilled_9 : decode cX2_isFilled 9 = .ok (.iload_n 3, 1) := by decide +kernel
theorem dX2_isFilled_10 : decode cX2_isFilled 10 = .ok (.invokevirtual 73, 3) := by decide +kernel
theorem dX2_isFilled_13 : decode cX2_isFilled 13 = .ok (.ifCond .ne 5, 3) := by decide +kernel
theorem dX2_isFilled_16 : decode cX2_isFilled 16 = .ok (.iconst 0, 1) := by decide +kernel
theorem dX2_isFilled_17 : decode cX2_isFilled 17 = .ok (.ireturn, 1) := by decide +kernel
theorem dX2_isFilled_18 : decode cX2_isFilled 18 = .ok (.aload_n 0, 1) := by decide +kernel
theorem dX2_isFilled_19 : decode cX2_isFilled 19 = .ok (.iload_n 1, 1) := by decide +kernel
theorem dX2_isFilled_20 : decode cX2_isFilled 20 = .ok (.iload_n 2, 1) := by decide +kernel
theorem dX2_isFilled_21 : decode cX2_isFilled 21 = .ok (.iload_n 3, 1) := by decide +kernel
theorem dX2_isFilled_22 : decode cX2_isFilled 22 = .ok (.invokevirtual 86, 3) := by decide +kernel
theorem dX2_isFilled_25 : decode cX2_isFilled 25 = .ok (.iconst 1, 1) := by decide +kernel
theorem dX2_isFilled_26 : decode cX2_isFilled 26 = .ok (.ireturn, 1) := by decide +kernel
theorem dX2_isAired_0 : decode cX2_isAired 0 = .ok (.aload_n 0, 1) := by decide +kernel
theorem dX2_isAired_1 : decode cX2_isAired 1 = .ok (.iload_n 1, 1) := by decide +kernel
theorem dX2_isAired_2 : decode cX2_isAired 2 = .ok (.invokevirtual 76, 3) := by decide +kernel
theorem dX2_isAired_5 : decode cX2_isAired 5 = .ok (.ifCond .ne 5, 3) := by decide +kernel
theorem dX2_isAired_8 : decode cX2_isAired 8 = .ok (.iconst 0, 1) := by decide +kernel
theorem dX2_isAired_9 : decode cX2_isAired 9 = .ok (.ireturn, 1) := by decide +kernel
theorem dX2_isAired_10 : decode cX2_isAired 10 = .ok (.aload_n 0, 1) := by decide +kernel
theorem dX2_isAired_11 : decode cX2_isAired 11 = .ok (.iload_n 1, 1) := by decide +kernel
theorem dX2_isAired_12 : decode cX2_isAired 12 = .ok (.iconst 0, 1) := by decide +kernel
theorem dX2_isAired_13 : decode cX2_isAired 13 = .ok (.bipush 9, 2) := by decide +kernel
theorem dX2_isAired_15 : decode cX2_isAired 15 = .ok (.invokevirtual 86, 3) := by decide +kernel
theorem dX2_isAired_18 : decode cX2_isAired 18 = .ok (.iconst 1, 1) := by decide +kernel
theorem dX2_isAired_19 : decode cX2_isAired 19 = .ok (.ireturn, 1) := by decide +kernel
theorem dX2_goBy_0 : decode cX2_goBy 0 = .ok (.iload_n 1, 1) := by decide +kernel
theorem dX2_goBy_1 : decode cX2_goBy 1 = .ok (.iconst 1, 1) := by decide +kernel
theorem dX2_goBy_2 : decode cX2_goBy 2 = .ok (.if_icmp .lt 21, 3) := by decide +kernel
theorem dX2_goBy_5 : decode cX2_goBy 5 = .ok (.iload_n 1, 1) := by decide +kernel
theorem dX2_goBy_6 : decode cX2_goBy 6 = .ok (.bipush 60, 2) := by decide +kernel
theorem dX2_goBy_8 : decode cX2_goBy 8 = .ok (.if_icmp .gt 15, 3) := by decide +kernel
theorem dX2_goBy_11 : decode cX2_goBy 11 = .ok (.aload_n 0, 1) := by decide +kernel
theorem dX2_goBy_12 : decode cX2_goBy 12 = .ok (.getfield 90, 3) := by decide +kernel
theorem dX2_goBy_15 : decode cX2_goBy 15 = .ok (.iload_n 1, 1) := by decide +kernel
theorem dX2_goBy_16 : decode cX2_goBy 16 = .ok (.iadd, 1) := by decide +kernel
theorem dX2_goBy_17 : decode cX2_goBy 17 = .ok (.sipush 999, 3) := by decide +kernel
theorem dX2_goBy_20 : decode cX2_goBy 20 = .ok (.if_icmp .le 5, 3) := by decide +kernel
theorem dX2_goBy_23 : decode cX2_goBy 23 = .ok (.iconst 0, 1) := by decide +kernel
theorem dX2_goBy_24 : decode cX2_goBy 24 = .ok (.ireturn, 1) := by decide +kernel
theorem dX2_goBy_25 : decode cX2_goBy 25 = .ok (.aload_n 0, 1) := by decide +kernel
theorem dX2_goBy_26 : decode cX2_goBy 26 = .ok (.iload_n 1, 1) := by decide +kernel
theorem dX2_goBy_27 : decode cX2_goBy 27 = .ok (.invokevirtual 93, 3) := by decide +kernel
theorem dX2_goBy_30 : decode cX2_goBy 30 = .ok (.iconst 1, 1) := by decide +kernel
theorem dX2_goBy_31 : decode cX2_goBy 31 = .ok (.ireturn, 1) := by decide +kernel
theorem dX3_init_0 : decode cX3_init 0 = .ok (.aload_n 0, 1) := by decide +kernel
theorem dX3_init_1 : decode cX3_init 1 = .ok (.invokespecial 3, 3) := by decide +kernel
theorem dX3_init_4 : decode cX3_init 4 = .ok (.aload_n 0, 1) := by decide +kernel
theorem dX3_init_5 : decode cX3_init 5 = .ok (.bipush 9, 2) := by decide +kernel
theorem dX3_init_7 : decode cX3_init 7 = .ok (.newarray .int, 2) := by decide +kernel
theorem dX3_init_9 : decode cX3_init 9 = .ok (.putfield 9, 3) := by decide +kernel
theorem dX3_init_12 : decode cX3_init 12 = .ok (.aload_n 0, 1) := by decide +kernel
theorem dX3_init_13 : decode cX3_init 13 = .ok (.bipush 7, 2) := by decide +kernel
theorem dX3_init_15 : decode cX3_init 15 = .ok (.newarray .int, 2) := by decide +kernel
theorem dX3_init_17 : decode cX3_init 17 = .ok (.putfield 15, 3) := by decide +kernel
theorem dX3_init_20 : decode cX3_init 20 = .ok (.return_, 1) := by decide +kernel
theorem dX3_tollNothing_0 : decode cX3_tollNothing 0 = .ok (.iconst 0, 1) := by decide +kernel
theorem dX3_tollNothing_1 : decode cX3_tollNothing 1 = .ok (.istore_n 1, 1) := by decide +kernel
theorem dX3_tollNothing_2 : decode cX3_tollNothing 2 = .ok (.iload_n 1, 1) := by decide +kernel
theorem dX3_tollNothing_3 : decode cX3_tollNothing 3 = .ok (.bipush 9, 2) := by decide +kernel
theorem dX3_tollNothing_5 : decode cX3_tollNothing 5 = .ok (.if_icmp .ge 16, 3) := by decide +kernel
theorem dX3_tollNothing_8 : decode cX3_tollNothing 8 = .ok (.aload_n 0, 1) := by decide +kernel
theorem dX3_tollNothing_9 : decode cX3_tollNothing 9 = .ok (.getfield 9, 3) := by decide +kernel
theorem dX3_tollNothing_12 : decode cX3_tollNothing 12 = .ok (.iload_n 1, 1) := by decide +kernel
theorem dX3_tollNothing_13 : decode cX3_tollNothing 13 = .ok (.iconst 0, 1) := by decide +kernel
theorem dX3_tollNothing_14 : decode cX3_tollNothing 14 = .ok (.iastore, 1) := by decide +kernel
theorem dX3_tollNothing_15 : decode cX3_tollNothing 15 = .ok (.iinc 1 1, 3) := by decide +kernel
theorem dX3_tollNothing_18 : decode cX3_tollNothing 18 = .ok (.goto (-16), 3) := by decide +kernel
theorem dX3_tollNothing_21 : decode cX3_tollNothing 21 = .ok (.return_, 1) := by decide +kernel
theorem dX3_tollAfter_0 : decode cX3_tollAfter 0 = .ok (.iconst 0, 1) := by decide +kernel
theorem dX3_tollAfter_1 : decode cX3_tollAfter 1 = .ok (.istore_n 3, 1) := by decide +kernel
theorem dX3_tollAfter_2 : decode cX3_tollAfter 2 = .ok (.iload_n 3, 1) := by decide +kernel
theorem dX3_tollAfter_3 : decode cX3_tollAfter 3 = .ok (.aload_n 1, 1) := by decide +kernel
theorem dX3_tollAfter_4 : decode cX3_tollAfter 4 = .ok (.getfield 18, 3) := by decide +kernel
theorem dX3_tollAfter_7 : decode cX3_tollAfter 7 = .ok (.if_icmp .ge 21, 3) := by decide +kernel
theorem dX3_tollAfter_10 : decode cX3_tollAfter 10 = .ok (.aload_n 0, 1) := by decide +kernel
theorem dX3_tollAfter_11 : decode cX3_tollAfter 11 = .ok (.getfield 9, 3) := by decide +kernel
theorem dX3_tollAfter_14 : decode cX3_tollAfter 14 = .ok (.iload_n 3, 1) := by decide +kernel
theorem dX3_tollAfter_15 : decode cX3_tollAfter 15 = .ok (.aload_n 1, 1) := by decide +kernel
theorem dX3_tollAfter_16 : decode cX3_tollAfter 16 = .ok (.iload_n 3, 1) := by decide +kernel
theorem dX3_tollAfter_17 : decode cX3_tollAfter 17 = .ok (.iload_n 2, 1) := by decide +kernel
theorem dX3_tollAfter_18 : decode cX3_tollAfter 18 = .ok (.invokevirtual 24, 3) := by decide +kernel
theorem dX3_tollAfter_21 : decode cX3_tollAfter 21 = .ok (.iastore, 1) := by decide +kernel
theorem dX3_tollAfter_22 : decode cX3_tollAfter 22 = .ok (.iinc 3 1, 3) := by decide +kernel
theorem dX3_tollAfter_25 : decode cX3_tollAfter 25 = .ok (.goto (-23), 3) := by decide +kernel
theorem dX3_tollAfter_28 : decode cX3_tollAfter 28 = .ok (.return_, 1) := by decide +kernel
theorem dX3_setToll_0 : decode cX3_setToll 0 = .ok (.iload_n 1, 1) := by decide +kernel
theorem dX3_setToll_1 : decode cX3_setToll 1 = .ok (.ifCond .lt 16, 3) := by decide +kernel
theorem dX3_setToll_4 : decode cX3_setToll 4 = .ok (.iload_n 1, 1) := by decide +kernel
theorem dX3_setToll_5 : decode cX3_setToll 5 = .ok (.bipush 9, 2) := by decide +kernel
theorem dX3_setToll_7 : decode cX3_setToll 7 = .ok (.if_icmp .ge 10, 3) := by decide +kernel
theorem dX3_setToll_10 : decode cX3_setToll 10 = .ok (.aload_n 0, 1) := by decide +kernel
theorem dX3_setToll_11 : decode cX3_setToll 11 = .ok (.getfield 9, 3) := by decide +kernel
theorem dX3_setToll_14 : decode cX3_setToll 14 = .ok (.iload_n 1, 1) := by decide +kernel
theorem dX3_setToll_15 : decode cX3_setToll 15 = .ok (.iload_n 2, 1) := by decide +kernel
theorem dX3_setToll_16 : decode cX3_setToll 16 = .ok (.iastore, 1) := by decide +kernel
theorem dX3_setToll_17 : decode cX3_setToll 17 = .ok (.return_, 1) := by decide +kernel
theorem dX3_leadTo_0 : decode cX3_leadTo 0 = .ok (.iconst 0, 1) := by decide +kernel
theorem dX3_leadTo_1 : decode cX3_leadTo 1 = .ok (.istore_n 3, 1) := by decide +kernel
theorem dX3_leadTo_2 : decode cX3_leadTo 2 = .ok (.iload_n 3, 1) := by decide +kernel
theorem dX3_leadTo_3 : decode cX3_leadTo 3 = .ok (.bipush 7, 2) := by decide +kernel
theorem dX3_leadTo_5 : decode cX3_leadTo 5 = .ok (.if_icmp .ge 26, 3) := by decide +kernel
theorem dX3_leadTo_8 : decode cX3_leadTo 8 = .ok (.aload_n 0, 1) := by decide +kernel
theorem dX3_leadTo_9 : decode cX3_leadTo 9 = .ok (.getfield 15, 3) := by decide +kernel
theorem dX3_leadTo_12 : decode cX3_leadTo 12 = .ok (.iload_n 3, 1) := by decide +kernel
theorem dX3_leadTo_13 : decode cX3_leadTo 13 = .ok (.iload_n 3, 1) := by decide +kernel
theorem dX3_leadTo_14 : decode cX3_leadTo 14 = .ok (.iload_n 2, 1) := by decide +kernel
theorem dX3_leadTo_15 : decode cX3_leadTo 15 = .ok (.if_icmp .ne 7, 3) := by decide +kernel
theorem dX3_leadTo_18 : decode cX3_leadTo 18 = .ok (.iconst 0, 1) := by decide +kernel
theorem dX3_leadTo_19 : decode cX3_leadTo 19 = .ok (.goto 5, 3) := by decide +kernel
theorem dX3_leadTo_22 : decode cX3_leadTo 22 = .ok (.ldc 28, 2) := by decide +kernel
theorem dX3_leadTo_24 : decode cX3_leadTo 24 = .ok (.iastore, 1) := by decide +kernel
theorem dX3_leadTo_25 : decode cX3_leadTo 25 = .ok (.iinc 3 1, 3) := by decide +kernel
theorem dX3_leadTo_28 : decode cX3_leadTo 28 = .ok (.goto (-26), 3) := by decide +kernel
theorem dX3_leadTo_31 : decode cX3_leadTo 31 = .ok (.iconst 1, 1) := by decide +kernel
theorem dX3_leadTo_32 : decode cX3_leadTo 32 = .ok (.istore_n 3, 1) := by decide +kernel
theorem dX3_leadTo_33 : decode cX3_leadTo 33 = .ok (.iconst 0, 1) := by decide +kernel
theorem dX3_leadTo_34 : decode cX3_leadTo 34 = .ok (.istore 4, 2) := by decide +kernel
theorem dX3_leadTo_36 : decode cX3_leadTo 36 = .ok (.iload 4, 2) := by decide +kernel
theorem dX3_leadTo_38 : decode cX3_leadTo 38 = .ok (.bipush 7, 2) := by decide +kernel
theorem dX3_leadTo_40 : decode cX3_leadTo 40 = .ok (.if_icmp .ge 97, 3) := by decide +kernel
theorem dX3_leadTo_43 : decode cX3_leadTo 43 = .ok (.iload_n 3, 1) := by decide +kernel
theorem dX3_leadTo_44 : decode cX3_leadTo 44 = .ok (.ifCond .eq 93, 3) := by decide +kernel
theorem dX3_leadTo_47 : decode cX3_leadTo 47 = .ok (.iconst 0, 1) := by decide +kernel
theorem dX3_leadTo_48 : decode cX3_leadTo 48 = .ok (.istore_n 3, 1) := by decide +kernel
theorem dX3_leadTo_49 : decode cX3_leadTo 49 = .ok (.iconst 0, 1) := by decide +kernel
theorem dX3_leadTo_50 : decode cX3_leadTo 50 = .ok (.istore 5, 2) := by decide +kernel
theorem dX3_leadTo_52 : decode cX3_leadTo 52 = .ok (.iload 5, 2) := by decide +kernel
theorem dX3_leadTo_54 : decode cX3_leadTo 54 = .ok (.aload_n 1, 1) := by decide +kernel
theorem dX3_leadTo_55 : decode cX3_leadTo 55 = .ok (.getfield 18, 3) := by decide +kernel
theorem dX3_leadTo_58 : decode cX3_leadTo 58 = .ok (.if_icmp .ge 73, 3) := by decide +kernel
theorem dX3_leadTo_61 : decode cX3_leadTo 61 = .ok (.aload_n 0, 1) := by decide +kernel
theorem dX3_leadTo_62 : decode cX3_leadTo 62 = .ok (.iload 5, 2) := by decide +kernel
theorem dX3_leadTo_64 : decode cX3_leadTo 64 = .ok (.aload_n 1, 1) := by decide +kernel
theorem dX3_leadTo_65 : decode cX3_leadTo 65 = .ok (.getfield 29, 3) := by decide +kernel
theorem dX3_leadTo_68 : decode cX3_leadTo 68 = .ok (.iload 5, 2) := by decide +kernel
theorem dX3_leadTo_70 : decode cX3_leadTo 70 = .ok (.iaload, 1) := by decide +kernel
theorem dX3_leadTo_71 : decode cX3_leadTo 71 = .ok (.aload_n 1, 1) := by decide +kernel
theorem dX3_leadTo_72 : decode cX3_leadTo 72 = .ok (.getfield 32, 3) := by decide +kernel
theorem dX3_leadTo_75 : decode cX3_leadTo 75 = .ok (.iload 5, 2) := by decide +kernel
theorem dX3_leadTo_77 : decode cX3_leadTo 77 = .ok (.iaload, 1) := by decide +kernel
theorem dX3_leadTo_78 : decode cX3_leadTo 78 = .ok (.invokevirtual 35, 3) := by decide +kernel
theorem dX3_leadTo_81 : decode cX3_leadTo 81 = .ok (.istore 6, 2) := by decide +kernel
theorem dX3_leadTo_83 : decode cX3_leadTo 83 = .ok (.aload_n 0, 1) := by decide +kernel
theorem dX3_leadTo_84 : decode cX3_leadTo 84 = .ok (.iload 5, 2) := by decide +kernel
theorem dX3_leadTo_86 : decode cX3_leadTo 86 = .ok (.aload_n 1, 1) := by decide +kernel
theorem dX3_leadTo_87 : decode cX3_leadTo 87 = .ok (.getfield 32, 3) := by decide +kernel
theorem dX3_leadTo_90 : decode cX3_leadTo 90 = .ok (.iload 5, 2) := by decide +kernel
theorem dX3_leadTo_92 : decode cX3_leadTo 92 = .ok (.iaload, 1) := by decide +kernel
theorem dX3_leadTo_93 : decode cX3_leadTo 93 = .ok (.aload_n 1, 1) := by decide +kernel
theorem dX3_leadTo_94 : decode cX3_leadTo 94 = .ok (.getfield 29, 3) := by decide +kernel
theorem dX3_leadTo_97 : decode cX3_leadTo 97 = .ok (.iload 5, 2) := by decide +kernel
theorem dX3_leadTo_99 : decode cX3_leadTo 99 = .ok (.iaload, 1) := by decide +kernel
theorem dX3_leadTo_100 : decode cX3_leadTo 100 = .ok (.invokevirtual 35, 3) := by decide +kernel
theorem dX3_leadTo_103 : decode cX3_leadTo 103 = .ok (.istore 7, 2) := by decide +kernel
theorem dX3_leadTo_105 : decode cX3_leadTo 105 = .ok (.iload_n 3, 1) := by decide +kernel
theorem dX3_leadTo_106 : decode cX3_leadTo 106 = .ok (.ifCond .ne 13, 3) := by decide +kernel
theorem dX3_leadTo_109 : decode cX3_leadTo 109 = .ok (.iload 6, 2) := by decide +kernel
theorem dX3_leadTo_111 : decode cX3_leadTo 111 = .ok (.ifCond .ne 8, 3) := by decide +kernel
theorem dX3_leadTo_114 : decode cX3_leadTo 114 = .ok (.iload 7, 2) := by decide +kernel
theorem dX3_leadTo_116 : decode cX3_leadTo 116 = .ok (.ifCond .eq 7, 3) := by decide +kernel
theorem dX3_leadTo_119 : decode cX3_leadTo 119 = .ok (.iconst 1, 1) := by decide +kernel
theorem dX3_leadTo_120 : decode cX3_leadTo 120 = .ok (.goto 4, 3) := by decide +kernel
theorem dX3_leadTo_123 : decode cX3_leadTo 123 = .ok (.iconst 0, 1) := by decide +kernel
theorem dX3_leadTo_124 : decode cX3_leadTo 124 = .ok (.istore_n 3, 1) := by decide +kernel
theorem dX3_leadTo_125 : decode cX3_leadTo 125 = .ok (.iinc 5 1, 3) := by decide +kernel
theorem dX3_leadTo_128 : decode cX3_leadTo 128 = .ok (.goto (-76), 3) := by decide +kernel
theorem dX3_leadTo_131 : decode cX3_leadTo 131 = .ok (.iinc 4 1, 3) := by decide +kernel
theorem dX3_leadTo_134 : decode cX3_leadTo 134 = .ok (.goto (-98), 3) := by decide +kernel
theorem dX3_leadTo_137 : decode cX3_leadTo 137 = .ok (.return_, 1) := by decide +kernel
theorem dX3_isCheaper_0 : decode cX3_isCheaper 0 = .ok (.aload_n 0, 1) := by decide +kernel
theorem dX3_isCheaper_1 : decode cX3_isCheaper 1 = .ok (.iload_n 1, 1) := by decide +kernel
theorem dX3_isCheaper_2 : decode cX3_isCheaper 2 = .ok (.iload_n 3, 1) := by decide +kernel
theorem dX3_isCheaper_3 : decode cX3_isCheaper 3 = .ok (.invokevirtual 39, 3) := by decide +kernel
theorem dX3_isCheaper_6 : decode cX3_isCheaper 6 = .ok (.istore 4, 2) := by decide +kernel
theorem dX3_isCheaper_8 : decode cX3_isCheaper 8 = .ok (.iload_n 2, 1) := by decide +kernel
theorem dX3_isCheaper_9 : decode cX3_isCheaper 9 = .ok (.ifCond .lt 20, 3) := by decide +kernel
theorem dX3_isCheaper_12 : decode cX3_isCheaper 12 = .ok (.iload_n 2, 1) := by decide +kernel
theorem dX3_isCheaper_13 : decode cX3_isCheaper 13 = .ok (.bipush 7, 2) := by decide +kernel
theorem dX3_isCheaper_15 : decode cX3_isCheaper 15 = .ok (.if_icmp .ge 14, 3) := by decide +kernel
theorem dX3_isCheaper_18 : decode cX3_isCheaper 18 = .ok (.iload 4, 2) := by decide +kernel
theorem dX3_isCheaper_20 : decode cX3_isCheaper 20 = .ok (.aload_n 0, 1) := by decide +kernel
theorem dX3_isCheaper_21 : decode cX3_isCheaper 21 = .ok (.getfield 15, 3) := by decide +kernel
theorem dX3_isCheaper_24 : decode cX3_isCheaper 24 = .ok (.iload_n 2, 1) := by decide +kernel
theorem dX3_isCheaper_25 : decode cX3_isCheaper 25 = .ok (.iaload, 1) := by decide +kernel
theorem dX3_isCheaper_26 : decode cX3_isCheaper 26 = .ok (.if_icmp .lt 5, 3) := by decide +kernel
theorem dX3_isCheaper_29 : decode cX3_isCheaper 29 = .ok (.iconst 0, 1) := by decide +kernel
theorem dX3_isCheaper_30 : decode cX3_isCheaper 30 = .ok (.ireturn, 1) := by decide +kernel
theorem dX3_isCheaper_31 : decode cX3_isCheaper 31 = .ok (.aload_n 0, 1) := by decide +kernel
theorem dX3_isCheaper_32 : decode cX3_isCheaper 32 = .ok (.getfield 15, 3) := by decide +kernel
theorem dX3_isCheaper_35 : decode cX3_isCheaper 35 = .ok (.iload_n 2, 1) := by decide +kernel
theorem dX3_isCheaper_36 : decode cX3_isCheaper 36 = .ok (.iload 4, 2) := by decide +kernel
theorem dX3_isCheaper_38 : decode cX3_isCheaper 38 = .ok (.iastore, 1) := by decide +kernel
theorem dX3_isCheaper_39 : decode cX3_isCheaper 39 = .ok (.iconst 1, 1) := by decide +kernel
theorem dX3_isCheaper_40 : decode cX3_isCheaper 40 = .ok (.ireturn, 1) := by decide +kernel
theorem dX3_priceThrough_0 : decode cX3_priceThrough 0 = .ok (.iload_n 1, 1) := by decide +kernel
theorem dX3_priceThrough_1 : decode cX3_priceThrough 1 = .ok (.ifCond .lt 19, 3) := by decide +kernel
theorem dX3_priceThrough_4 : decode cX3_priceThrough 4 = .ok (.iload_n 1, 1) := by decide +kernel
theorem dX3_priceThrough_5 : decode cX3_priceThrough 5 = .ok (.bipush 9, 2) := by decide +kernel
theorem dX3_priceThrough_7 : decode cX3_priceThrough 7 = .ok (.if_icmp .ge 13, 3) := by decide +kernel
theorem dX3_priceThrough_10 : decode cX3_priceThrough 10 = .ok (.aload_n 0, 1) := by decide +kernel
theorem dX3_priceThrough_11 : decode cX3_priceThrough 11 = .ok (.getfield 9, 3) := by decide +kernel
theorem dX3_priceThrough_14 : decode cX3_priceThrough 14 = .ok (.iload_n 1, 1) := by decide +kernel
theorem dX3_priceThrough_15 : decode cX3_priceThrough 15 = .ok (.iaload, 1) := by decide +kernel
theorem dX3_priceThrough_16 : decode cX3_priceThrough 16 = .ok (.iconst (-1), 1) := by decide +kernel
theorem dX3_priceThrough_17 : decode cX3_priceThrough 17 = .ok (.if_icmp .ne 6, 3) := by decide +kernel
theorem dX3_priceThrough_20 : decode cX3_priceThrough 20 = .ok (.ldc 28, 2) := by decide +kernel
theorem dX3_priceThrough_22 : decode cX3_priceThrough 22 = .ok (.ireturn, 1) := by decide +kernel
theorem dX3_priceThrough_23 : decode cX3_priceThrough 23 = .ok (.ldc 28, 2) := by decide +kernel
theorem dX3_priceThrough_25 : decode cX3_priceThrough 25 = .ok (.aload_n 0, 1) := by decide +kernel
theorem dX3_priceThrough_26 : decode cX3_priceThrough 26 = .ok (.iload_n 2, 1) := by decide +kernel
theorem dX3_priceThrough_27 : decode cX3_priceThrough 27 = .ok (.invokevirtual 42, 3) := by decide +kernel
theorem dX3_priceThrough_30 : decode cX3_priceThrough 30 = .ok (.bipush 16, 2) := by decide +kernel
theorem dX3_priceThrough_32 : decode cX3_priceThrough 32 = .ok (.aload_n 0, 1) := by decide +kernel
theorem dX3_priceThrough_33 : decode cX3_priceThrough 33 = .ok (.getfield 9, 3) := by decide +kernel
theorem dX3_priceThrough_36 : decode cX3_priceThrough 36 = .ok (.iload_n 1, 1) := by decide +kernel
theorem dX3_priceThrough_37 : decode cX3_priceThrough 37 = .ok (.iaload, 1) := by decide +kernel
theorem dX3_priceThrough_38 : decode cX3_priceThrough 38 = .ok (.imul, 1) := by decide +kernel
theorem dX3_priceThrough_39 : decode cX3_priceThrough 39 = .ok (.iadd, 1) := by decide +kernel
theorem dX3_priceThrough_40 : decode cX3_priceThrough 40 = .ok (.iconst 1, 1) := by decide +kernel
theorem dX3_priceThrough_41 : decode cX3_priceThrough 41 = .ok (.iadd, 1) := by decide +kernel
theorem dX3_priceThrough_42 : decode cX3_priceThrough 42 = .ok (.invokestatic 46, 3) := by decide +kernel
theorem dX3_priceThrough_45 : decode cX3_priceThrough 45 = .ok (.ireturn, 1) := by decide +kernel
theorem dX3_priceFrom_0 : decode cX3_priceFrom 0 = .ok (.iload_n 1, 1) := by decide +kernel
theorem dX3_priceFrom_1 : decode cX3_priceFrom 1 = .ok (.ifCond .lt 9, 3) := by decide +kernel
theorem dX3_priceFrom_4 : decode cX3_priceFrom 4 = .ok (.iload_n 1, 1) := by decide +kernel
theorem dX3_priceFrom_5 : decode cX3_priceFrom 5 = .ok (.bipush 7, 2) := by decide +kernel
theorem dX3_priceFrom_7 : decode cX3_priceFrom 7 = .ok (.if_icmp .lt 8, 3) := by decide +kernel
theorem dX3_priceFrom_10 : decode cX3_priceFrom 10 = .ok (.ldc 28, 2) := by decide +kernel
theorem dX3_priceFrom_12 : decode cX3_priceFrom 12 = .ok (.goto 9, 3) := by decide +kernel
theorem dX3_priceFrom_15 : decode cX3_priceFrom 15 = .ok (.aload_n 0, 1) := by decide +kernel
theorem dX3_priceFrom_16 : decode cX3_priceFrom 16 = .ok (.getfield 15, 3) := by decide +kernel
theorem dX3_priceFrom_19 : decode cX3_priceFrom 19 = .ok (.iload_n 1, 1) := by decide +kernel
theorem dX3_priceFrom_20 : decode cX3_priceFrom 20 = .ok (.iaload, 1) := by decide +kernel
theorem dX3_priceFrom_21 : decode cX3_priceFrom 21 = .ok (.ireturn, 1) := by decide +kernel
theorem dX3_givenFrom_0 : decode cX3_givenFrom 0 = .ok (.aload_n 0, 1) := by decide +kernel
theorem dX3_givenFrom_1 : decode cX3_givenFrom 1 = .ok (.iload_n 1, 1) := by decide +kernel
theorem dX3_givenFrom_2 : decode cX3_givenFrom 2 = .ok (.invokevirtual 42, 3) := by decide +kernel
theorem dX3_givenFrom_5 : decode cX3_givenFrom 5 = .ok (.ldc 28, 2) := by decide +kernel
theorem dX3_givenFrom_7 : decode cX3_givenFrom 7 = .ok (.if_icmp .lt 8, 3) := by decide +kernel
theorem dX3_givenFrom_10 : decode cX3_givenFrom 10 = .ok (.bipush (-9), 2) := by decide +kernel
theorem dX3_givenFrom_12 : decode cX3_givenFrom 12 = .ok (.goto 11, 3) := by decide +kernel
theorem dX3_givenFrom_15 : decode cX3_givenFrom 15 = .ok (.aload_n 0, 1) := by decide +kernel
theorem dX3_givenFrom_16 : decode cX3_givenFrom 16 = .ok (.iload_n 1, 1) := by decide +kernel
theorem dX3_givenFrom_17 : decode cX3_givenFrom 17 = .ok (.invokevirtual 42, 3) := by decide +kernel
theorem dX3_givenFrom_20 : decode cX3_givenFrom 20 = .ok (.bipush 16, 2) := by decide +kernel
theorem dX3_givenFrom_22 : decode cX3_givenFrom 22 = .ok (.idiv, 1) := by decide +kernel
theorem dX3_givenFrom_23 : decode cX3_givenFrom 23 = .ok (.ireturn, 1) := by decide +kernel
theorem dX3_doorsFrom_0 : decode cX3_doorsFrom 0 = .ok (.aload_n 0, 1) := by decide +kernel
theorem dX3_doorsFrom_1 : decode cX3_doorsFrom 1 = .ok (.iload_n 1, 1) := by decide +kernel
theorem dX3_doorsFrom_2 : decode cX3_doorsFrom 2 = .ok (.invokevirtual 42, 3) := by decide +kernel
theorem dX3_doorsFrom_5 : decode cX3_doorsFrom 5 = .ok (.ldc 28, 2) := by decide +kernel
theorem dX3_doorsFrom_7 : decode cX3_doorsFrom 7 = .ok (.if_icmp .lt 8, 3) := by decide +kernel
theorem dX3_doorsFrom_10 : decode cX3_doorsFrom 10 = .ok (.bipush (-9), 2) := by decide +kernel
theorem dX3_doorsFrom_12 : decode cX3_doorsFrom 12 = .ok (.goto 11, 3) := by decide +kernel
theorem dX3_doorsFrom_15 : decode cX3_doorsFrom 15 = .ok (.aload_n 0, 1) := by decide +kernel
theorem dX3_doorsFrom_16 : decode cX3_doorsFrom 16 = .ok (.iload_n 1, 1) := by decide +kernel
theorem dX3_doorsFrom_17 : decode cX3_doorsFrom 17 = .ok (.invokevirtual 42, 3) := by decide +kernel
theorem dX3_doorsFrom_20 : decode cX3_doorsFrom 20 = .ok (.bipush 16, 2) := by decide +kernel
theorem dX3_doorsFrom_22 : decode cX3_doorsFrom 22 = .ok (.irem, 1) := by decide +kernel
theorem dX3_doorsFrom_23 : decode cX3_doorsFrom 23 = .ok (.ireturn, 1) := by decide +kernel
theorem dX3_doorFrom_0 : decode cX3_doorFrom 0 = .ok (.aload_n 0, 1) := by decide +kernel
theorem dX3_doorFrom_1 : decode cX3_doorFrom 1 = .ok (.iload_n 2, 1) := by decide +kernel
theorem dX3_doorFrom_2 : decode cX3_doorFrom 2 = .ok (.invokevirtual 42, 3) := by decide +kernel
theorem dX3_doorFrom_5 : decode cX3_doorFrom 5 = .ok (.ldc 28, 2) := by decide +kernel
theorem dX3_doorFrom_7 : decode cX3_doorFrom 7 = .ok (.if_icmp .lt 6, 3) := by decide +kernel
theorem dX3_doorFrom_10 : decode cX3_doorFrom 10 = .ok (.bipush (-9), 2) := by decide +kernel
theorem dX3_doorFrom_12 : decode cX3_doorFrom 12 = .ok (.ireturn, 1) := by decide +kernel
theorem dX3_doorFrom_13 : decode cX3_doorFrom 13 = .ok (.iconst 0, 1) := by decide +kernel
theorem dX3_doorFrom_14 : decode cX3_doorFrom 14 = .ok (.istore_n 3, 1) := by decide +kernel
theorem dX3_doorFrom_15 : decode cX3_doorFrom 15 = .ok (.iload_n 3, 1) := by decide +kernel
theorem dX3_doorFrom_16 : decode cX3_doorFrom 16 = .ok (.aload_n 1, 1) := by decide +kernel
theorem dX3_doorFrom_17 : decode cX3_doorFrom 17 = .ok (.getfield 18, 3) := by decide +kernel
theorem dX3_doorFrom_20 : decode cX3_doorFrom 20 = .ok (.if_icmp .ge 39, 3) := by decide +kernel
theorem dX3_doorFrom_23 : decode cX3_doorFrom 23 = .ok (.aload_n 1, 1) := by decide +kernel
theorem dX3_doorFrom_24 : decode cX3_doorFrom 24 = .ok (.iload_n 3, 1) := by decide +kernel
theorem dX3_doorFrom_25 : decode cX3_doorFrom 25 = .ok (.iload_n 2, 1) := by decide +kernel
theorem dX3_doorFrom_26 : decode cX3_doorFrom 26 = .ok (.invokevirtual 51, 3) := by decide +kernel
theorem dX3_doorFrom_29 : decode cX3_doorFrom 29 = .ok (.ifCond .eq 24, 3) := by decide +kernel
theorem dX3_doorFrom_32 : decode cX3_doorFrom 32 = .ok (.aload_n 0, 1) := by decide +kernel
theorem dX3_doorFrom_33 : decode cX3_doorFrom 33 = .ok (.iload_n 3, 1) := by decide +kernel
theorem dX3_doorFrom_34 : decode cX3_doorFrom 34 = .ok (.aload_n 1, 1) := by decide +kernel
theorem dX3_doorFrom_35 : decode cX3_doorFrom 35 = .ok (.iload_n 3, 1) := by decide +kernel
theorem dX3_doorFrom_36 : decode cX3_doorFrom 36 = .ok (.iload_n 2, 1) := by decide +kernel
theorem dX3_doorFrom_37 : decode cX3_doorFrom 37 = .ok (.invokevirtual 55, 3) := by decide +kernel
theorem dX3_doorFrom_40 : decode cX3_doorFrom 40 = .ok (.invokevirtual 39, 3) := by decide +kernel
theorem dX3_doorFrom_43 : decode cX3_doorFrom 43 = .ok (.aload_n 0, 1) := by decide +kernel
theorem dX3_doorFrom_44 : decode cX3_doorFrom 44 = .ok (.iload_n 2, 1) := by decide +kernel
theorem dX3_doorFrom_45 : decode cX3_doorFrom 45 = .ok (.invokevirtual 42, 3) := by decide +kernel
theorem dX3_doorFrom_48 : decode cX3_doorFrom 48 = .ok (.if_icmp .ne 5, 3) := by decide +kernel
theorem dX3_doorFrom_51 : decode cX3_doorFrom 51 = .ok (.iload_n 3, 1) := by decide +kernel
theorem dX3_doorFrom_52 : decode cX3_doorFrom 52 = .ok (.ireturn, 1) := by decide +kernel
theorem dX3_doorFrom_53 : decode cX3_doorFrom 53 = .ok (.iinc 3 1, 3) := by decide +kernel
theorem dX3_doorFrom_56 : decode cX3_doorFrom 56 = .ok (.goto (-41), 3) := by decide +kernel
theorem dX3_doorFrom_59 : decode cX3_doorFrom 59 = .ok (.bipush (-9), 2) := by decide +kernel
theorem dX3_doorFrom_61 : decode cX3_doorFrom 61 = .ok (.ireturn, 1) := by decide +kernel
theorem dJ6_bitCount_0f7a4_0 : decode cJ6_bitCount_0f7a4 0 = .ok (.iload_n 0, 1) := by decide +kernel
theorem dJ6_bitCount_0f7a4_1 : decode cJ6_bitCount_0f7a4 1 = .ok (.iload_n 0, 1) := by decide +kernel
theorem dJ6_bitCount_0f7a4_2 : decode cJ6_bitCount_0f7a4 2 = .ok (.iconst 1, 1) := by decide +kernel
theorem dJ6_bitCount_0f7a4_3 : decode cJ6_bitCount_0f7a4 3 = .ok (.iushr, 1) := by decide +kernel
theorem dJ6_bitCount_0f7a4_4 : decode cJ6_bitCount_0f7a4 4 = .ok (.ldc_w 265, 3) := by decide +kernel
theorem dJ6_bitCount_0f7a4_7 : decode cJ6_bitCount_0f7a4 7 = .ok (.iand, 1) := by decide +kernel
theorem dJ6_bitCount_0f7a4_8 : decode cJ6_bitCount_0f7a4 8 = .ok (.isub, 1) := by decide +kernel
theorem dJ6_bitCount_0f7a4_9 : decode cJ6_bitCount_0f7a4 9 = .ok (.istore_n 0, 1) := by decide +kernel
theorem dJ6_bitCount_0f7a4_10 : decode cJ6_bitCount_0f7a4 10 = .ok (.iload_n 0, 1) := by decide +kernel
theorem dJ6_bitCount_0f7a4_11 : decode cJ6_bitCount_0f7a4 11 = .ok (.ldc_w 266, 3) := by decide +kernel
theorem dJ6_bitCount_0f7a4_14 : decode cJ6_bitCount_0f7a4 14 = .ok (.iand, 1) := by decide +kernel
theorem dJ6_bitCount_0f7a4_15 : decode cJ6_bitCount_0f7a4 15 = .ok (.iload_n 0, 1) := by decide +kernel
theorem dJ6_bitCount_0f7a4_16 : decode cJ6_bitCount_0f7a4 16 = .ok (.iconst 2, 1) := by decide +kernel
theorem dJ6_bitCount_0f7a4_17 : decode cJ6_bitCount_0f7a4 17 = .ok (.iushr, 1) := by decide +kernel
theorem dJ6_bitCount_0f7a4_18 : decode cJ6_bitCount_0f7a4 18 = .ok (.ldc_w 266, 3) := by decide +kernel
theorem dJ6_bitCount_0f7a4_21 : decode cJ6_bitCount_0f7a4 21 = .ok (.iand, 1) := by decide +kernel
theorem dJ6_bitCount_0f7a4_22 : decode cJ6_bitCount_0f7a4 22 = .ok (.iadd, 1) := by decide +kernel
theorem dJ6_bitCount_0f7a4_23 : decode cJ6_bitCount_0f7a4 23 = .ok (.istore_n 0, 1) := by decide +kernel
theorem dJ6_bitCount_0f7a4_24 : decode cJ6_bitCount_0f7a4 24 = .ok (.iload_n 0, 1) := by decide +kernel
theorem dJ6_bitCount_0f7a4_25 : decode cJ6_bitCount_0f7a4 25 = .ok (.iload_n 0, 1) := by decide +kernel
theorem dJ6_bitCount_0f7a4_26 : decode cJ6_bitCount_0f7a4 26 = .ok (.iconst 4, 1) := by decide +kernel
theorem dJ6_bitCount_0f7a4_27 : decode cJ6_bitCount_0f7a4 27 = .ok (.iushr, 1) := by decide +kernel
theorem dJ6_bitCount_0f7a4_28 : decode cJ6_bitCount_0f7a4 28 = .ok (.iadd, 1) := by decide +kernel
theorem dJ6_bitCount_0f7a4_29 : decode cJ6_bitCount_0f7a4 29 = .ok (.ldc_w 267, 3) := by decide +kernel
theorem dJ6_bitCount_0f7a4_32 : decode cJ6_bitCount_0f7a4 32 = .ok (.iand, 1) := by decide +kernel
theorem dJ6_bitCount_0f7a4_33 : decode cJ6_bitCount_0f7a4 33 = .ok (.istore_n 0, 1) := by decide +kernel
theorem dJ6_bitCount_0f7a4_34 : decode cJ6_bitCount_0f7a4 34 = .ok (.iload_n 0, 1) := by decide +kernel
theorem dJ6_bitCount_0f7a4_35 : decode cJ6_bitCount_0f7a4 35 = .ok (.iload_n 0, 1) := by decide +kernel
theorem dJ6_bitCount_0f7a4_36 : decode cJ6_bitCount_0f7a4 36 = .ok (.bipush 8, 2) := by decide +kernel
theorem dJ6_bitCount_0f7a4_38 : decode cJ6_bitCount_0f7a4 38 = .ok (.iushr, 1) := by decide +kernel
theorem dJ6_bitCount_0f7a4_39 : decode cJ6_bitCount_0f7a4 39 = .ok (.iadd, 1) := by decide +kernel
theorem dJ6_bitCount_0f7a4_40 : decode cJ6_bitCount_0f7a4 40 = .ok (.istore_n 0, 1) := by decide +kernel
theorem dJ6_bitCount_0f7a4_41 : decode cJ6_bitCount_0f7a4 41 = .ok (.iload_n 0, 1) := by decide +kernel
theorem dJ6_bitCount_0f7a4_42 : decode cJ6_bitCount_0f7a4 42 = .ok (.iload_n 0, 1) := by decide +kernel
theorem dJ6_bitCount_0f7a4_43 : decode cJ6_bitCount_0f7a4 43 = .ok (.bipush 16, 2) := by decide +kernel
theorem dJ6_bitCount_0f7a4_45 : decode cJ6_bitCount_0f7a4 45 = .ok (.iushr, 1) := by decide +kernel
theorem dJ6_bitCount_0f7a4_46 : decode cJ6_bitCount_0f7a4 46 = .ok (.iadd, 1) := by decide +kernel
theorem dJ6_bitCount_0f7a4_47 : decode cJ6_bitCount_0f7a4 47 = .ok (.istore_n 0, 1) := by decide +kernel
theorem dJ6_bitCount_0f7a4_48 : decode cJ6_bitCount_0f7a4 48 = .ok (.iload_n 0, 1) := by decide +kernel
theorem dJ6_bitCount_0f7a4_49 : decode cJ6_bitCount_0f7a4 49 = .ok (.bipush 63, 2) := by decide +kernel
theorem dJ6_bitCount_0f7a4_51 : decode cJ6_bitCount_0f7a4 51 = .ok (.iand, 1) := by decide +kernel
theorem dJ6_bitCount_0f7a4_52 : decode cJ6_bitCount_0f7a4 52 = .ok (.ireturn, 1) := by decide +kernel
