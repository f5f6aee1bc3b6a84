theorem dX4_init_0 : decode cX4_init 0 = .ok (.aload_n 0, 1) := by decide +kernel
theorem dX4_init_1 : decode cX4_init 1 = .ok (.invokespecial 1, 3) := by decide +kernel
theorem dX4_init_4 : decode cX4_init 4 = .ok (.aload_n 0, 1) := by decide +kernel
theorem dX4_init_5 : decode cX4_init 5 = .ok (.new 7, 3) := by decide +kernel
theorem dX4_init_8 : decode cX4_init 8 = .ok (.dup, 1) := by decide +kernel
theorem dX4_init_9 : decode cX4_init 9 = .ok (.invokespecial 9, 3) := by decide +kernel
theorem dX4_init_12 : decode cX4_init 12 = .ok (.putfield 10, 3) := by decide +kernel
theorem dX4_init_15 : decode cX4_init 15 = .ok (.aload_n 0, 1) := by decide +kernel
theorem dX4_init_16 : decode cX4_init 16 = .ok (.new 7, 3) := by decide +kernel
theorem dX4_init_19 : decode cX4_init 19 = .ok (.dup, 1) := by decide +kernel
theorem dX4_init_20 : decode cX4_init 20 = .ok (.invokespecial 9, 3) := by decide +kernel
theorem dX4_init_23 : decode cX4_init 23 = .ok (.putfield 16, 3) := by decide +kernel
theorem dX4_init_26 : decode cX4_init 26 = .ok (.aload_n 0, 1) := by decide +kernel
theorem dX4_init_27 : decode cX4_init 27 = .ok (.new 7, 3) := by decide +kernel
theorem dX4_init_30 : decode cX4_init 30 = .ok (.dup, 1) := by decide +kernel
theorem dX4_init_31 : decode cX4_init 31 = .ok (.invokespecial 9, 3) := by decide +kernel
theorem dX4_init_34 : decode cX4_init 34 = .ok (.putfield 19, 3) := by decide +kernel
theorem dX4_init_37 : decode cX4_init 37 = .ok (.aload_n 0, 1) := by decide +kernel
theorem dX4_init_38 : decode cX4_init 38 = .ok (.iconst 0, 1) := by decide +kernel
theorem dX4_init_39 : decode cX4_init 39 = .ok (.putfield 22, 3) := by decide +kernel
theorem dX4_init_42 : decode cX4_init 42 = .ok (.aload_n 0, 1) := by decide +kernel
theorem dX4_init_43 : decode cX4_init 43 = .ok (.new 26, 3) := by decide +kernel
theorem dX4_init_46 : decode cX4_init 46 = .ok (.dup, 1) := by decide +kernel
theorem dX4_init_47 : decode cX4_init 47 = .ok (.invokespecial 28, 3) := by decide +kernel
theorem dX4_init_50 : decode cX4_init 50 = .ok (.putfield 29, 3) := by decide +kernel
theorem dX4_init_53 : decode cX4_init 53 = .ok (.aload_n 0, 1) := by decide +kernel
theorem dX4_init_54 : decode cX4_init 54 = .ok (.new 33, 3) := by decide +kernel
theorem dX4_init_57 : decode cX4_init 57 = .ok (.dup, 1) := by decide +kernel
theorem dX4_init_58 : decode cX4_init 58 = .ok (.invokespecial 35, 3) := by decide +kernel
theorem dX4_init_61 : decode cX4_init 61 = .ok (.putfield 36, 3) := by decide +kernel
theorem dX4_init_64 : decode cX4_init 64 = .ok (.aload_n 0, 1) := by decide +kernel
theorem dX4_init_65 : decode cX4_init 65 = .ok (.bipush 16, 2) := by decide +kernel
theorem dX4_init_67 : decode cX4_init 67 = .ok (.newarray .int, 2) := by decide +kernel
theorem dX4_init_69 : decode cX4_init 69 = .ok (.putfield 40, 3) := by decide +kernel
theorem dX4_init_72 : decode cX4_init 72 = .ok (.aload_n 0, 1) := by decide +kernel
theorem dX4_init_73 : decode cX4_init 73 = .ok (.iconst 0, 1) := by decide +kernel
theorem dX4_init_74 : decode cX4_init 74 = .ok (.putfield 44, 3) := by decide +kernel
theorem dX4_init_77 : decode cX4_init 77 = .ok (.aload_n 0, 1) := by decide +kernel
theorem dX4_init_78 : decode cX4_init 78 = .ok (.bipush 7, 2) := by decide +kernel
theorem dX4_init_80 : decode cX4_init 80 = .ok (.newarray .int, 2) := by decide +kernel
theorem dX4_init_82 : decode cX4_init 82 = .ok (.putfield 48, 3) := by decide +kernel
theorem dX4_init_85 : decode cX4_init 85 = .ok (.return_, 1) := by decide +kernel
theorem dX4_letter_0 : decode cX4_letter 0 = .ok (.iload_n 1, 1) := by decide +kernel
theorem dX4_letter_1 : decode cX4_letter 1 = .ok (.ifCond .ge 10, 3) := by decide +kernel
theorem dX4_letter_4 : decode cX4_letter 4 = .ok (.aload_n 0, 1) := by decide +kernel
theorem dX4_letter_5 : decode cX4_letter 5 = .ok (.bipush (-4), 2) := by decide +kernel
theorem dX4_letter_7 : decode cX4_letter 7 = .ok (.invokevirtual 51, 3) := by decide +kernel
theorem dX4_letter_10 : decode cX4_letter 10 = .ok (.ireturn, 1) := by decide +kernel
theorem dX4_letter_11 : decode cX4_letter 11 = .ok (.iload_n 1, 1) := by decide +kernel
theorem dX4_letter_12 : decode cX4_letter 12 = .ok (.sipush 255, 3) := by decide +kernel
theorem dX4_letter_15 : decode cX4_letter 15 = .ok (.if_icmp .gt 15, 3) := by decide +kernel
theorem dX4_letter_18 : decode cX4_letter 18 = .ok (.aload_n 0, 1) := by decide +kernel
theorem dX4_letter_19 : decode cX4_letter 19 = .ok (.getfield 29, 3) := by decide +kernel
theorem dX4_letter_22 : decode cX4_letter 22 = .ok (.getfield 55, 3) := by decide +kernel
theorem dX4_letter_25 : decode cX4_letter 25 = .ok (.bipush 96, 2) := by decide +kernel
theorem dX4_letter_27 : decode cX4_letter 27 = .ok (.if_icmp .lt 10, 3) := by decide +kernel
theorem dX4_letter_30 : decode cX4_letter 30 = .ok (.aload_n 0, 1) := by decide +kernel
theorem dX4_letter_31 : decode cX4_letter 31 = .ok (.bipush (-6), 2) := by decide +kernel
theorem dX4_letter_33 : decode cX4_letter 33 = .ok (.invokevirtual 51, 3) := by decide +kernel
theorem dX4_letter_36 : decode cX4_letter 36 = .ok (.ireturn, 1) := by decide +kernel
theorem dX4_letter_37 : decode cX4_letter 37 = .ok (.aload_n 0, 1) := by decide +kernel
theorem dX4_letter_38 : decode cX4_letter 38 = .ok (.getfield 29, 3) := by decide +kernel
theorem dX4_letter_41 : decode cX4_letter 41 = .ok (.iload_n 1, 1) := by decide +kernel
theorem dX4_letter_42 : decode cX4_letter 42 = .ok (.invokevirtual 58, 3) := by decide +kernel
theorem dX4_letter_45 : decode cX4_letter 45 = .ok (.aload_n 0, 1) := by decide +kernel
theorem dX4_letter_46 : decode cX4_letter 46 = .ok (.getfield 29, 3) := by decide +kernel
theorem dX4_letter_49 : decode cX4_letter 49 = .ok (.getfield 55, 3) := by decide +kernel
theorem dX4_letter_52 : decode cX4_letter 52 = .ok (.ireturn, 1) := by decide +kernel
theorem dX4_house_0 : decode cX4_house 0 = .ok (.aload_n 0, 1) := by decide +kernel
theorem dX4_house_1 : decode cX4_house 1 = .ok (.getfield 29, 3) := by decide +kernel
theorem dX4_house_4 : decode cX4_house 4 = .ok (.invokevirtual 62, 3) := by decide +kernel
theorem dX4_house_7 : decode cX4_house 7 = .ok (.istore_n 1, 1) := by decide +kernel
theorem dX4_house_8 : decode cX4_house 8 = .ok (.iload_n 1, 1) := by decide +kernel
theorem dX4_house_9 : decode cX4_house 9 = .ok (.ifCond .lt 41, 3) := by decide +kernel
theorem dX4_house_12 : decode cX4_house 12 = .ok (.aload_n 0, 1) := by decide +kernel
theorem dX4_house_13 : decode cX4_house 13 = .ok (.getfield 16, 3) := by decide +kernel
theorem dX4_house_16 : decode cX4_house 16 = .ok (.aload_n 0, 1) := by decide +kernel
theorem dX4_house_17 : decode cX4_house 17 = .ok (.getfield 10, 3) := by decide +kernel
theorem dX4_house_20 : decode cX4_house 20 = .ok (.invokevirtual 66, 3) := by decide +kernel
theorem dX4_house_23 : decode cX4_house 23 = .ok (.aload_n 0, 1) := by decide +kernel
theorem dX4_house_24 : decode cX4_house 24 = .ok (.getfield 29, 3) := by decide +kernel
theorem dX4_house_27 : decode cX4_house 27 = .ok (.aload_n 0, 1) := by decide +kernel
theorem dX4_house_28 : decode cX4_house 28 = .ok (.getfield 16, 3) := by decide +kernel
theorem dX4_house_31 : decode cX4_house 31 = .ok (.invokevirtual 70, 3) := by decide +kernel
theorem dX4_house_34 : decode cX4_house 34 = .ok (.istore_n 1, 1) := by decide +kernel
theorem dX4_house_35 : decode cX4_house 35 = .ok (.iload_n 1, 1) := by decide +kernel
theorem dX4_house_36 : decode cX4_house 36 = .ok (.ifCond .lt 14, 3) := by decide +kernel
theorem dX4_house_39 : decode cX4_house 39 = .ok (.aload_n 0, 1) := by decide +kernel
theorem dX4_house_40 : decode cX4_house 40 = .ok (.getfield 10, 3) := by decide +kernel
theorem dX4_house_43 : decode cX4_house 43 = .ok (.aload_n 0, 1) := by decide +kernel
theorem dX4_house_44 : decode cX4_house 44 = .ok (.getfield 16, 3) := by decide +kernel
theorem dX4_house_47 : decode cX4_house 47 = .ok (.invokevirtual 66, 3) := by decide +kernel
theorem dX4_house_50 : decode cX4_house 50 = .ok (.aload_n 0, 1) := by decide +kernel
theorem dX4_house_51 : decode cX4_house 51 = .ok (.getfield 29, 3) := by decide +kernel
theorem dX4_house_54 : decode cX4_house 54 = .ok (.iconst 0, 1) := by decide +kernel
theorem dX4_house_55 : decode cX4_house 55 = .ok (.putfield 55, 3) := by decide +kernel
theorem dX4_house_58 : decode cX4_house 58 = .ok (.iload_n 1, 1) := by decide +kernel
theorem dX4_house_59 : decode cX4_house 59 = .ok (.ireturn, 1) := by decide +kernel
theorem dX4_door_0 : decode cX4_door 0 = .ok (.aload_n 0, 1) := by decide +kernel
theorem dX4_door_1 : decode cX4_door 1 = .ok (.getfield 10, 3) := by decide +kernel
theorem dX4_door_4 : decode cX4_door 4 = .ok (.iload_n 1, 1) := by decide +kernel
theorem dX4_door_5 : decode cX4_door 5 = .ok (.invokevirtual 74, 3) := by decide +kernel
theorem dX4_door_8 : decode cX4_door 8 = .ok (.ifCond .ne 9, 3) := by decide +kernel
theorem dX4_door_11 : decode cX4_door 11 = .ok (.aload_n 0, 1) := by decide +kernel
theorem dX4_door_12 : decode cX4_door 12 = .ok (.iconst (-1), 1) := by decide +kernel
theorem dX4_door_13 : decode cX4_door 13 = .ok (.invokevirtual 51, 3) := by decide +kernel
theorem dX4_door_16 : decode cX4_door 16 = .ok (.ireturn, 1) := by decide +kernel
theorem dX4_door_17 : decode cX4_door 17 = .ok (.iload_n 2, 1) := by decide +kernel
theorem dX4_door_18 : decode cX4_door 18 = .ok (.tableswitch 111 0 6 #[42, 52, 62, 72, 82, 92, 102], 42) := by decide +kernel
theorem dX4_door_60 : decode cX4_door 60 = .ok (.aload_n 0, 1) := by decide +kernel
theorem dX4_door_61 : decode cX4_door 61 = .ok (.getfield 10, 3) := by decide +kernel
theorem dX4_door_64 : decode cX4_door 64 = .ok (.getfield 78, 3) := by decide +kernel
theorem dX4_door_67 : decode cX4_door 67 = .ok (.iload_n 1, 1) := by decide +kernel
theorem dX4_door_68 : decode cX4_door 68 = .ok (.iaload, 1) := by decide +kernel
theorem dX4_door_69 : decode cX4_door 69 = .ok (.ireturn, 1) := by decide +kernel
theorem dX4_door_70 : decode cX4_door 70 = .ok (.aload_n 0, 1) := by decide +kernel
theorem dX4_door_71 : decode cX4_door 71 = .ok (.getfield 10, 3) := by decide +kernel
theorem dX4_door_74 : decode cX4_door 74 = .ok (.getfield 81, 3) := by decide +kernel
theorem dX4_door_77 : decode cX4_door 77 = .ok (.iload_n 1, 1) := by decide +kernel
theorem dX4_door_78 : decode cX4_door 78 = .ok (.iaload, 1) := by decide +kernel
theorem dX4_door_79 : decode cX4_door 79 = .ok (.ireturn, 1) := by decide +kernel
theorem dX4_door_80 : decode cX4_door 80 = .ok (.aload_n 0, 1) := by decide +kernel
theorem dX4_door_81 : decode cX4_door 81 = .ok (.getfield 10, 3) := by decide +kernel
theorem dX4_door_84 : decode cX4_door 84 = .ok (.getfield 84, 3) := by decide +kernel
theorem dX4_door_87 : decode cX4_door 87 = .ok (.iload_n 1, 1) := by decide +kernel
theorem dX4_door_88 : decode cX4_door 88 = .ok (.iaload, 1) := by decide +kernel
theorem dX4_door_89 : decode cX4_door 89 = .ok (.ireturn, 1) := by decide +kernel
theorem dX4_door_90 : decode cX4_door 90 = .ok (.aload_n 0, 1) := by decide +kernel
theorem dX4_door_91 : decode cX4_door 91 = .ok (.getfield 10, 3) := by decide +kernel
theorem dX4_door_94 : decode cX4_door 94 = .ok (.getfield 87, 3) := by decide +kernel
theorem dX4_door_97 : decode cX4_door 97 = .ok (.iload_n 1, 1) := by decide +kernel
theorem dX4_door_98 : decode cX4_door 98 = .ok (.iaload, 1) := by decide +kernel
theorem dX4_door_99 : decode cX4_door 99 = .ok (.ireturn, 1) := by decide +kernel
theorem dX4_door_100 : decode cX4_door 100 = .ok (.aload_n 0, 1) := by decide +kernel
theorem dX4_door_101 : decode cX4_door 101 = .ok (.getfield 10, 3) := by decide +kernel
theorem dX4_door_104 : decode cX4_door 104 = .ok (.getfield 90, 3) := by decide +kernel
theorem dX4_door_107 : decode cX4_door 107 = .ok (.iload_n 1, 1) := by decide +kernel
theorem dX4_door_108 : decode cX4_door 108 = .ok (.iaload, 1) := by decide +kernel
theorem dX4_door_109 : decode cX4_door 109 = .ok (.ireturn, 1) := by decide +kernel
theorem dX4_door_110 : decode cX4_door 110 = .ok (.aload_n 0, 1) := by decide +kernel
theorem dX4_door_111 : decode cX4_door 111 = .ok (.getfield 10, 3) := by decide +kernel
theorem dX4_door_114 : decode cX4_door 114 = .ok (.getfield 93, 3) := by decide +kernel
theorem dX4_door_117 : decode cX4_door 117 = .ok (.iload_n 1, 1) := by decide +kernel
theorem dX4_door_118 : decode cX4_door 118 = .ok (.iaload, 1) := by decide +kernel
theorem dX4_door_119 : decode cX4_door 119 = .ok (.ireturn, 1) := by decide +kernel
theorem dX4_door_120 : decode cX4_door 120 = .ok (.aload_n 0, 1) := by decide +kernel
theorem dX4_door_121 : decode cX4_door 121 = .ok (.getfield 10, 3) := by decide +kernel
theorem dX4_door_124 : decode cX4_door 124 = .ok (.iload_n 1, 1) := by decide +kernel
theorem dX4_door_125 : decode cX4_door 125 = .ok (.invokevirtual 96, 3) := by decide +kernel
theorem dX4_door_128 : decode cX4_door 128 = .ok (.ireturn, 1) := by decide +kernel
theorem dX4_door_129 : decode cX4_door 129 = .ok (.aload_n 0, 1) := by decide +kernel
theorem dX4_door_130 : decode cX4_door 130 = .ok (.bipush (-2), 2) := by decide +kernel
theorem dX4_door_132 : decode cX4_door 132 = .ok (.invokevirtual 51, 3) := by decide +kernel
theorem dX4_door_135 : decode cX4_door 135 = .ok (.ireturn, 1) := by decide +kernel
theorem dX4_person_0 : decode cX4_person 0 = .ok (.aload_n 0, 1) := by decide +kernel
theorem dX4_person_1 : decode cX4_person 1 = .ok (.getfield 10, 3) := by decide +kernel
theorem dX4_person_4 : decode cX4_person 4 = .ok (.iload_n 1, 1) := by decide +kernel
theorem dX4_person_5 : decode cX4_person 5 = .ok (.invokevirtual 99, 3) := by decide +kernel
theorem dX4_person_8 : decode cX4_person 8 = .ok (.ifCond .ne 9, 3) := by decide +kernel
theorem dX4_person_11 : decode cX4_person 11 = .ok (.aload_n 0, 1) := by decide +kernel
theorem dX4_person_12 : decode cX4_person 12 = .ok (.iconst (-1), 1) := by decide +kernel
theorem dX4_person_13 : decode cX4_person 13 = .ok (.invokevirtual 51, 3) := by decide +kernel
theorem dX4_person_16 : decode cX4_person 16 = .ok (.ireturn, 1) := by decide +kernel
theorem dX4_person_17 : decode cX4_person 17 = .ok (.iload_n 2, 1) := by decide +kernel
theorem dX4_person_18 : decode cX4_person 18 = .ok (.tableswitch 69 0 3 #[30, 40, 50, 60], 30) := by decide +kernel
theorem dX4_person_48 : decode cX4_person 48 = .ok (.aload_n 0, 1) := by decide +kernel
theorem dX4_person_49 : decode cX4_person 49 = .ok (.getfield 10, 3) := by decide +kernel
theorem dX4_person_52 : decode cX4_person 52 = .ok (.getfield 102, 3) := by decide +kernel
theorem dX4_person_55 : decode cX4_person 55 = .ok (.iload_n 1, 1) := by decide +kernel
theorem dX4_person_56 : decode cX4_person 56 = .ok (.iaload, 1) := by decide +kernel
theorem dX4_person_57 : decode cX4_person 57 = .ok (.ireturn, 1) := by decide +kernel
theorem dX4_person_58 : decode cX4_person 58 = .ok (.aload_n 0, 1) := by decide +kernel
theorem dX4_person_59 : decode cX4_person 59 = .ok (.getfield 10, 3) := by decide +kernel
theorem dX4_person_62 : decode cX4_person 62 = .ok (.getfield 105, 3) := by decide +kernel
theorem dX4_person_65 : decode cX4_person 65 = .ok (.iload_n 1, 1) := by decide +kernel
theorem dX4_person_66 : decode cX4_person 66 = .ok (.iaload, 1) := by decide +kernel
theorem dX4_person_67 : decode cX4_person 67 = .ok (.ireturn, 1) := by decide +kernel
theorem dX4_person_68 : decode cX4_person 68 = .ok (.aload_n 0, 1) := by decide +kernel
theorem dX4_person_69 : decode cX4_person 69 = .ok (.getfield 10, 3) := by decide +kernel
theorem dX4_person_72 : decode cX4_person 72 = .ok (.getfield 108, 3) := by decide +kernel
theorem dX4_person_75 : decode cX4_person 75 = .ok (.iload_n 1, 1) := by decide +kernel
theorem dX4_person_76 : decode cX4_person 76 = .ok (.iaload, 1) := by decide +kernel
theorem dX4_person_77 : decode cX4_person 77 = .ok (.ireturn, 1) := by decide +kernel
theorem dX4_person_78 : decode cX4_person 78 = .ok (.aload_n 0, 1) := by decide +kernel
theorem dX4_person_79 : decode cX4_person 79 = .ok (.getfield 10, 3) := by decide +kernel
theorem dX4_person_82 : decode cX4_person 82 = .ok (.iload_n 1, 1) := by decide +kernel
theorem dX4_person_83 : decode cX4_person 83 = .ok (.invokevirtual 111, 3) := by decide +kernel
theorem dX4_person_86 : decode cX4_person 86 = .ok (.ireturn, 1) := by decide +kernel
theorem dX4_person_87 : decode cX4_person 87 = .ok (.aload_n 0, 1) := by decide +kernel
theorem dX4_person_88 : decode cX4_person 88 = .ok (.bipush (-2), 2) := by decide +kernel
theorem dX4_person_90 : decode cX4_person 90 = .ok (.invokevirtual 51, 3) := by decide +kernel
theorem dX4_person_93 : decode cX4_person 93 = .ok (.ireturn, 1) := by decide +kernel
theorem dX4_opens_0 : decode cX4_opens 0 = .ok (.aload_n 0, 1) := by decide +kernel
theorem dX4_opens_1 : decode cX4_opens 1 = .ok (.getfield 10, 3) := by decide +kernel
theorem dX4_opens_4 : decode cX4_opens 4 = .ok (.iload_n 1, 1) := by decide +kernel
theorem dX4_opens_5 : decode cX4_opens 5 = .ok (.invokevirtual 99, 3) := by decide +kernel
theorem dX4_opens_8 : decode cX4_opens 8 = .ok (.ifCond .eq 14, 3) := by decide +kernel
theorem dX4_opens_11 : decode cX4_opens 11 = .ok (.aload_n 0, 1) := by decide +kernel
theorem dX4_opens_12 : decode cX4_opens 12 = .ok (.getfield 10, 3) := by decide +kernel
theorem dX4_opens_15 : decode cX4_opens 15 = .ok (.iload_n 2, 1) := by decide +kernel
theorem dX4_opens_16 : decode cX4_opens 16 = .ok (.invokevirtual 74, 3) := by decide +kernel
theorem dX4_opens_19 : decode cX4_opens 19 = .ok (.ifCond .ne 9, 3) := by decide +kernel
theorem dX4_opens_22 : decode cX4_opens 22 = .ok (.aload_n 0, 1) := by decide +kernel
theorem dX4_opens_23 : decode cX4_opens 23 = .ok (.iconst (-1), 1) := by decide +kernel
theorem dX4_opens_24 : decode cX4_opens 24 = .ok (.invokevirtual 51, 3) := by decide +kernel
theorem dX4_opens_27 : decode cX4_opens 27 = .ok (.ireturn, 1) := by decide +kernel
theorem dX4_opens_28 : decode cX4_opens 28 = .ok (.aload_n 0, 1) := by decide +kernel
theorem dX4_opens_29 : decode cX4_opens 29 = .ok (.getfield 10, 3) := by decide +kernel
theorem dX4_opens_32 : decode cX4_opens 32 = .ok (.iload_n 1, 1) := by decide +kernel
theorem dX4_opens_33 : decode cX4_opens 33 = .ok (.iload_n 2, 1) := by decide +kernel
theorem dX4_opens_34 : decode cX4_opens 34 = .ok (.invokevirtual 114, 3) := by decide +kernel
theorem dX4_opens_37 : decode cX4_opens 37 = .ok (.ifCond .ne 10, 3) := by decide +kernel
theorem dX4_opens_40 : decode cX4_opens 40 = .ok (.aload_n 0, 1) := by decide +kernel
theorem dX4_opens_41 : decode cX4_opens 41 = .ok (.bipush (-3), 2) := by decide +kernel
theorem dX4_opens_43 : decode cX4_opens 43 = .ok (.invokevirtual 51, 3) := by decide +kernel
theorem dX4_opens_46 : decode cX4_opens 46 = .ok (.ireturn, 1) := by decide +kernel
theorem dX4_opens_47 : decode cX4_opens 47 = .ok (.aload_n 0, 1) := by decide +kernel
theorem dX4_opens_48 : decode cX4_opens 48 = .ok (.getfield 10, 3) := by decide +kernel
theorem dX4_opens_51 : decode cX4_opens 51 = .ok (.iload_n 1, 1) := by decide +kernel
theorem dX4_opens_52 : decode cX4_opens 52 = .ok (.iload_n 2, 1) := by decide +kernel
theorem dX4_opens_53 : decode cX4_opens 53 = .ok (.invokevirtual 118, 3) := by decide +kernel
theorem dX4_opens_56 : decode cX4_opens 56 = .ok (.aload_n 0, 1) := by decide +kernel
theorem dX4_opens_57 : decode cX4_opens 57 = .ok (.getfield 10, 3) := by decide +kernel
theorem dX4_opens_60 : decode cX4_opens 60 = .ok (.getfield 108, 3) := by decide +kernel
theorem dX4_opens_63 : decode cX4_opens 63 = .ok (.iload_n 1, 1) := by decide +kernel
theorem dX4_opens_64 : decode cX4_opens 64 = .ok (.iaload, 1) := by decide +kernel
theorem dX4_opens_65 : decode cX4_opens 65 = .ok (.ireturn, 1) := by decide +kernel
theorem dX4_quarrels_0 : decode cX4_quarrels 0 = .ok (.aload_n 0, 1) := by decide +kernel
theorem dX4_quarrels_1 : decode cX4_quarrels 1 = .ok (.getfield 10, 3) := by decide +kernel
theorem dX4_quarrels_4 : decode cX4_quarrels 4 = .ok (.iload_n 1, 1) := by decide +kernel
theorem dX4_quarrels_5 : decode cX4_quarrels 5 = .ok (.invokevirtual 74, 3) := by decide +kernel
theorem dX4_quarrels_8 : decode cX4_quarrels 8 = .ok (.ifCond .eq 14, 3) := by decide +kernel
theorem dX4_quarrels_11 : decode cX4_quarrels 11 = .ok (.aload_n 0, 1) := by decide +kernel
theorem dX4_quarrels_12 : decode cX4_quarrels 12 = .ok (.getfield 10, 3) := by decide +kernel
theorem dX4_quarrels_15 : decode cX4_quarrels 15 = .ok (.iload_n 3, 1) := by decide +kernel
theorem dX4_quarrels_16 : decode cX4_quarrels 16 = .ok (.invokevirtual 99, 3) := by decide +kernel
theorem dX4_quarrels_19 : decode cX4_quarrels 19 = .ok (.ifCond .ne 9, 3) := by decide +kernel
theorem dX4_quarrels_22 : decode cX4_quarrels 22 = .ok (.aload_n 0, 1) := by decide +kernel
theorem dX4_quarrels_23 : decode cX4_quarrels 23 = .ok (.iconst (-1), 1) := by decide +kernel
theorem dX4_quarrels_24 : decode cX4_quarrels 24 = .ok (.invokevirtual 51, 3) := by decide +kernel
theorem dX4_quarrels_27 : decode cX4_quarrels 27 = .ok (.ireturn, 1) := by decide +kernel
theorem dX4_quarrels_28 : decode cX4_quarrels 28 = .ok (.iload_n 2, 1) := by decide +kernel
theorem dX4_quarrels_29 : decode cX4_quarrels 29 = .ok (.iconst 0, 1) := by decide +kernel
theorem dX4_quarrels_30 : decode cX4_quarrels 30 = .ok (.bipush 99, 2) := by decide +kernel
theorem dX4_quarrels_32 : decode cX4_quarrels 32 = .ok (.invokestatic 122, 3) := by decide +kernel
theorem dX4_quarrels_35 : decode cX4_quarrels 35 = .ok (.istore 4, 2) := by decide +kernel
theorem dX4_quarrels_37 : decode cX4_quarrels 37 = .ok (.iload 4, 2) := by decide +kernel
theorem dX4_quarrels_39 : decode cX4_quarrels 39 = .ok (.ifCond .ge 10, 3) := by decide +kernel
theorem dX4_quarrels_42 : decode cX4_quarrels 42 = .ok (.aload_n 0, 1) := by decide +kernel
theorem dX4_quarrels_43 : decode cX4_quarrels 43 = .ok (.iload 4, 2) := by decide +kernel
theorem dX4_quarrels_45 : decode cX4_quarrels 45 = .ok (.invokevirtual 51, 3) := by decide +kernel
theorem dX4_quarrels_48 : decode cX4_quarrels 48 = .ok (.ireturn, 1) := by decide +kernel
theorem dX4_quarrels_49 : decode cX4_quarrels 49 = .ok (.aload_n 0, 1) := by decide +kernel
theorem dX4_quarrels_50 : decode cX4_quarrels 50 = .ok (.getfield 10, 3) := by decide +kernel
theorem dX4_quarrels_53 : decode cX4_quarrels 53 = .ok (.getfield 90, 3) := by decide +kernel
theorem dX4_quarrels_56 : decode cX4_quarrels 56 = .ok (.iload_n 1, 1) := by decide +kernel
theorem dX4_quarrels_57 : decode cX4_quarrels 57 = .ok (.iaload, 1) := by decide +kernel
theorem dX4_quarrels_58 : decode cX4_quarrels 58 = .ok (.istore 5, 2) := by decide +kernel
theorem dX4_quarrels_60 : decode cX4_quarrels 60 = .ok (.aload_n 0, 1) := by decide +kernel
theorem dX4_quarrels_61 : decode cX4_quarrels 61 = .ok (.getfield 10, 3) := by decide +kernel
theorem dX4_quarrels_64 : decode cX4_quarrels 64 = .ok (.iload_n 1, 1) := by decide +kernel
theorem dX4_quarrels_65 : decode cX4_quarrels 65 = .ok (.iload_n 2, 1) := by decide +kernel
theorem dX4_quarrels_66 : decode cX4_quarrels 66 = .ok (.iload_n 3, 1) := by decide +kernel
theorem dX4_quarrels_67 : decode cX4_quarrels 67 = .ok (.invokevirtual 126, 3) := by decide +kernel
theorem dX4_quarrels_70 : decode cX4_quarrels 70 = .ok (.iload 5, 2) := by decide +kernel
theorem dX4_quarrels_72 : decode cX4_quarrels 72 = .ok (.ireturn, 1) := by decide +kernel
theorem dX4_airs_0 : decode cX4_airs 0 = .ok (.aload_n 0, 1) := by decide +kernel
theorem dX4_airs_1 : decode cX4_airs 1 = .ok (.getfield 10, 3) := by decide +kernel
theorem dX4_airs_4 : decode cX4_airs 4 = .ok (.iload_n 1, 1) := by decide +kernel
theorem dX4_airs_5 : decode cX4_airs 5 = .ok (.invokevirtual 74, 3) := by decide +kernel
theorem dX4_airs_8 : decode cX4_airs 8 = .ok (.ifCond .ne 9, 3) := by decide +kernel
theorem dX4_airs_11 : decode cX4_airs 11 = .ok (.aload_n 0, 1) := by decide +kernel
theorem dX4_airs_12 : decode cX4_airs 12 = .ok (.iconst (-1), 1) := by decide +kernel
theorem dX4_airs_13 : decode cX4_airs 13 = .ok (.invokevirtual 51, 3) := by decide +kernel
theorem dX4_airs_16 : decode cX4_airs 16 = .ok (.ireturn, 1) := by decide +kernel
theorem dX4_airs_17 : decode cX4_airs 17 = .ok (.aload_n 0, 1) := by decide +kernel
theorem dX4_airs_18 : decode cX4_airs 18 = .ok (.getfield 10, 3) := by decide +kernel
theorem dX4_airs_21 : decode cX4_airs 21 = .ok (.getfield 90, 3) := by decide +kernel
theorem dX4_airs_24 : decode cX4_airs 24 = .ok (.iload_n 1, 1) := by decide +kernel
theorem dX4_airs_25 : decode cX4_airs 25 = .ok (.iaload, 1) := by decide +kernel
theorem dX4_airs_26 : decode cX4_airs 26 = .ok (.istore_n 2, 1) := by decide +kernel
theorem dX4_airs_27 : decode cX4_airs 27 = .ok (.aload_n 0, 1) := by decide +kernel
theorem dX4_airs_28 : decode cX4_airs 28 = .ok (.getfield 10, 3) := by decide +kernel
theorem dX4_airs_31 : decode cX4_airs 31 = .ok (.iload_n 1, 1) := by decide +kernel
theorem dX4_airs_32 : decode cX4_airs 32 = .ok (.iconst 0, 1) := by decide +kernel
theorem dX4_airs_33 : decode cX4_airs 33 = .ok (.bipush 9, 2) := by decide +kernel
theorem dX4_airs_35 : decode cX4_airs 35 = .ok (.invokevirtual 126, 3) := by decide +kernel
theorem dX4_airs_38 : decode cX4_airs 38 = .ok (.iload_n 2, 1) := by decide +kernel
theorem dX4_airs_39 : decode cX4_airs 39 = .ok (.ireturn, 1) := by decide +kernel
theorem dX4_moods_0 : decode cX4_moods 0 = .ok (.aload_n 0, 1) := by decide +kernel
theorem dX4_moods_1 : decode cX4_moods 1 = .ok (.getfield 10, 3) := by decide +kernel
theorem dX4_moods_4 : decode cX4_moods 4 = .ok (.iload_n 1, 1) := by decide +kernel
theorem dX4_moods_5 : decode cX4_moods 5 = .ok (.invokevirtual 99, 3) := by decide +kernel
theorem dX4_moods_8 : decode cX4_moods 8 = .ok (.ifCond .ne 9, 3) := by decide +kernel
theorem dX4_moods_11 : decode cX4_moods 11 = .ok (.aload_n 0, 1) := by decide +kernel
theorem dX4_moods_12 : decode cX4_moods 12 = .ok (.iconst (-1), 1) := by decide +kernel
theorem dX4_moods_13 : decode cX4_moods 13 = .ok (.invokevirtual 51, 3) := by decide +kernel
theorem dX4_moods_16 : decode cX4_moods 16 = .ok (.ireturn, 1) := by decide +kernel
theorem dX4_moods_17 : decode cX4_moods 17 = .ok (.iload_n 2, 1) := by decide +kernel
theorem dX4_moods_18 : decode cX4_moods 18 = .ok (.iconst 0, 1) := by decide +kernel
theorem dX4_moods_19 : decode cX4_moods 19 = .ok (.bipush 99, 2) := by decide +kernel
theorem dX4_moods_21 : decode cX4_moods 21 = .ok (.invokestatic 122, 3) := by decide +kernel
theorem dX4_moods_24 : decode cX4_moods 24 = .ok (.istore_n 3, 1) := by decide +kernel
theorem dX4_moods_25 : decode cX4_moods 25 = .ok (.iload_n 3, 1) := by decide +kernel
theorem dX4_moods_26 : decode cX4_moods 26 = .ok (.ifCond .ge 9, 3) := by decide +kernel
theorem dX4_moods_29 : decode cX4_moods 29 = .ok (.aload_n 0, 1) := by decide +kernel
theorem dX4_moods_30 : decode cX4_moods 30 = .ok (.iload_n 3, 1) := by decide +kernel
theorem dX4_moods_31 : decode cX4_moods 31 = .ok (.invokevirtual 51, 3) := by decide +kernel
theorem dX4_moods_34 : decode cX4_moods 34 = .ok (.ireturn, 1) := by decide +kernel
theorem dX4_moods_35 : decode cX4_moods 35 = .ok (.aload_n 0, 1) := by decide +kernel
theorem dX4_moods_36 : decode cX4_moods 36 = .ok (.getfield 10, 3) := by decide +kernel
theorem dX4_moods_39 : decode cX4_moods 39 = .ok (.getfield 108, 3) := by decide +kernel
theorem dX4_moods_42 : decode cX4_moods 42 = .ok (.iload_n 1, 1) := by decide +kernel
theorem dX4_moods_43 : decode cX4_moods 43 = .ok (.iaload, 1) := by decide +kernel
theorem dX4_moods_44 : decode cX4_moods 44 = .ok (.istore 4, 2) := by decide +kernel
theorem dX4_moods_46 : decode cX4_moods 46 = .ok (.aload_n 0, 1) := by decide +kernel
theorem dX4_moods_47 : decode cX4_moods 47 = .ok (.getfield 10, 3) := by decide +kernel
theorem dX4_moods_50 : decode cX4_moods 50 = .ok (.getfield 108, 3) := by decide +kernel
theorem dX4_moods_53 : decode cX4_moods 53 = .ok (.iload_n 1, 1) := by decide +kernel
theorem dX4_moods_54 : decode cX4_moods 54 = .ok (.iload_n 2, 1) := by decide +kernel
theorem dX4_moods_55 : decode cX4_moods 55 = .ok (.iastore, 1) := by decide +kernel
theorem dX4_moods_56 : decode cX4_moods 56 = .ok (.iload 4, 2) := by decide +kernel
theorem dX4_moods_58 : decode cX4_moods 58 = .ok (.ireturn, 1) := by decide +kernel
theorem dX4_stands_0 : decode cX4_stands 0 = .ok (.aload_n 0, 1) := by decide +kernel
theorem dX4_stands_1 : decode cX4_stands 1 = .ok (.getfield 10, 3) := by decide +kernel
theorem dX4_stands_4 : decode cX4_stands 4 = .ok (.iload_n 1, 1) := by decide +kernel
theorem dX4_stands_5 : decode cX4_stands 5 = .ok (.invokevirtual 99, 3) := by decide +kernel
theorem dX4_stands_8 : decode cX4_stands 8 = .ok (.ifCond .eq 10, 3) := by decide +kernel
theorem dX4_stands_11 : decode cX4_stands 11 = .ok (.iload_n 2, 1) := by decide +kernel
theorem dX4_stands_12 : decode cX4_stands 12 = .ok (.invokestatic 130, 3) := by decide +kernel
theorem dX4_stands_15 : decode cX4_stands 15 = .ok (.ifCond .ne 9, 3) := by decide +kernel
theorem dX4_stands_18 : decode cX4_stands 18 = .ok (.aload_n 0, 1) := by decide +kernel
theorem dX4_stands_19 : decode cX4_stands 19 = .ok (.iconst (-1), 1) := by decide +kernel
theorem dX4_stands_20 : decode cX4_stands 20 = .ok (.invokevirtual 51, 3) := by decide +kernel
theorem dX4_stands_23 : decode cX4_stands 23 = .ok (.ireturn, 1) := by decide +kernel
theorem dX4_stands_24 : decode cX4_stands 24 = .ok (.aload_n 0, 1) := by decide +kernel
theorem dX4_stands_25 : decode cX4_stands 25 = .ok (.getfield 10, 3) := by decide +kernel
theorem dX4_stands_28 : decode cX4_stands 28 = .ok (.getfield 105, 3) := by decide +kernel
theorem dX4_stands_31 : decode cX4_stands 31 = .ok (.iload_n 1, 1) := by decide +kernel
theorem dX4_stands_32 : decode cX4_stands 32 = .ok (.iaload, 1) := by decide +kernel
theorem dX4_stands_33 : decode cX4_stands 33 = .ok (.istore_n 3, 1) := by decide +kernel
theorem dX4_stands_34 : decode cX4_stands 34 = .ok (.aload_n 0, 1) := by decide +kernel
theorem dX4_stands_35 : decode cX4_stands 35 = .ok (.getfield 10, 3) := by decide +kernel
theorem dX4_stands_38 : decode cX4_stands 38 = .ok (.getfield 105, 3) := by decide +kernel
theorem dX4_stands_41 : decode cX4_stands 41 = .ok (.iload_n 1, 1) := by decide +kernel
theorem dX4_stands_42 : decode cX4_stands 42 = .ok (.iload_n 2, 1) := by decide +kernel
theorem dX4_stands_43 : decode cX4_stands 43 = .ok (.iastore, 1) := by decide +kernel
theorem dX4_stands_44 : decode cX4_stands 44 = .ok (.iload_n 3, 1) := by decide +kernel
theorem dX4_stands_45 : decode cX4_stands 45 = .ok (.ireturn, 1) := by decide +kernel
theorem dX4_turn_0 : decode cX4_turn 0 = .ok (.aload_n 0, 1) := by decide +kernel
theorem dX4_turn_1 : decode cX4_turn 1 = .ok (.getfield 10, 3) := by decide +kernel
theorem dX4_turn_4 : decode cX4_turn 4 = .ok (.iload_n 1, 1) := by decide +kernel
theorem dX4_turn_5 : decode cX4_turn 5 = .ok (.invokevirtual 74, 3) := by decide +kernel
theorem dX4_turn_8 : decode cX4_turn 8 = .ok (.ifCond .ne 9, 3) := by decide +kernel
theorem dX4_turn_11 : decode cX4_turn 11 = .ok (.aload_n 0, 1) := by decide +kernel
theorem dX4_turn_12 : decode cX4_turn 12 = .ok (.iconst (-1), 1) := by decide +kernel
theorem dX4_turn_13 : decode cX4_turn 13 = .ok (.invokevirtual 51, 3) := by decide +kernel
theorem dX4_turn_16 : decode cX4_turn 16 = .ok (.ireturn, 1) := by decide +kernel
theorem dX4_turn_17 : decode cX4_turn 17 = .ok (.iload_n 2, 1) := by decide +kernel
theorem dX4_turn_18 : decode cX4_turn 18 = .ok (.ifCond .lt 9, 3) := by decide +kernel
theorem dX4_turn_21 : decode cX4_turn 21 = .ok (.iload_n 2, 1) := by decide +kernel
theorem dX4_turn_22 : decode cX4_turn 22 = .ok (.bipush 6, 2) := by decide +kernel
theorem dX4_turn_24 : decode cX4_turn 24 = .ok (.if_icmp .lt 10, 3) := by decide +kernel
theorem dX4_turn_27 : decode cX4_turn 27 = .ok (.aload_n 0, 1) := by decide +kernel
theorem dX4_turn_28 : decode cX4_turn 28 = .ok (.bipush (-2), 2) := by decide +kernel
theorem dX4_turn_30 : decode cX4_turn 30 = .ok (.invokevirtual 51, 3) := by decide +kernel
theorem dX4_turn_33 : decode cX4_turn 33 = .ok (.ireturn, 1) := by decide +kernel
theorem dX4_turn_34 : decode cX4_turn 34 = .ok (.iload_n 3, 1) := by decide +kernel
theorem dX4_turn_35 : decode cX4_turn 35 = .ok (.iconst 0, 1) := by decide +kernel
theorem dX4_turn_36 : decode cX4_turn 36 = .ok (.bipush 9, 2) := by decide +kernel
theorem dX4_turn_38 : decode cX4_turn 38 = .ok (.invokestatic 122, 3) := by decide +kernel
theorem dX4_turn_41 : decode cX4_turn 41 = .ok (.istore 4, 2) := by decide +kernel
theorem dX4_turn_43 : decode cX4_turn 43 = .ok (.iload 4, 2) := by decide +kernel
theorem dX4_turn_45 : decode cX4_turn 45 = .ok (.ifCond .ge 10, 3) := by decide +kernel
theorem dX4_turn_48 : decode cX4_turn 48 = .ok (.aload_n 0, 1) := by decide +kernel
theorem dX4_turn_49 : decode cX4_turn 49 = .ok (.iload 4, 2) := by decide +kernel
theorem dX4_turn_51 : decode cX4_turn 51 = .ok (.invokevirtual 51, 3) := by decide +kernel
theorem dX4_turn_54 : decode cX4_turn 54 = .ok (.ireturn, 1) := by decide +kernel
theorem dX4_turn_55 : decode cX4_turn 55 = .ok (.bipush 10, 2) := by decide +kernel
theorem dX4_turn_57 : decode cX4_turn 57 = .ok (.aload_n 0, 1) := by decide +kernel
theorem dX4_turn_58 : decode cX4_turn 58 = .ok (.getfield 10, 3) := by decide +kernel
theorem dX4_turn_61 : decode cX4_turn 61 = .ok (.getfield 78, 3) := by decide +kernel
theorem dX4_turn_64 : decode cX4_turn 64 = .ok (.iload_n 1, 1) := by decide +kernel
theorem dX4_turn_65 : decode cX4_turn 65 = .ok (.iaload, 1) := by decide +kernel
theorem dX4_turn_66 : decode cX4_turn 66 = .ok (.imul, 1) := by decide +kernel
theorem dX4_turn_67 : decode cX4_turn 67 = .ok (.aload_n 0, 1) := by decide +kernel
theorem dX4_turn_68 : decode cX4_turn 68 = .ok (.getfield 10, 3) := by decide +kernel
theorem dX4_turn_71 : decode cX4_turn 71 = .ok (.getfield 81, 3) := by decide +kernel
theorem dX4_turn_74 : decode cX4_turn 74 = .ok (.iload_n 1, 1) := by decide +kernel
theorem dX4_turn_75 : decode cX4_turn 75 = .ok (.iaload, 1) := by decide +kernel
theorem dX4_turn_76 : decode cX4_turn 76 = .ok (.iadd, 1) := by decide +kernel
theorem dX4_turn_77 : decode cX4_turn 77 = .ok (.istore 5, 2) := by decide +kernel
theorem dX4_turn_79 : decode cX4_turn 79 = .ok (.aload_n 0, 1) := by decide +kernel
theorem dX4_turn_80 : decode cX4_turn 80 = .ok (.getfield 10, 3) := by decide +kernel
theorem dX4_turn_83 : decode cX4_turn 83 = .ok (.getfield 78, 3) := by decide +kernel
theorem dX4_turn_86 : decode cX4_turn 86 = .ok (.iload_n 1, 1) := by decide +kernel
theorem dX4_turn_87 : decode cX4_turn 87 = .ok (.iload_n 2, 1) := by decide +kernel
theorem dX4_turn_88 : decode cX4_turn 88 = .ok (.iastore, 1) := by decide +kernel
theorem dX4_turn_89 : decode cX4_turn 89 = .ok (.aload_n 0, 1) := by decide +kernel
theorem dX4_turn_90 : decode cX4_turn 90 = .ok (.getfield 10, 3) := by decide +kernel
theorem dX4_turn_93 : decode cX4_turn 93 = .ok (.getfield 81, 3) := by decide +kernel
theorem dX4_turn_96 : decode cX4_turn 96 = .ok (.iload_n 1, 1) := by decide +kernel
theorem dX4_turn_97 : decode cX4_turn 97 = .ok (.iload_n 3, 1) := by decide +kernel
theorem dX4_turn_98 : decode cX4_turn 98 = .ok (.iastore, 1) := by decide +kernel
theorem dX4_turn_99 : decode cX4_turn 99 = .ok (.iload 5, 2) := by decide +kernel
theorem dX4_turn_101 : decode cX4_turn 101 = .ok (.ireturn, 1) := by decide +kernel
theorem dX4_hours_0 : decode cX4_hours 0 = .ok (.iload_n 1, 1) := by decide +kernel
theorem dX4_hours_1 : decode cX4_hours 1 = .ok (.iconst 1, 1) := by decide +kernel
theorem dX4_hours_2 : decode cX4_hours 2 = .ok (.bipush 60, 2) := by decide +kernel
theorem dX4_hours_4 : decode cX4_hours 4 = .ok (.invokestatic 122, 3) := by decide +kernel
theorem dX4_hours_7 : decode cX4_hours 7 = .ok (.istore_n 2, 1) := by decide +kernel
theorem dX4_hours_8 : decode cX4_hours 8 = .ok (.iload_n 2, 1) := by decide +kernel
theorem dX4_hours_9 : decode cX4_hours 9 = .ok (.ifCond .ge 9, 3) := by decide +kernel
theorem dX4_hours_12 : decode cX4_hours 12 = .ok (.aload_n 0, 1) := by decide +kernel
theorem dX4_hours_13 : decode cX4_hours 13 = .ok (.iload_n 2, 1) := by decide +kernel
theorem dX4_hours_14 : decode cX4_hours 14 = .ok (.invokevirtual 51, 3) := by decide +kernel
theorem dX4_hours_17 : decode cX4_hours 17 = .ok (.ireturn, 1) := by decide +kernel
theorem dX4_hours_18 : decode cX4_hours 18 = .ok (.aload_n 0, 1) := by decide +kernel
theorem dX4_hours_19 : decode cX4_hours 19 = .ok (.getfield 10, 3) := by decide +kernel
theorem dX4_hours_22 : decode cX4_hours 22 = .ok (.getfield 133, 3) := by decide +kernel
theorem dX4_hours_25 : decode cX4_hours 25 = .ok (.iload_n 1, 1) := by decide +kernel
theorem dX4_hours_26 : decode cX4_hours 26 = .ok (.iadd, 1) := by decide +kernel
theorem dX4_hours_27 : decode cX4_hours 27 = .ok (.sipush 999, 3) := by decide +kernel
theorem dX4_hours_30 : decode cX4_hours 30 = .ok (.if_icmp .le 10, 3) := by decide +kernel
theorem dX4_hours_33 : decode cX4_hours 33 = .ok (.aload_n 0, 1) := by decide +kernel
theorem dX4_hours_34 : decode cX4_hours 34 = .ok (.bipush (-6), 2) := by decide +kernel
theorem dX4_hours_36 : decode cX4_hours 36 = .ok (.invokevirtual 51, 3) := by decide +kernel
theorem dX4_hours_39 : decode cX4_hours 39 = .ok (.ireturn, 1) := by decide +kernel
theorem dX4_hours_40 : decode cX4_hours 40 = .ok (.aload_n 0, 1) := by decide +kernel
theorem dX4_hours_41 : decode cX4_hours 41 = .ok (.getfield 10, 3) := by decide +kernel
theorem dX4_hours_44 : decode cX4_hours 44 = .ok (.iload_n 1, 1) := by decide +kernel
theorem dX4_hours_45 : decode cX4_hours 45 = .ok (.invokevirtual 136, 3) := by decide +kernel
theorem dX4_hours_48 : decode cX4_hours 48 = .ok (.aload_n 0, 1) := by decide +kernel
theorem dX4_hours_49 : decode cX4_hours 49 = .ok (.getfield 10, 3) := by decide +kernel
theorem dX4_hours_52 : decode cX4_hours 52 = .ok (.invokevirtual 139, 3) := by decide +kernel
theorem dX4_hours_55 : decode cX4_hours 55 = .ok (.ireturn, 1) := by decide +kernel
theorem dX4_doorThen_0 : decode cX4_doorThen 0 = .ok (.aload_n 0, 1) := by decide +kernel
theorem dX4_doorThen_1 : decode cX4_doorThen 1 = .ok (.getfield 10, 3) := by decide +kernel
theorem dX4_doorThen_4 : decode cX4_doorThen 4 = .ok (.iload_n 1, 1) := by decide +kernel
theorem dX4_doorThen_5 : decode cX4_doorThen 5 = .ok (.invokevirtual 74, 3) := by decide +kernel
theorem dX4_doorThen_8 : decode cX4_doorThen 8 = .ok (.ifCond .ne 9, 3) := by decide +kernel
theorem dX4_doorThen_11 : decode cX4_doorThen 11 = .ok (.aload_n 0, 1) := by decide +kernel
theorem dX4_doorThen_12 : decode cX4_doorThen 12 = .ok (.iconst (-1), 1) := by decide +kernel
theorem dX4_doorThen_13 : decode cX4_doorThen 13 = .ok (.invokevirtual 51, 3) := by decide +kernel
theorem dX4_doorThen_16 : decode cX4_doorThen 16 = .ok (.ireturn, 1) := by decide +kernel
theorem dX4_doorThen_17 : decode cX4_doorThen 17 = .ok (.iload_n 2, 1) := by decide +kernel
theorem dX4_doorThen_18 : decode cX4_doorThen 18 = .ok (.iconst 0, 1) := by decide +kernel
theorem dX4_doorThen_19 : decode cX4_doorThen 19 = .ok (.bipush 60, 2) := by decide +kernel
theorem dX4_doorThen_21 : decode cX4_doorThen 21 = .ok (.invokestatic 122, 3) := by decide +kernel
theorem dX4_doorThen_24 : decode cX4_doorThen 24 = .ok (.istore 4, 2) := by decide +kernel
theorem dX4_doorThen_26 : decode cX4_doorThen 26 = .ok (.iload 4, 2) := by decide +kernel
theorem dX4_doorThen_28 : decode cX4_doorThen 28 = .ok (.ifCond .ge 10, 3) := by decide +kernel
theorem dX4_doorThen_31 : decode cX4_doorThen 31 = .ok (.aload_n 0, 1) := by decide +kernel
theorem dX4_doorThen_32 : decode cX4_doorThen 32 = .ok (.iload 4, 2) := by decide +kernel
theorem dX4_doorThen_34 : decode cX4_doorThen 34 = .ok (.invokevirtual 51, 3) := by decide +kernel
theorem dX4_doorThen_37 : decode cX4_doorThen 37 = .ok (.ireturn, 1) := by decide +kernel
theorem dX4_doorThen_38 : decode cX4_doorThen 38 = .ok (.aload_n 0, 1) := by decide +kernel
theorem dX4_doorThen_39 : decode cX4_doorThen 39 = .ok (.getfield 10, 3) := by decide +kernel
theorem dX4_doorThen_42 : decode cX4_doorThen 42 = .ok (.iload_n 1, 1) := by decide +kernel
theorem dX4_doorThen_43 : decode cX4_doorThen 43 = .ok (.iload_n 2, 1) := by decide +kernel
theorem dX4_doorThen_44 : decode cX4_doorThen 44 = .ok (.invokevirtual 142, 3) := by decide +kernel
theorem dX4_doorThen_47 : decode cX4_doorThen 47 = .ok (.istore 5, 2) := by decide +kernel
theorem dX4_doorThen_49 : decode cX4_doorThen 49 = .ok (.iload_n 3, 1) := by decide +kernel
theorem dX4_doorThen_50 : decode cX4_doorThen 50 = .ok (.lookupswitch 49 #[(0, 26), (1, 29)], 26) := by decide +kernel
theorem dX4_doorThen_76 : decode cX4_doorThen 76 = .ok (.iload 5, 2) := by decide +kernel
theorem dX4_doorThen_78 : decode cX4_doorThen 78 = .ok (.ireturn, 1) := by decide +kernel
theorem dX4_doorThen_79 : decode cX4_doorThen 79 = .ok (.iload 5, 2) := by decide +kernel
theorem dX4_doorThen_81 : decode cX4_doorThen 81 = .ok (.ifCond .le 15, 3) := by decide +kernel
theorem dX4_doorThen_84 : decode cX4_doorThen 84 = .ok (.aload_n 0, 1) := by decide +kernel
theorem dX4_doorThen_85 : decode cX4_doorThen 85 = .ok (.getfield 10, 3) := by decide +kernel
theorem dX4_doorThen_88 : decode cX4_doorThen 88 = .ok (.getfield 93, 3) := by decide +kernel
theorem dX4_doorThen_91 : decode cX4_doorThen 91 = .ok (.iload_n 1, 1) := by decide +kernel
theorem dX4_doorThen_92 : decode cX4_doorThen 92 = .ok (.iaload, 1) := by decide +kernel
theorem dX4_doorThen_93 : decode cX4_doorThen 93 = .ok (.goto 5, 3) := by decide +kernel
theorem dX4_doorThen_96 : decode cX4_doorThen 96 = .ok (.bipush 9, 2) := by decide +kernel
theorem dX4_doorThen_98 : decode cX4_doorThen 98 = .ok (.ireturn, 1) := by decide +kernel
theorem dX4_doorThen_99 : decode cX4_doorThen 99 = .ok (.aload_n 0, 1) := by decide +kernel
theorem dX4_doorThen_100 : decode cX4_doorThen 100 = .ok (.bipush (-2), 2) := by decide +kernel
theorem dX4_doorThen_102 : decode cX4_doorThen 102 = .ok (.invokevirtual 51, 3) := by decide +kernel
theorem dX4_doorThen_105 : decode cX4_doorThen 105 = .ok (.ireturn, 1) := by decide +kernel
theorem dX4_moodThen_0 : decode cX4_moodThen 0 = .ok (.aload_n 0, 1) := by decide +kernel
theorem dX4_moodThen_1 : decode cX4_moodThen 1 = .ok (.getfield 10, 3) := by decide +kernel
theorem dX4_moodThen_4 : decode cX4_moodThen 4 = .ok (.iload_n 1, 1) := by decide +kernel
theorem dX4_moodThen_5 : decode cX4_moodThen 5 = .ok (.invokevirtual 99, 3) := by decide +kernel
theorem dX4_moodThen_8 : decode cX4_moodThen 8 = .ok (.ifCond .ne 9, 3) := by decide +kernel
theorem dX4_moodThen_11 : decode cX4_moodThen 11 = .ok (.aload_n 0, 1) := by decide +kernel
theorem dX4_moodThen_12 : decode cX4_moodThen 12 = .ok (.iconst (-1), 1) := by decide +kernel
theorem dX4_moodThen_13 : decode cX4_moodThen 13 = .ok (.invokevirtual 51, 3) := by decide +kernel
theorem dX4_moodThen_16 : decode cX4_moodThen 16 = .ok (.ireturn, 1) := by decide +kernel
theorem dX4_moodThen_17 : decode cX4_moodThen 17 = .ok (.iload_n 2, 1) := by decide +kernel
theorem dX4_moodThen_18 : decode cX4_moodThen 18 = .ok (.iconst 0, 1) := by decide +kernel
theorem dX4_moodThen_19 : decode cX4_moodThen 19 = .ok (.bipush 60, 2) := by decide +kernel
theorem dX4_moodThen_21 : decode cX4_moodThen 21 = .ok (.invokestatic 122, 3) := by decide +kernel
theorem dX4_moodThen_24 : decode cX4_moodThen 24 = .ok (.istore_n 3, 1) := by decide +kernel
theorem dX4_moodThen_25 : decode cX4_moodThen 25 = .ok (.iload_n 3, 1) := by decide +kernel
theorem dX4_moodThen_26 : decode cX4_moodThen 26 = .ok (.ifCond .ge 9, 3) := by decide +kernel
theorem dX4_moodThen_29 : decode cX4_moodThen 29 = .ok (.aload_n 0, 1) := by decide +kernel
theorem dX4_moodThen_30 : decode cX4_moodThen 30 = .ok (.iload_n 3, 1) := by decide +kernel
theorem dX4_moodThen_31 : decode cX4_moodThen 31 = .ok (.invokevirtual 51, 3) := by decide +kernel
theorem dX4_moodThen_34 : decode cX4_moodThen 34 = .ok (.ireturn, 1) := by decide +kernel
theorem dX4_moodThen_35 : decode cX4_moodThen 35 = .ok (.aload_n 0, 1) := by decide +kernel
theorem dX4_moodThen_36 : decode cX4_moodThen 36 = .ok (.getfield 10, 3) := by decide +kernel
theorem dX4_moodThen_39 : decode cX4_moodThen 39 = .ok (.iload_n 1, 1) := by decide +kernel
theorem dX4_moodThen_40 : decode cX4_moodThen 40 = .ok (.iload_n 2, 1) := by decide +kernel
theorem dX4_moodThen_41 : decode cX4_moodThen 41 = .ok (.invokevirtual 146, 3) := by decide +kernel
theorem dX4_moodThen_44 : decode cX4_moodThen 44 = .ok (.ireturn, 1) := by decide +kernel
theorem dX4_first_0 : decode cX4_first 0 = .ok (.iload_n 1, 1) := by decide +kernel
theorem dX4_first_1 : decode cX4_first 1 = .ok (.tableswitch 42 0 2 #[27, 32, 37], 27) := by decide +kernel
theorem dX4_first_28 : decode cX4_first 28 = .ok (.aload_n 0, 1) := by decide +kernel
theorem dX4_first_29 : decode cX4_first 29 = .ok (.invokevirtual 149, 3) := by decide +kernel
theorem dX4_first_32 : decode cX4_first 32 = .ok (.ireturn, 1) := by decide +kernel
theorem dX4_first_33 : decode cX4_first 33 = .ok (.aload_n 0, 1) := by decide +kernel
theorem dX4_first_34 : decode cX4_first 34 = .ok (.invokevirtual 152, 3) := by decide +kernel
theorem dX4_first_37 : decode cX4_first 37 = .ok (.ireturn, 1) := by decide +kernel
theorem dX4_first_38 : decode cX4_first 38 = .ok (.aload_n 0, 1) := by decide +kernel
theorem dX4_first_39 : decode cX4_first 39 = .ok (.invokevirtual 155, 3) := by decide +kernel
theorem dX4_first_42 : decode cX4_first 42 = .ok (.ireturn, 1) := by decide +kernel
theorem dX4_first_43 : decode cX4_first 43 = .ok (.aload_n 0, 1) := by decide +kernel
theorem dX4_first_44 : decode cX4_first 44 = .ok (.bipush (-2), 2) := by decide +kernel
theorem dX4_first_46 : decode cX4_first 46 = .ok (.invokevirtual 51, 3) := by decide +kernel
theorem dX4_first_49 : decode cX4_first 49 = .ok (.ireturn, 1) := by decide +kernel
theorem dX4_cold_0 : decode cX4_cold 0 = .ok (.iconst 0, 1) := by decide +kernel
theorem dX4_cold_1 : decode cX4_cold 1 = .ok (.istore_n 1, 1) := by decide +kernel
theorem dX4_cold_2 : decode cX4_cold 2 = .ok (.iload_n 1, 1) := by decide +kernel
theorem dX4_cold_3 : decode cX4_cold 3 = .ok (.bipush 60, 2) := by decide +kernel
theorem dX4_cold_5 : decode cX4_cold 5 = .ok (.if_icmp .gt 19, 3) := by decide +kernel
theorem dX4_cold_8 : decode cX4_cold 8 = .ok (.aload_n 0, 1) := by decide +kernel
theorem dX4_cold_9 : decode cX4_cold 9 = .ok (.iload_n 1, 1) := by decide +kernel
theorem dX4_cold_10 : decode cX4_cold 10 = .ok (.invokevirtual 158, 3) := by decide +kernel
theorem dX4_cold_13 : decode cX4_cold 13 = .ok (.ifCond .eq 5, 3) := by decide +kernel
theorem dX4_cold_16 : decode cX4_cold 16 = .ok (.iload_n 1, 1) := by decide +kernel
theorem dX4_cold_17 : decode cX4_cold 17 = .ok (.ireturn, 1) := by decide +kernel
theorem dX4_cold_18 : decode cX4_cold 18 = .ok (.iinc 1 1, 3) := by decide +kernel
theorem dX4_cold_21 : decode cX4_cold 21 = .ok (.goto (-19), 3) := by decide +kernel
theorem dX4_cold_24 : decode cX4_cold 24 = .ok (.bipush (-9), 2) := by decide +kernel
theorem dX4_cold_26 : decode cX4_cold 26 = .ok (.ireturn, 1) := by decide +kernel
theorem dX4_isColdAfter_0 : decode cX4_isColdAfter 0 = .ok (.iconst 0, 1) := by decide +kernel
theorem dX4_isColdAfter_1 : decode cX4_isColdAfter 1 = .ok (.istore_n 2, 1) := by decide +kernel
theorem dX4_isColdAfter_2 : decode cX4_isColdAfter 2 = .ok (.iload_n 2, 1) := by decide +kernel
theorem dX4_isColdAfter_3 : decode cX4_isColdAfter 3 = .ok (.aload_n 0, 1) := by decide +kernel
theorem dX4_isColdAfter_4 : decode cX4_isColdAfter 4 = .ok (.getfield 10, 3) := by decide +kernel
theorem dX4_isColdAfter_7 : decode cX4_isColdAfter 7 = .ok (.getfield 161, 3) := by decide +kernel
theorem dX4_isColdAfter_10 : decode cX4_isColdAfter 10 = .ok (.if_icmp .ge 23, 3) := by decide +kernel
theorem dX4_isColdAfter_13 : decode cX4_isColdAfter 13 = .ok (.aload_n 0, 1) := by decide +kernel
theorem dX4_isColdAfter_14 : decode cX4_isColdAfter 14 = .ok (.getfield 10, 3) := by decide +kernel
theorem dX4_isColdAfter_17 : decode cX4_isColdAfter 17 = .ok (.iload_n 2, 1) := by decide +kernel
theorem dX4_isColdAfter_18 : decode cX4_isColdAfter 18 = .ok (.iload_n 1, 1) := by decide +kernel
theorem dX4_isColdAfter_19 : decode cX4_isColdAfter 19 = .ok (.invokevirtual 142, 3) := by decide +kernel
theorem dX4_isColdAfter_22 : decode cX4_isColdAfter 22 = .ok (.ifCond .le 5, 3) := by decide +kernel
theorem dX4_isColdAfter_25 : decode cX4_isColdAfter 25 = .ok (.iconst 0, 1) := by decide +kernel
theorem dX4_isColdAfter_26 : decode cX4_isColdAfter 26 = .ok (.ireturn, 1) := by decide +kernel
theorem dX4_isColdAfter_27 : decode cX4_isColdAfter 27 = .ok (.iinc 2 1, 3) := by decide +kernel
theorem dX4_isColdAfter_30 : decode cX4_isColdAfter 30 = .ok (.goto (-28), 3) := by decide +kernel
theorem dX4_isColdAfter_33 : decode cX4_isColdAfter 33 = .ok (.iconst 1, 1) := by decide +kernel
theorem dX4_isColdAfter_34 : decode cX4_isColdAfter 34 = .ok (.ireturn, 1) := by decide +kernel
theorem dX4_hottest_0 : decode cX4_hottest 0 = .ok (.bipush (-9), 2) := by decide +kernel
theorem dX4_hottest_2 : decode cX4_hottest 2 = .ok (.istore_n 1, 1) := by decide +kernel
theorem dX4_hottest_3 : decode cX4_hottest 3 = .ok (.iconst (-1), 1) := by decide +kernel
theorem dX4_hottest_4 : decode cX4_hottest 4 = .ok (.istore_n 2, 1) := by decide +kernel
theorem dX4_hottest_5 : decode cX4_hottest 5 = .ok (.iconst 0, 1) := by decide +kernel
theorem dX4_hottest_6 : decode cX4_hottest 6 = .ok (.istore_n 3, 1) := by decide +kernel
theorem dX4_hottest_7 : decode cX4_hottest 7 = .ok (.iload_n 3, 1) := by decide +kernel
theorem dX4_hottest_8 : decode cX4_hottest 8 = .ok (.aload_n 0, 1) := by decide +kernel
theorem dX4_hottest_9 : decode cX4_hottest 9 = .ok (.getfield 10, 3) := by decide +kernel
theorem dX4_hottest_12 : decode cX4_hottest 12 = .ok (.getfield 161, 3) := by decide +kernel
theorem dX4_hottest_15 : decode cX4_hottest 15 = .ok (.if_icmp .ge 32, 3) := by decide +kernel
theorem dX4_hottest_18 : decode cX4_hottest 18 = .ok (.aload_n 0, 1) := by decide +kernel
theorem dX4_hottest_19 : decode cX4_hottest 19 = .ok (.getfield 10, 3) := by decide +kernel
theorem dX4_hottest_22 : decode cX4_hottest 22 = .ok (.iload_n 3, 1) := by decide +kernel
theorem dX4_hottest_23 : decode cX4_hottest 23 = .ok (.invokevirtual 96, 3) := by decide +kernel
theorem dX4_hottest_26 : decode cX4_hottest 26 = .ok (.iload_n 2, 1) := by decide +kernel
theorem dX4_hottest_27 : decode cX4_hottest 27 = .ok (.if_icmp .le 14, 3) := by decide +kernel
theorem dX4_hottest_30 : decode cX4_hottest 30 = .ok (.aload_n 0, 1) := by decide +kernel
theorem dX4_hottest_31 : decode cX4_hottest 31 = .ok (.getfield 10, 3) := by decide +kernel
theorem dX4_hottest_34 : decode cX4_hottest 34 = .ok (.iload_n 3, 1) := by decide +kernel
theorem dX4_hottest_35 : decode cX4_hottest 35 = .ok (.invokevirtual 96, 3) := by decide +kernel
theorem dX4_hottest_38 : decode cX4_hottest 38 = .ok (.istore_n 2, 1) := by decide +kernel
theorem dX4_hottest_39 : decode cX4_hottest 39 = .ok (.iload_n 3, 1) := by decide +kernel
theorem dX4_hottest_40 : decode cX4_hottest 40 = .ok (.istore_n 1, 1) := by decide +kernel
theorem dX4_hottest_41 : decode cX4_hottest 41 = .ok (.iinc 3 1, 3) := by decide +kernel
theorem dX4_hottest_44 : decode cX4_hottest 44 = .ok (.goto (-37), 3) := by decide +kernel
theorem dX4_hottest_47 : decode cX4_hottest 47 = .ok (.iload_n 1, 1) := by decide +kernel
theorem dX4_hottest_48 : decode cX4_hottest 48 = .ok (.ireturn, 1) := by decide +kernel
theorem dX4_loudest_0 : decode cX4_loudest 0 = .ok (.bipush (-9), 2) := by decide +kernel
theorem dX4_loudest_2 : decode cX4_loudest 2 = .ok (.istore_n 1, 1) := by decide +kernel
theorem dX4_loudest_3 : decode cX4_loudest 3 = .ok (.iconst (-1), 1) := by decide +kernel
theorem dX4_loudest_4 : decode cX4_loudest 4 = .ok (.istore_n 2, 1) := by decide +kernel
theorem dX4_loudest_5 : decode cX4_loudest 5 = .ok (.iconst 0, 1) := by decide +kernel
theorem dX4_loudest_6 : decode cX4_loudest 6 = .ok (.istore_n 3, 1) := by decide +kernel
theorem dX4_loudest_7 : decode cX4_loudest 7 = .ok (.iload_n 3, 1) := by decide +kernel
theorem dX4_loudest_8 : decode cX4_loudest 8 = .ok (.aload_n 0, 1) := by decide +kernel
theorem dX4_loudest_9 : decode cX4_loudest 9 = .ok (.getfield 10, 3) := by decide +kernel
theorem dX4_loudest_12 : decode cX4_loudest 12 = .ok (.getfield 161, 3) := by decide +kernel
theorem dX4_loudest_15 : decode cX4_loudest 15 = .ok (.if_icmp .ge 34, 3) := by decide +kernel
theorem dX4_loudest_18 : decode cX4_loudest 18 = .ok (.aload_n 0, 1) := by decide +kernel
theorem dX4_loudest_19 : decode cX4_loudest 19 = .ok (.getfield 10, 3) := by decide +kernel
theorem dX4_loudest_22 : decode cX4_loudest 22 = .ok (.getfield 90, 3) := by decide +kernel
theorem dX4_loudest_25 : decode cX4_loudest 25 = .ok (.iload_n 3, 1) := by decide +kernel
theorem dX4_loudest_26 : decode cX4_loudest 26 = .ok (.iaload, 1) := by decide +kernel
theorem dX4_loudest_27 : decode cX4_loudest 27 = .ok (.iload_n 2, 1) := by decide +kernel
theorem dX4_loudest_28 : decode cX4_loudest 28 = .ok (.if_icmp .le 15, 3) := by decide +kernel
theorem dX4_loudest_31 : decode cX4_loudest 31 = .ok (.aload_n 0, 1) := by decide +kernel
theorem dX4_loudest_32 : decode cX4_loudest 32 = .ok (.getfield 10, 3) := by decide +kernel
theorem dX4_loudest_35 : decode cX4_loudest 35 = .ok (.getfield 90, 3) := by decide +kernel
theorem dX4_loudest_38 : decode cX4_loudest 38 = .ok (.iload_n 3, 1) := by decide +kernel
theorem dX4_loudest_39 : decode cX4_loudest 39 = .ok (.iaload, 1) := by decide +kernel
theorem dX4_loudest_40 : decode cX4_loudest 40 = .ok (.istore_n 2, 1) := by decide +kernel
theorem dX4_loudest_41 : decode cX4_loudest 41 = .ok (.iload_n 3, 1) := by decide +kernel
theorem dX4_loudest_42 : decode cX4_loudest 42 = .ok (.istore_n 1, 1) := by decide +kernel
theorem dX4_loudest_43 : decode cX4_loudest 43 = .ok (.iinc 3 1, 3) := by decide +kernel
theorem dX4_loudest_46 : decode cX4_loudest 46 = .ok (.goto (-39), 3) := by decide +kernel
theorem dX4_loudest_49 : decode cX4_loudest 49 = .ok (.iload_n 1, 1) := by decide +kernel
theorem dX4_loudest_50 : decode cX4_loudest 50 = .ok (.ireturn, 1) := by decide +kernel
theorem dX4_way_0 : decode cX4_way 0 = .ok (.aload_n 0, 1) := by decide +kernel
theorem dX4_way_1 : decode cX4_way 1 = .ok (.getfield 10, 3) := by decide +kernel
theorem dX4_way_4 : decode cX4_way 4 = .ok (.iload_n 1, 1) := by decide +kernel
theorem dX4_way_5 : decode cX4_way 5 = .ok (.invokevirtual 99, 3) := by decide +kernel
theorem dX4_way_8 : decode cX4_way 8 = .ok (.ifCond .eq 10, 3) := by decide +kernel
theorem dX4_way_11 : decode cX4_way 11 = .ok (.iload_n 2, 1) := by decide +kernel
theorem dX4_way_12 : decode cX4_way 12 = .ok (.invokestatic 130, 3) := by decide +kernel
theorem dX4_way_15 : decode cX4_way 15 = .ok (.ifCond .ne 9, 3) := by decide +kernel
theorem dX4_way_18 : decode cX4_way 18 = .ok (.aload_n 0, 1) := by decide +kernel
theorem dX4_way_19 : decode cX4_way 19 = .ok (.iconst (-1), 1) := by decide +kernel
theorem dX4_way_20 : decode cX4_way 20 = .ok (.invokevirtual 51, 3) := by decide +kernel
theorem dX4_way_23 : decode cX4_way 23 = .ok (.ireturn, 1) := by decide +kernel
theorem dX4_way_24 : decode cX4_way 24 = .ok (.aload_n 0, 1) := by decide +kernel
theorem dX4_way_25 : decode cX4_way 25 = .ok (.iload_n 2, 1) := by decide +kernel
theorem dX4_way_26 : decode cX4_way 26 = .ok (.iconst 0, 1) := by decide +kernel
theorem dX4_way_27 : decode cX4_way 27 = .ok (.invokevirtual 164, 3) := by decide +kernel
theorem dX4_way_30 : decode cX4_way 30 = .ok (.aload_n 0, 1) := by decide +kernel
theorem dX4_way_31 : decode cX4_way 31 = .ok (.getfield 10, 3) := by decide +kernel
theorem dX4_way_34 : decode cX4_way 34 = .ok (.getfield 105, 3) := by decide +kernel
theorem dX4_way_37 : decode cX4_way 37 = .ok (.iload_n 1, 1) := by decide +kernel
theorem dX4_way_38 : decode cX4_way 38 = .ok (.iaload, 1) := by decide +kernel
theorem dX4_way_39 : decode cX4_way 39 = .ok (.istore 4, 2) := by decide +kernel
theorem dX4_way_41 : decode cX4_way 41 = .ok (.iload_n 3, 1) := by decide +kernel
theorem dX4_way_42 : decode cX4_way 42 = .ok (.tableswitch 60 0 2 #[26, 36, 46], 26) := by decide +kernel
theorem dX4_way_68 : decode cX4_way 68 = .ok (.aload_n 0, 1) := by decide +kernel
theorem dX4_way_69 : decode cX4_way 69 = .ok (.getfield 36, 3) := by decide +kernel
theorem dX4_way_72 : decode cX4_way 72 = .ok (.iload 4, 2) := by decide +kernel
theorem dX4_way_74 : decode cX4_way 74 = .ok (.invokevirtual 167, 3) := by decide +kernel
theorem dX4_way_77 : decode cX4_way 77 = .ok (.ireturn, 1) := by decide +kernel
theorem dX4_way_78 : decode cX4_way 78 = .ok (.aload_n 0, 1) := by decide +kernel
theorem dX4_way_79 : decode cX4_way 79 = .ok (.getfield 36, 3) := by decide +kernel
theorem dX4_way_82 : decode cX4_way 82 = .ok (.iload 4, 2) := by decide +kernel
theorem dX4_way_84 : decode cX4_way 84 = .ok (.invokevirtual 170, 3) := by decide +kernel
theorem dX4_way_87 : decode cX4_way 87 = .ok (.ireturn, 1) := by decide +kernel
theorem dX4_way_88 : decode cX4_way 88 = .ok (.aload_n 0, 1) := by decide +kernel
theorem dX4_way_89 : decode cX4_way 89 = .ok (.getfield 36, 3) := by decide +kernel
theorem dX4_way_92 : decode cX4_way 92 = .ok (.aload_n 0, 1) := by decide +kernel
theorem dX4_way_93 : decode cX4_way 93 = .ok (.getfield 10, 3) := by decide +kernel
theorem dX4_way_96 : decode cX4_way 96 = .ok (.iload 4, 2) := by decide +kernel
theorem dX4_way_98 : decode cX4_way 98 = .ok (.invokevirtual 173, 3) := by decide +kernel
theorem dX4_way_101 : decode cX4_way 101 = .ok (.ireturn, 1) := by decide +kernel
theorem dX4_way_102 : decode cX4_way 102 = .ok (.aload_n 0, 1) := by decide +kernel
theorem dX4_way_103 : decode cX4_way 103 = .ok (.bipush (-2), 2) := by decide +kernel
theorem dX4_way_105 : decode cX4_way 105 = .ok (.invokevirtual 51, 3) := by decide +kernel
theorem dX4_way_108 : decode cX4_way 108 = .ok (.ireturn, 1) := by decide +kernel
theorem dX4_fewest_0 : decode cX4_fewest 0 = .ok (.aload_n 0, 1) := by decide +kernel
theorem dX4_fewest_1 : decode cX4_fewest 1 = .ok (.getfield 10, 3) := by decide +kernel
theorem dX4_fewest_4 : decode cX4_fewest 4 = .ok (.iload_n 1, 1) := by decide +kernel
theorem dX4_fewest_5 : decode cX4_fewest 5 = .ok (.invokevirtual 99, 3) := by decide +kernel
theorem dX4_fewest_8 : decode cX4_fewest 8 = .ok (.ifCond .eq 10, 3) := by decide +kernel
theorem dX4_fewest_11 : decode cX4_fewest 11 = .ok (.iload_n 2, 1) := by decide +kernel
theorem dX4_fewest_12 : decode cX4_fewest 12 = .ok (.invokestatic 130, 3) := by decide +kernel
theorem dX4_fewest_15 : decode cX4_fewest 15 = .ok (.ifCond .ne 9, 3) := by decide +kernel
theorem dX4_fewest_18 : decode cX4_fewest 18 = .ok (.aload_n 0, 1) := by decide +kernel
theorem dX4_fewest_19 : decode cX4_fewest 19 = .ok (.iconst (-1), 1) := by decide +kernel
theorem dX4_fewest_20 : decode cX4_fewest 20 = .ok (.invokevirtual 51, 3) := by decide +kernel
theorem dX4_fewest_23 : decode cX4_fewest 23 = .ok (.ireturn, 1) := by decide +kernel
theorem dX4_fewest_24 : decode cX4_fewest 24 = .ok (.aload_n 0, 1) := by decide +kernel
theorem dX4_fewest_25 : decode cX4_fewest 25 = .ok (.getfield 36, 3) := by decide +kernel
theorem dX4_fewest_28 : decode cX4_fewest 28 = .ok (.invokevirtual 177, 3) := by decide +kernel
theorem dX4_fewest_31 : decode cX4_fewest 31 = .ok (.aload_n 0, 1) := by decide +kernel
theorem dX4_fewest_32 : decode cX4_fewest 32 = .ok (.getfield 36, 3) := by decide +kernel
theorem dX4_fewest_35 : decode cX4_fewest 35 = .ok (.aload_n 0, 1) := by decide +kernel
theorem dX4_fewest_36 : decode cX4_fewest 36 = .ok (.getfield 10, 3) := by decide +kernel
theorem dX4_fewest_39 : decode cX4_fewest 39 = .ok (.iload_n 2, 1) := by decide +kernel
theorem dX4_fewest_40 : decode cX4_fewest 40 = .ok (.invokevirtual 180, 3) := by decide +kernel
theorem dX4_fewest_43 : decode cX4_fewest 43 = .ok (.aload_n 0, 1) := by decide +kernel
theorem dX4_fewest_44 : decode cX4_fewest 44 = .ok (.getfield 36, 3) := by decide +kernel
theorem dX4_fewest_47 : decode cX4_fewest 47 = .ok (.aload_n 0, 1) := by decide +kernel
theorem dX4_fewest_48 : decode cX4_fewest 48 = .ok (.getfield 10, 3) := by decide +kernel
theorem dX4_fewest_51 : decode cX4_fewest 51 = .ok (.getfield 105, 3) := by decide +kernel
theorem dX4_fewest_54 : decode cX4_fewest 54 = .ok (.iload_n 1, 1) := by decide +kernel
theorem dX4_fewest_55 : decode cX4_fewest 55 = .ok (.iaload, 1) := by decide +kernel
theorem dX4_fewest_56 : decode cX4_fewest 56 = .ok (.invokevirtual 170, 3) := by decide +kernel
theorem dX4_fewest_59 : decode cX4_fewest 59 = .ok (.ireturn, 1) := by decide +kernel
theorem dX4_near_0 : decode cX4_near 0 = .ok (.aload_n 0, 1) := by decide +kernel
theorem dX4_near_1 : decode cX4_near 1 = .ok (.getfield 10, 3) := by decide +kernel
theorem dX4_near_4 : decode cX4_near 4 = .ok (.iload_n 1, 1) := by decide +kernel
theorem dX4_near_5 : decode cX4_near 5 = .ok (.invokevirtual 99, 3) := by decide +kernel
theorem dX4_near_8 : decode cX4_near 8 = .ok (.ifCond .ne 9, 3) := by decide +kernel
theorem dX4_near_11 : decode cX4_near 11 = .ok (.aload_n 0, 1) := by decide +kernel
theorem dX4_near_12 : decode cX4_near 12 = .ok (.iconst (-1), 1) := by decide +kernel
theorem dX4_near_13 : decode cX4_near 13 = .ok (.invokevirtual 51, 3) := by decide +kernel
theorem dX4_near_16 : decode cX4_near 16 = .ok (.ireturn, 1) := by decide +kernel
theorem dX4_near_17 : decode cX4_near 17 = .ok (.aload_n 0, 1) := by decide +kernel
theorem dX4_near_18 : decode cX4_near 18 = .ok (.getfield 36, 3) := by decide +kernel
theorem dX4_near_21 : decode cX4_near 21 = .ok (.invokevirtual 177, 3) := by decide +kernel
theorem dX4_near_24 : decode cX4_near 24 = .ok (.aload_n 0, 1) := by decide +kernel
theorem dX4_near_25 : decode cX4_near 25 = .ok (.getfield 36, 3) := by decide +kernel
theorem dX4_near_28 : decode cX4_near 28 = .ok (.aload_n 0, 1) := by decide +kernel
theorem dX4_near_29 : decode cX4_near 29 = .ok (.getfield 10, 3) := by decide +kernel
theorem dX4_near_32 : decode cX4_near 32 = .ok (.aload_n 0, 1) := by decide +kernel
theorem dX4_near_33 : decode cX4_near 33 = .ok (.getfield 10, 3) := by decide +kernel
theorem dX4_near_36 : decode cX4_near 36 = .ok (.getfield 105, 3) := by decide +kernel
theorem dX4_near_39 : decode cX4_near 39 = .ok (.iload_n 1, 1) := by decide +kernel
theorem dX4_near_40 : decode cX4_near 40 = .ok (.iaload, 1) := by decide +kernel
theorem dX4_near_41 : decode cX4_near 41 = .ok (.invokevirtual 180, 3) := by decide +kernel
theorem dX4_near_44 : decode cX4_near 44 = .ok (.iconst 0, 1) := by decide +kernel
theorem dX4_near_45 : decode cX4_near 45 = .ok (.istore_n 2, 1) := by decide +kernel
theorem dX4_near_46 : decode cX4_near 46 = .ok (.iconst 0, 1) := by decide +kernel
theorem dX4_near_47 : decode cX4_near 47 = .ok (.istore_n 3, 1) := by decide +kernel
theorem dX4_near_48 : decode cX4_near 48 = .ok (.iload_n 3, 1) := by decide +kernel
theorem dX4_near_49 : decode cX4_near 49 = .ok (.bipush 7, 2) := by decide +kernel
theorem dX4_near_51 : decode cX4_near 51 = .ok (.if_icmp .ge 28, 3) := by decide +kernel
theorem dX4_near_54 : decode cX4_near 54 = .ok (.aload_n 0, 1) := by decide +kernel
theorem dX4_near_55 : decode cX4_near 55 = .ok (.getfield 36, 3) := by decide +kernel
theorem dX4_near_58 : decode cX4_near 58 = .ok (.iload_n 3, 1) := by decide +kernel
theorem dX4_near_59 : decode cX4_near 59 = .ok (.invokevirtual 167, 3) := by decide +kernel
theorem dX4_near_62 : decode cX4_near 62 = .ok (.bipush (-9), 2) := by decide +kernel
theorem dX4_near_64 : decode cX4_near 64 = .ok (.if_icmp .eq 9, 3) := by decide +kernel
theorem dX4_near_67 : decode cX4_near 67 = .ok (.iload_n 2, 1) := by decide +kernel
theorem dX4_near_68 : decode cX4_near 68 = .ok (.iconst 1, 1) := by decide +kernel
theorem dX4_near_69 : decode cX4_near 69 = .ok (.iload_n 3, 1) := by decide +kernel
theorem dX4_near_70 : decode cX4_near 70 = .ok (.ishl, 1) := by decide +kernel
theorem dX4_near_71 : decode cX4_near 71 = .ok (.ior, 1) := by decide +kernel
theorem dX4_near_72 : decode cX4_near 72 = .ok (.istore_n 2, 1) := by decide +kernel
theorem dX4_near_73 : decode cX4_near 73 = .ok (.iinc 3 1, 3) := by decide +kernel
theorem dX4_near_76 : decode cX4_near 76 = .ok (.goto (-28), 3) := by decide +kernel
theorem dX4_near_79 : decode cX4_near 79 = .ok (.iload_n 2, 1) := by decide +kernel
theorem dX4_near_80 : decode cX4_near 80 = .ok (.ireturn, 1) := by decide +kernel
theorem dX4_cutOff_0 : decode cX4_cutOff 0 = .ok (.bipush 127, 2) := by decide +kernel
theorem dX4_cutOff_2 : decode cX4_cutOff 2 = .ok (.istore_n 1, 1) := by decide +kernel
theorem dX4_cutOff_3 : decode cX4_cutOff 3 = .ok (.iconst 0, 1) := by decide +kernel
theorem dX4_cutOff_4 : decode cX4_cutOff 4 = .ok (.istore_n 2, 1) := by decide +kernel
theorem dX4_cutOff_5 : decode cX4_cutOff 5 = .ok (.iload_n 2, 1) := by decide +kernel
theorem dX4_cutOff_6 : decode cX4_cutOff 6 = .ok (.aload_n 0, 1) := by decide +kernel
theorem dX4_cutOff_7 : decode cX4_cutOff 7 = .ok (.getfield 10, 3) := by decide +kernel
theorem dX4_cutOff_10 : decode cX4_cutOff 10 = .ok (.getfield 161, 3) := by decide +kernel
theorem dX4_cutOff_13 : decode cX4_cutOff 13 = .ok (.if_icmp .ge 41, 3) := by decide +kernel
theorem dX4_cutOff_16 : decode cX4_cutOff 16 = .ok (.iload_n 1, 1) := by decide +kernel
theorem dX4_cutOff_17 : decode cX4_cutOff 17 = .ok (.iconst 1, 1) := by decide +kernel
theorem dX4_cutOff_18 : decode cX4_cutOff 18 = .ok (.aload_n 0, 1) := by decide +kernel
theorem dX4_cutOff_19 : decode cX4_cutOff 19 = .ok (.getfield 10, 3) := by decide +kernel
theorem dX4_cutOff_22 : decode cX4_cutOff 22 = .ok (.getfield 84, 3) := by decide +kernel
theorem dX4_cutOff_25 : decode cX4_cutOff 25 = .ok (.iload_n 2, 1) := by decide +kernel
theorem dX4_cutOff_26 : decode cX4_cutOff 26 = .ok (.iaload, 1) := by decide +kernel
theorem dX4_cutOff_27 : decode cX4_cutOff 27 = .ok (.ishl, 1) := by decide +kernel
theorem dX4_cutOff_28 : decode cX4_cutOff 28 = .ok (.iconst (-1), 1) := by decide +kernel
theorem dX4_cutOff_29 : decode cX4_cutOff 29 = .ok (.ixor, 1) := by decide +kernel
theorem dX4_cutOff_30 : decode cX4_cutOff 30 = .ok (.iand, 1) := by decide +kernel
theorem dX4_cutOff_31 : decode cX4_cutOff 31 = .ok (.istore_n 1, 1) := by decide +kernel
theorem dX4_cutOff_32 : decode cX4_cutOff 32 = .ok (.iload_n 1, 1) := by decide +kernel
theorem dX4_cutOff_33 : decode cX4_cutOff 33 = .ok (.iconst 1, 1) := by decide +kernel
theorem dX4_cutOff_34 : decode cX4_cutOff 34 = .ok (.aload_n 0, 1) := by decide +kernel
theorem dX4_cutOff_35 : decode cX4_cutOff 35 = .ok (.getfield 10, 3) := by decide +kernel
theorem dX4_cutOff_38 : decode cX4_cutOff 38 = .ok (.getfield 87, 3) := by decide +kernel
theorem dX4_cutOff_41 : decode cX4_cutOff 41 = .ok (.iload_n 2, 1) := by decide +kernel
theorem dX4_cutOff_42 : decode cX4_cutOff 42 = .ok (.iaload, 1) := by decide +kernel
theorem dX4_cutOff_43 : decode cX4_cutOff 43 = .ok (.ishl, 1) := by decide +kernel
theorem dX4_cutOff_44 : decode cX4_cutOff 44 = .ok (.iconst (-1), 1) := by decide +kernel
theorem dX4_cutOff_45 : decode cX4_cutOff 45 = .ok (.ixor, 1) := by decide +kernel
theorem dX4_cutOff_46 : decode cX4_cutOff 46 = .ok (.iand, 1) := by decide +kernel
theorem dX4_cutOff_47 : decode cX4_cutOff 47 = .ok (.istore_n 1, 1) := by decide +kernel
theorem dX4_cutOff_48 : decode cX4_cutOff 48 = .ok (.iinc 2 1, 3) := by decide +kernel
theorem dX4_cutOff_51 : decode cX4_cutOff 51 = .ok (.goto (-46), 3) := by decide +kernel
theorem dX4_cutOff_54 : decode cX4_cutOff 54 = .ok (.iload_n 1, 1) := by decide +kernel
theorem dX4_cutOff_55 : decode cX4_cutOff 55 = .ok (.ireturn, 1) := by decide +kernel
theorem dX4_goes_0 : decode cX4_goes 0 = .ok (.aload_n 0, 1) := by decide +kernel
theorem dX4_goes_1 : decode cX4_goes 1 = .ok (.getfield 10, 3) := by decide +kernel
theorem dX4_goes_4 : decode cX4_goes 4 = .ok (.iload_n 1, 1) := by decide +kernel
theorem dX4_goes_5 : decode cX4_goes 5 = .ok (.invokevirtual 99, 3) := by decide +kernel
theorem dX4_goes_8 : decode cX4_goes 8 = .ok (.ifCond .eq 10, 3) := by decide +kernel
theorem dX4_goes_11 : decode cX4_goes 11 = .ok (.iload_n 2, 1) := by decide +kernel
theorem dX4_goes_12 : decode cX4_goes 12 = .ok (.invokestatic 130, 3) := by decide +kernel
theorem dX4_goes_15 : decode cX4_goes 15 = .ok (.ifCond .ne 9, 3) := by decide +kernel
theorem dX4_goes_18 : decode cX4_goes 18 = .ok (.aload_n 0, 1) := by decide +kernel
theorem dX4_goes_19 : decode cX4_goes 19 = .ok (.iconst (-1), 1) := by decide +kernel
theorem dX4_goes_20 : decode cX4_goes 20 = .ok (.invokevirtual 51, 3) := by decide +kernel
theorem dX4_goes_23 : decode cX4_goes 23 = .ok (.ireturn, 1) := by decide +kernel
theorem dX4_goes_24 : decode cX4_goes 24 = .ok (.aload_n 0, 1) := by decide +kernel
theorem dX4_goes_25 : decode cX4_goes 25 = .ok (.iload_n 2, 1) := by decide +kernel
theorem dX4_goes_26 : decode cX4_goes 26 = .ok (.iconst 0, 1) := by decide +kernel
theorem dX4_goes_27 : decode cX4_goes 27 = .ok (.invokevirtual 164, 3) := by decide +kernel
theorem dX4_goes_30 : decode cX4_goes 30 = .ok (.aload_n 0, 1) := by decide +kernel
theorem dX4_goes_31 : decode cX4_goes 31 = .ok (.getfield 36, 3) := by decide +kernel
theorem dX4_goes_34 : decode cX4_goes 34 = .ok (.aload_n 0, 1) := by decide +kernel
theorem dX4_goes_35 : decode cX4_goes 35 = .ok (.getfield 10, 3) := by decide +kernel
theorem dX4_goes_38 : decode cX4_goes 38 = .ok (.getfield 105, 3) := by decide +kernel
theorem dX4_goes_41 : decode cX4_goes 41 = .ok (.iload_n 1, 1) := by decide +kernel
theorem dX4_goes_42 : decode cX4_goes 42 = .ok (.iaload, 1) := by decide +kernel
theorem dX4_goes_43 : decode cX4_goes 43 = .ok (.invokevirtual 170, 3) := by decide +kernel
theorem dX4_goes_46 : decode cX4_goes 46 = .ok (.istore_n 3, 1) := by decide +kernel
theorem dX4_goes_47 : decode cX4_goes 47 = .ok (.iload_n 3, 1) := by decide +kernel
theorem dX4_goes_48 : decode cX4_goes 48 = .ok (.bipush (-9), 2) := by decide +kernel
theorem dX4_goes_50 : decode cX4_goes 50 = .ok (.if_icmp .ne 6, 3) := by decide +kernel
theorem dX4_goes_53 : decode cX4_goes 53 = .ok (.bipush (-9), 2) := by decide +kernel
theorem dX4_goes_55 : decode cX4_goes 55 = .ok (.ireturn, 1) := by decide +kernel
theorem dX4_goes_56 : decode cX4_goes 56 = .ok (.aload_n 0, 1) := by decide +kernel
theorem dX4_goes_57 : decode cX4_goes 57 = .ok (.getfield 16, 3) := by decide +kernel
theorem dX4_goes_60 : decode cX4_goes 60 = .ok (.aload_n 0, 1) := by decide +kernel
theorem dX4_goes_61 : decode cX4_goes 61 = .ok (.getfield 10, 3) := by decide +kernel
theorem dX4_goes_64 : decode cX4_goes 64 = .ok (.invokevirtual 66, 3) := by decide +kernel
theorem dX4_goes_67 : decode cX4_goes 67 = .ok (.iconst 0, 1) := by decide +kernel
theorem dX4_goes_68 : decode cX4_goes 68 = .ok (.istore 4, 2) := by decide +kernel
theorem dX4_goes_70 : decode cX4_goes 70 = .ok (.iload 4, 2) := by decide +kernel
theorem dX4_goes_72 : decode cX4_goes 72 = .ok (.iload_n 3, 1) := by decide +kernel
theorem dX4_goes_73 : decode cX4_goes 73 = .ok (.if_icmp .ge 46, 3) := by decide +kernel
theorem dX4_goes_76 : decode cX4_goes 76 = .ok (.aload_n 0, 1) := by decide +kernel
theorem dX4_goes_77 : decode cX4_goes 77 = .ok (.getfield 36, 3) := by decide +kernel
theorem dX4_goes_80 : decode cX4_goes 80 = .ok (.aload_n 0, 1) := by decide +kernel
theorem dX4_goes_81 : decode cX4_goes 81 = .ok (.getfield 16, 3) := by decide +kernel
theorem dX4_goes_84 : decode cX4_goes 84 = .ok (.aload_n 0, 1) := by decide +kernel
theorem dX4_goes_85 : decode cX4_goes 85 = .ok (.getfield 16, 3) := by decide +kernel
theorem dX4_goes_88 : decode cX4_goes 88 = .ok (.getfield 105, 3) := by decide +kernel
theorem dX4_goes_91 : decode cX4_goes 91 = .ok (.iload_n 1, 1) := by decide +kernel
theorem dX4_goes_92 : decode cX4_goes 92 = .ok (.iaload, 1) := by decide +kernel
theorem dX4_goes_93 : decode cX4_goes 93 = .ok (.invokevirtual 173, 3) := by decide +kernel
theorem dX4_goes_96 : decode cX4_goes 96 = .ok (.istore 5, 2) := by decide +kernel
theorem dX4_goes_98 : decode cX4_goes 98 = .ok (.iload 5, 2) := by decide +kernel
theorem dX4_goes_100 : decode cX4_goes 100 = .ok (.ifCond .lt 13, 3) := by decide +kernel
theorem dX4_goes_103 : decode cX4_goes 103 = .ok (.aload_n 0, 1) := by decide +kernel
theorem dX4_goes_104 : decode cX4_goes 104 = .ok (.getfield 16, 3) := by decide +kernel
theorem dX4_goes_107 : decode cX4_goes 107 = .ok (.iload_n 1, 1) := by decide +kernel
theorem dX4_goes_108 : decode cX4_goes 108 = .ok (.iload 5, 2) := by decide +kernel
theorem dX4_goes_110 : decode cX4_goes 110 = .ok (.invokevirtual 118, 3) := by decide +kernel
theorem dX4_goes_113 : decode cX4_goes 113 = .ok (.iinc 4 1, 3) := by decide +kernel
theorem dX4_goes_116 : decode cX4_goes 116 = .ok (.goto (-46), 3) := by decide +kernel
theorem dX4_goes_119 : decode cX4_goes 119 = .ok (.aload_n 0, 1) := by decide +kernel
theorem dX4_goes_120 : decode cX4_goes 120 = .ok (.getfield 16, 3) := by decide +kernel
theorem dX4_goes_123 : decode cX4_goes 123 = .ok (.getfield 108, 3) := by decide +kernel
theorem dX4_goes_126 : decode cX4_goes 126 = .ok (.iload_n 1, 1) := by decide +kernel
theorem dX4_goes_127 : decode cX4_goes 127 = .ok (.iaload, 1) := by decide +kernel
theorem dX4_goes_128 : decode cX4_goes 128 = .ok (.ireturn, 1) := by decide +kernel
theorem dX4_air_0 : decode cX4_air 0 = .ok (.aload_n 0, 1) := by decide +kernel
theorem dX4_air_1 : decode cX4_air 1 = .ok (.getfield 10, 3) := by decide +kernel
theorem dX4_air_4 : decode cX4_air 4 = .ok (.iload_n 1, 1) := by decide +kernel
theorem dX4_air_5 : decode cX4_air 5 = .ok (.invokevirtual 99, 3) := by decide +kernel
theorem dX4_air_8 : decode cX4_air 8 = .ok (.ifCond .eq 10, 3) := by decide +kernel
theorem dX4_air_11 : decode cX4_air 11 = .ok (.iload_n 2, 1) := by decide +kernel
theorem dX4_air_12 : decode cX4_air 12 = .ok (.invokestatic 130, 3) := by decide +kernel
theorem dX4_air_15 : decode cX4_air 15 = .ok (.ifCond .ne 9, 3) := by decide +kernel
theorem dX4_air_18 : decode cX4_air 18 = .ok (.aload_n 0, 1) := by decide +kernel
theorem dX4_air_19 : decode cX4_air 19 = .ok (.iconst (-1), 1) := by decide +kernel
theorem dX4_air_20 : decode cX4_air 20 = .ok (.invokevirtual 51, 3) := by decide +kernel
theorem dX4_air_23 : decode cX4_air 23 = .ok (.ireturn, 1) := by decide +kernel
theorem dX4_air_24 : decode cX4_air 24 = .ok (.aload_n 0, 1) := by decide +kernel
theorem dX4_air_25 : decode cX4_air 25 = .ok (.getfield 10, 3) := by decide +kernel
theorem dX4_air_28 : decode cX4_air 28 = .ok (.getfield 105, 3) := by decide +kernel
theorem dX4_air_31 : decode cX4_air 31 = .ok (.iload_n 1, 1) := by decide +kernel
theorem dX4_air_32 : decode cX4_air 32 = .ok (.iaload, 1) := by decide +kernel
theorem dX4_air_33 : decode cX4_air 33 = .ok (.istore_n 3, 1) := by decide +kernel
theorem dX4_air_34 : decode cX4_air 34 = .ok (.aload_n 0, 1) := by decide +kernel
theorem dX4_air_35 : decode cX4_air 35 = .ok (.iload_n 2, 1) := by decide +kernel
theorem dX4_air_36 : decode cX4_air 36 = .ok (.iconst 0, 1) := by decide +kernel
theorem dX4_air_37 : decode cX4_air 37 = .ok (.invokevirtual 164, 3) := by decide +kernel
theorem dX4_air_40 : decode cX4_air 40 = .ok (.aload_n 0, 1) := by decide +kernel
theorem dX4_air_41 : decode cX4_air 41 = .ok (.getfield 36, 3) := by decide +kernel
theorem dX4_air_44 : decode cX4_air 44 = .ok (.iload_n 3, 1) := by decide +kernel
theorem dX4_air_45 : decode cX4_air 45 = .ok (.invokevirtual 167, 3) := by decide +kernel
theorem dX4_air_48 : decode cX4_air 48 = .ok (.istore 4, 2) := by decide +kernel
theorem dX4_air_50 : decode cX4_air 50 = .ok (.iload 4, 2) := by decide +kernel
theorem dX4_air_52 : decode cX4_air 52 = .ok (.bipush (-9), 2) := by decide +kernel
theorem dX4_air_54 : decode cX4_air 54 = .ok (.if_icmp .ne 6, 3) := by decide +kernel
theorem dX4_air_57 : decode cX4_air 57 = .ok (.bipush (-9), 2) := by decide +kernel
theorem dX4_air_59 : decode cX4_air 59 = .ok (.ireturn, 1) := by decide +kernel
theorem dX4_air_60 : decode cX4_air 60 = .ok (.bipush (-9), 2) := by decide +kernel
theorem dX4_air_62 : decode cX4_air 62 = .ok (.istore 5, 2) := by decide +kernel
theorem dX4_air_64 : decode cX4_air 64 = .ok (.iconst 0, 1) := by decide +kernel
theorem dX4_air_65 : decode cX4_air 65 = .ok (.istore 6, 2) := by decide +kernel
theorem dX4_air_67 : decode cX4_air 67 = .ok (.iload 6, 2) := by decide +kernel
theorem dX4_air_69 : decode cX4_air 69 = .ok (.aload_n 0, 1) := by decide +kernel
theorem dX4_air_70 : decode cX4_air 70 = .ok (.getfield 10, 3) := by decide +kernel
theorem dX4_air_73 : decode cX4_air 73 = .ok (.getfield 161, 3) := by decide +kernel
theorem dX4_air_76 : decode cX4_air 76 = .ok (.if_icmp .ge 70, 3) := by decide +kernel
theorem dX4_air_79 : decode cX4_air 79 = .ok (.aload_n 0, 1) := by decide +kernel
theorem dX4_air_80 : decode cX4_air 80 = .ok (.getfield 36, 3) := by decide +kernel
theorem dX4_air_83 : decode cX4_air 83 = .ok (.aload_n 0, 1) := by decide +kernel
theorem dX4_air_84 : decode cX4_air 84 = .ok (.getfield 10, 3) := by decide +kernel
theorem dX4_air_87 : decode cX4_air 87 = .ok (.iconst 0, 1) := by decide +kernel
theorem dX4_air_88 : decode cX4_air 88 = .ok (.invokevirtual 184, 3) := by decide +kernel
theorem dX4_air_91 : decode cX4_air 91 = .ok (.aload_n 0, 1) := by decide +kernel
theorem dX4_air_92 : decode cX4_air 92 = .ok (.getfield 36, 3) := by decide +kernel
theorem dX4_air_95 : decode cX4_air 95 = .ok (.iload 6, 2) := by decide +kernel
theorem dX4_air_97 : decode cX4_air 97 = .ok (.iconst 0, 1) := by decide +kernel
theorem dX4_air_98 : decode cX4_air 98 = .ok (.invokevirtual 187, 3) := by decide +kernel
theorem dX4_air_101 : decode cX4_air 101 = .ok (.aload_n 0, 1) := by decide +kernel
theorem dX4_air_102 : decode cX4_air 102 = .ok (.getfield 36, 3) := by decide +kernel
theorem dX4_air_105 : decode cX4_air 105 = .ok (.aload_n 0, 1) := by decide +kernel
theorem dX4_air_106 : decode cX4_air 106 = .ok (.getfield 10, 3) := by decide +kernel
theorem dX4_air_109 : decode cX4_air 109 = .ok (.iload_n 2, 1) := by decide +kernel
theorem dX4_air_110 : decode cX4_air 110 = .ok (.invokevirtual 180, 3) := by decide +kernel
theorem dX4_air_113 : decode cX4_air 113 = .ok (.aload_n 0, 1) := by decide +kernel
theorem dX4_air_114 : decode cX4_air 114 = .ok (.getfield 36, 3) := by decide +kernel
theorem dX4_air_117 : decode cX4_air 117 = .ok (.iload_n 3, 1) := by decide +kernel
theorem dX4_air_118 : decode cX4_air 118 = .ok (.invokevirtual 167, 3) := by decide +kernel
theorem dX4_air_121 : decode cX4_air 121 = .ok (.iload 4, 2) := by decide +kernel
theorem dX4_air_123 : decode cX4_air 123 = .ok (.if_icmp .ge 17, 3) := by decide +kernel
theorem dX4_air_126 : decode cX4_air 126 = .ok (.aload_n 0, 1) := by decide +kernel
theorem dX4_air_127 : decode cX4_air 127 = .ok (.getfield 36, 3) := by decide +kernel
theorem dX4_air_130 : decode cX4_air 130 = .ok (.iload_n 3, 1) := by decide +kernel
theorem dX4_air_131 : decode cX4_air 131 = .ok (.invokevirtual 167, 3) := by decide +kernel
theorem dX4_air_134 : decode cX4_air 134 = .ok (.istore 4, 2) := by decide +kernel
theorem dX4_air_136 : decode cX4_air 136 = .ok (.iload 6, 2) := by decide +kernel
theorem dX4_air_138 : decode cX4_air 138 = .ok (.istore 5, 2) := by decide +kernel
theorem dX4_air_140 : decode cX4_air 140 = .ok (.iinc 6 1, 3) := by decide +kernel
theorem dX4_air_143 : decode cX4_air 143 = .ok (.goto (-76), 3) := by decide +kernel
theorem dX4_air_146 : decode cX4_air 146 = .ok (.iload 5, 2) := by decide +kernel
theorem dX4_air_148 : decode cX4_air 148 = .ok (.ireturn, 1) := by decide +kernel
theorem dX4_shut_0 : decode cX4_shut 0 = .ok (.aload_n 0, 1) := by decide +kernel
theorem dX4_shut_1 : decode cX4_shut 1 = .ok (.getfield 10, 3) := by decide +kernel
theorem dX4_shut_4 : decode cX4_shut 4 = .ok (.iload_n 1, 1) := by decide +kernel
theorem dX4_shut_5 : decode cX4_shut 5 = .ok (.invokevirtual 99, 3) := by decide +kernel
theorem dX4_shut_8 : decode cX4_shut 8 = .ok (.ifCond .eq 10, 3) := by decide +kernel
theorem dX4_shut_11 : decode cX4_shut 11 = .ok (.iload_n 2, 1) := by decide +kernel
theorem dX4_shut_12 : decode cX4_shut 12 = .ok (.invokestatic 130, 3) := by decide +kernel
theorem dX4_shut_15 : decode cX4_shut 15 = .ok (.ifCond .ne 9, 3) := by decide +kernel
theorem dX4_shut_18 : decode cX4_shut 18 = .ok (.aload_n 0, 1) := by decide +kernel
theorem dX4_shut_19 : decode cX4_shut 19 = .ok (.iconst (-1), 1) := by decide +kernel
theorem dX4_shut_20 : decode cX4_shut 20 = .ok (.invokevirtual 51, 3) := by decide +kernel
theorem dX4_shut_23 : decode cX4_shut 23 = .ok (.ireturn, 1) := by decide +kernel
theorem dX4_shut_24 : decode cX4_shut 24 = .ok (.aload_n 0, 1) := by decide +kernel
theorem dX4_shut_25 : decode cX4_shut 25 = .ok (.getfield 10, 3) := by decide +kernel
theorem dX4_shut_28 : decode cX4_shut 28 = .ok (.getfield 105, 3) := by decide +kernel
theorem dX4_shut_31 : decode cX4_shut 31 = .ok (.iload_n 1, 1) := by decide +kernel
theorem dX4_shut_32 : decode cX4_shut 32 = .ok (.iaload, 1) := by decide +kernel
theorem dX4_shut_33 : decode cX4_shut 33 = .ok (.istore_n 3, 1) := by decide +kernel
theorem dX4_shut_34 : decode cX4_shut 34 = .ok (.aload_n 0, 1) := by decide +kernel
theorem dX4_shut_35 : decode cX4_shut 35 = .ok (.iload_n 2, 1) := by decide +kernel
theorem dX4_shut_36 : decode cX4_shut 36 = .ok (.iconst 0, 1) := by decide +kernel
theorem dX4_shut_37 : decode cX4_shut 37 = .ok (.invokevirtual 164, 3) := by decide +kernel
theorem dX4_shut_40 : decode cX4_shut 40 = .ok (.aload_n 0, 1) := by decide +kernel
theorem dX4_shut_41 : decode cX4_shut 41 = .ok (.getfield 36, 3) := by decide +kernel
theorem dX4_shut_44 : decode cX4_shut 44 = .ok (.iload_n 3, 1) := by decide +kernel
theorem dX4_shut_45 : decode cX4_shut 45 = .ok (.invokevirtual 167, 3) := by decide +kernel
theorem dX4_shut_48 : decode cX4_shut 48 = .ok (.bipush (-9), 2) := by decide +kernel
theorem dX4_shut_50 : decode cX4_shut 50 = .ok (.if_icmp .ne 6, 3) := by decide +kernel
theorem dX4_shut_53 : decode cX4_shut 53 = .ok (.bipush (-9), 2) := by decide +kernel
theorem dX4_shut_55 : decode cX4_shut 55 = .ok (.ireturn, 1) := by decide +kernel
theorem dX4_shut_56 : decode cX4_shut 56 = .ok (.iconst 0, 1) := by decide +kernel
theorem dX4_shut_57 : decode cX4_shut 57 = .ok (.istore 4, 2) := by decide +kernel
theorem dX4_shut_59 : decode cX4_shut 59 = .ok (.iload 4, 2) := by decide +kernel
theorem dX4_shut_61 : decode cX4_shut 61 = .ok (.aload_n 0, 1) := by decide +kernel
theorem dX4_shut_62 : decode cX4_shut 62 = .ok (.getfield 10, 3) := by decide +kernel
theorem dX4_shut_65 : decode cX4_shut 65 = .ok (.getfield 161, 3) := by decide +kernel
theorem dX4_shut_68 : decode cX4_shut 68 = .ok (.if_icmp .ge 54, 3) := by decide +kernel
theorem dX4_shut_71 : decode cX4_shut 71 = .ok (.aload_n 0, 1) := by decide +kernel
theorem dX4_shut_72 : decode cX4_shut 72 = .ok (.getfield 36, 3) := by decide +kernel
theorem dX4_shut_75 : decode cX4_shut 75 = .ok (.invokevirtual 177, 3) := by decide +kernel
theorem dX4_shut_78 : decode cX4_shut 78 = .ok (.aload_n 0, 1) := by decide +kernel
theorem dX4_shut_79 : decode cX4_shut 79 = .ok (.getfield 36, 3) := by decide +kernel
theorem dX4_shut_82 : decode cX4_shut 82 = .ok (.iload 4, 2) := by decide +kernel
theorem dX4_shut_84 : decode cX4_shut 84 = .ok (.iconst (-1), 1) := by decide +kernel
theorem dX4_shut_85 : decode cX4_shut 85 = .ok (.invokevirtual 187, 3) := by decide +kernel
theorem dX4_shut_88 : decode cX4_shut 88 = .ok (.aload_n 0, 1) := by decide +kernel
theorem dX4_shut_89 : decode cX4_shut 89 = .ok (.getfield 36, 3) := by decide +kernel
theorem dX4_shut_92 : decode cX4_shut 92 = .ok (.aload_n 0, 1) := by decide +kernel
theorem dX4_shut_93 : decode cX4_shut 93 = .ok (.getfield 10, 3) := by decide +kernel
theorem dX4_shut_96 : decode cX4_shut 96 = .ok (.iload_n 2, 1) := by decide +kernel
theorem dX4_shut_97 : decode cX4_shut 97 = .ok (.invokevirtual 180, 3) := by decide +kernel
theorem dX4_shut_100 : decode cX4_shut 100 = .ok (.aload_n 0, 1) := by decide +kernel
theorem dX4_shut_101 : decode cX4_shut 101 = .ok (.getfield 36, 3) := by decide +kernel
theorem dX4_shut_104 : decode cX4_shut 104 = .ok (.iload_n 3, 1) := by decide +kernel
theorem dX4_shut_105 : decode cX4_shut 105 = .ok (.invokevirtual 167, 3) := by decide +kernel
theorem dX4_shut_108 : decode cX4_shut 108 = .ok (.bipush (-9), 2) := by decide +kernel
theorem dX4_shut_110 : decode cX4_shut 110 = .ok (.if_icmp .ne 6, 3) := by decide +kernel
theorem dX4_shut_113 : decode cX4_shut 113 = .ok (.iload 4, 2) := by decide +kernel
theorem dX4_shut_115 : decode cX4_shut 115 = .ok (.ireturn, 1) := by decide +kernel
theorem dX4_shut_116 : decode cX4_shut 116 = .ok (.iinc 4 1, 3) := by decide +kernel
theorem dX4_shut_119 : decode cX4_shut 119 = .ok (.goto (-60), 3) := by decide +kernel
theorem dX4_shut_122 : decode cX4_shut 122 = .ok (.bipush (-9), 2) := by decide +kernel
theorem dX4_shut_124 : decode cX4_shut 124 = .ok (.ireturn, 1) := by decide +kernel
theorem dX4_pause_0 : decode cX4_pause 0 = .ok (.aload_n 0, 1) := by decide +kernel
theorem dX4_pause_1 : decode cX4_pause 1 = .ok (.getfield 10, 3) := by decide +kernel
theorem dX4_pause_4 : decode cX4_pause 4 = .ok (.iload_n 1, 1) := by decide +kernel
theorem dX4_pause_5 : decode cX4_pause 5 = .ok (.invokevirtual 99, 3) := by decide +kernel
theorem dX4_pause_8 : decode cX4_pause 8 = .ok (.ifCond .eq 10, 3) := by decide +kernel
theorem dX4_pause_11 : decode cX4_pause 11 = .ok (.iload_n 2, 1) := by decide +kernel
theorem dX4_pause_12 : decode cX4_pause 12 = .ok (.invokestatic 130, 3) := by decide +kernel
theorem dX4_pause_15 : decode cX4_pause 15 = .ok (.ifCond .ne 9, 3) := by decide +kernel
theorem dX4_pause_18 : decode cX4_pause 18 = .ok (.aload_n 0, 1) := by decide +kernel
theorem dX4_pause_19 : decode cX4_pause 19 = .ok (.iconst (-1), 1) := by decide +kernel
theorem dX4_pause_20 : decode cX4_pause 20 = .ok (.invokevirtual 51, 3) := by decide +kernel
theorem dX4_pause_23 : decode cX4_pause 23 = .ok (.ireturn, 1) := by decide +kernel
theorem dX4_pause_24 : decode cX4_pause 24 = .ok (.iload_n 3, 1) := by decide +kernel
theorem dX4_pause_25 : decode cX4_pause 25 = .ok (.iconst 0, 1) := by decide +kernel
theorem dX4_pause_26 : decode cX4_pause 26 = .ok (.bipush 99, 2) := by decide +kernel
theorem dX4_pause_28 : decode cX4_pause 28 = .ok (.invokestatic 122, 3) := by decide +kernel
theorem dX4_pause_31 : decode cX4_pause 31 = .ok (.istore 4, 2) := by decide +kernel
theorem dX4_pause_33 : decode cX4_pause 33 = .ok (.iload 4, 2) := by decide +kernel
theorem dX4_pause_35 : decode cX4_pause 35 = .ok (.ifCond .ge 10, 3) := by decide +kernel
theorem dX4_pause_38 : decode cX4_pause 38 = .ok (.aload_n 0, 1) := by decide +kernel
theorem dX4_pause_39 : decode cX4_pause 39 = .ok (.iload 4, 2) := by decide +kernel
theorem dX4_pause_41 : decode cX4_pause 41 = .ok (.invokevirtual 51, 3) := by decide +kernel
theorem dX4_pause_44 : decode cX4_pause 44 = .ok (.ireturn, 1) := by decide +kernel
theorem dX4_pause_45 : decode cX4_pause 45 = .ok (.iconst 0, 1) := by decide +kernel
theorem dX4_pause_46 : decode cX4_pause 46 = .ok (.istore 5, 2) := by decide +kernel
theorem dX4_pause_48 : decode cX4_pause 48 = .ok (.iload 5, 2) := by decide +kernel
theorem dX4_pause_50 : decode cX4_pause 50 = .ok (.bipush 60, 2) := by decide +kernel
theorem dX4_pause_52 : decode cX4_pause 52 = .ok (.if_icmp .gt 53, 3) := by decide +kernel
theorem dX4_pause_55 : decode cX4_pause 55 = .ok (.aload_n 0, 1) := by decide +kernel
theorem dX4_pause_56 : decode cX4_pause 56 = .ok (.iload_n 2, 1) := by decide +kernel
theorem dX4_pause_57 : decode cX4_pause 57 = .ok (.iload 5, 2) := by decide +kernel
theorem dX4_pause_59 : decode cX4_pause 59 = .ok (.invokevirtual 164, 3) := by decide +kernel
theorem dX4_pause_62 : decode cX4_pause 62 = .ok (.aload_n 0, 1) := by decide +kernel
theorem dX4_pause_63 : decode cX4_pause 63 = .ok (.getfield 36, 3) := by decide +kernel
theorem dX4_pause_66 : decode cX4_pause 66 = .ok (.aload_n 0, 1) := by decide +kernel
theorem dX4_pause_67 : decode cX4_pause 67 = .ok (.getfield 10, 3) := by decide +kernel
theorem dX4_pause_70 : decode cX4_pause 70 = .ok (.getfield 105, 3) := by decide +kernel
theorem dX4_pause_73 : decode cX4_pause 73 = .ok (.iload_n 1, 1) := by decide +kernel
theorem dX4_pause_74 : decode cX4_pause 74 = .ok (.iaload, 1) := by decide +kernel
theorem dX4_pause_75 : decode cX4_pause 75 = .ok (.invokevirtual 167, 3) := by decide +kernel
theorem dX4_pause_78 : decode cX4_pause 78 = .ok (.istore 6, 2) := by decide +kernel
theorem dX4_pause_80 : decode cX4_pause 80 = .ok (.iload 6, 2) := by decide +kernel
theorem dX4_pause_82 : decode cX4_pause 82 = .ok (.bipush (-9), 2) := by decide +kernel
theorem dX4_pause_84 : decode cX4_pause 84 = .ok (.if_icmp .ne 6, 3) := by decide +kernel
theorem dX4_pause_87 : decode cX4_pause 87 = .ok (.bipush (-9), 2) := by decide +kernel
theorem dX4_pause_89 : decode cX4_pause 89 = .ok (.ireturn, 1) := by decide +kernel
theorem dX4_pause_90 : decode cX4_pause 90 = .ok (.iload 6, 2) := by decide +kernel
theorem dX4_pause_92 : decode cX4_pause 92 = .ok (.iload_n 3, 1) := by decide +kernel
theorem dX4_pause_93 : decode cX4_pause 93 = .ok (.if_icmp .gt 6, 3) := by decide +kernel
theorem dX4_pause_96 : decode cX4_pause 96 = .ok (.iload 5, 2) := by decide +kernel
theorem dX4_pause_98 : decode cX4_pause 98 = .ok (.ireturn, 1) := by decide +kernel
theorem dX4_pause_99 : decode cX4_pause 99 = .ok (.iinc 5 1, 3) := by decide +kernel
theorem dX4_pause_102 : decode cX4_pause 102 = .ok (.goto (-54), 3) := by decide +kernel
theorem dX4_pause_105 : decode cX4_pause 105 = .ok (.bipush (-9), 2) := by decide +kernel
theorem dX4_pause_107 : decode cX4_pause 107 = .ok (.ireturn, 1) := by decide +kernel
theorem dX4_findWaysTo_0 : decode cX4_findWaysTo 0 = .ok (.aload_n 0, 1) := by decide +kernel
theorem dX4_findWaysTo_1 : decode cX4_findWaysTo 1 = .ok (.getfield 36, 3) := by decide +kernel
theorem dX4_findWaysTo_4 : decode cX4_findWaysTo 4 = .ok (.aload_n 0, 1) := by decide +kernel
theorem dX4_findWaysTo_5 : decode cX4_findWaysTo 5 = .ok (.getfield 10, 3) := by decide +kernel
theorem dX4_findWaysTo_8 : decode cX4_findWaysTo 8 = .ok (.iload_n 2, 1) := by decide +kernel
theorem dX4_findWaysTo_9 : decode cX4_findWaysTo 9 = .ok (.invokevirtual 184, 3) := by decide +kernel
theorem dX4_findWaysTo_12 : decode cX4_findWaysTo 12 = .ok (.aload_n 0, 1) := by decide +kernel
theorem dX4_findWaysTo_13 : decode cX4_findWaysTo 13 = .ok (.getfield 36, 3) := by decide +kernel
theorem dX4_findWaysTo_16 : decode cX4_findWaysTo 16 = .ok (.aload_n 0, 1) := by decide +kernel
theorem dX4_findWaysTo_17 : decode cX4_findWaysTo 17 = .ok (.getfield 10, 3) := by decide +kernel
theorem dX4_findWaysTo_20 : decode cX4_findWaysTo 20 = .ok (.iload_n 1, 1) := by decide +kernel
theorem dX4_findWaysTo_21 : decode cX4_findWaysTo 21 = .ok (.invokevirtual 180, 3) := by decide +kernel
theorem dX4_findWaysTo_24 : decode cX4_findWaysTo 24 = .ok (.return_, 1) := by decide +kernel
theorem dX4_walk_0 : decode cX4_walk 0 = .ok (.aload_n 0, 1) := by decide +kernel
theorem dX4_walk_1 : decode cX4_walk 1 = .ok (.getfield 10, 3) := by decide +kernel
theorem dX4_walk_4 : decode cX4_walk 4 = .ok (.iload_n 1, 1) := by decide +kernel
theorem dX4_walk_5 : decode cX4_walk 5 = .ok (.invokevirtual 99, 3) := by decide +kernel
theorem dX4_walk_8 : decode cX4_walk 8 = .ok (.ifCond .ne 9, 3) := by decide +kernel
theorem dX4_walk_11 : decode cX4_walk 11 = .ok (.aload_n 0, 1) := by decide +kernel
theorem dX4_walk_12 : decode cX4_walk 12 = .ok (.iconst (-1), 1) := by decide +kernel
theorem dX4_walk_13 : decode cX4_walk 13 = .ok (.invokevirtual 51, 3) := by decide +kernel
theorem dX4_walk_16 : decode cX4_walk 16 = .ok (.ireturn, 1) := by decide +kernel
theorem dX4_walk_17 : decode cX4_walk 17 = .ok (.iload_n 2, 1) := by decide +kernel
theorem dX4_walk_18 : decode cX4_walk 18 = .ok (.ifCond .eq 15, 3) := by decide +kernel
theorem dX4_walk_21 : decode cX4_walk 21 = .ok (.iload_n 2, 1) := by decide +kernel
theorem dX4_walk_22 : decode cX4_walk 22 = .ok (.iconst 1, 1) := by decide +kernel
theorem dX4_walk_23 : decode cX4_walk 23 = .ok (.if_icmp .eq 10, 3) := by decide +kernel
theorem dX4_walk_26 : decode cX4_walk 26 = .ok (.aload_n 0, 1) := by decide +kernel
theorem dX4_walk_27 : decode cX4_walk 27 = .ok (.bipush (-2), 2) := by decide +kernel
theorem dX4_walk_29 : decode cX4_walk 29 = .ok (.invokevirtual 51, 3) := by decide +kernel
theorem dX4_walk_32 : decode cX4_walk 32 = .ok (.ireturn, 1) := by decide +kernel
theorem dX4_walk_33 : decode cX4_walk 33 = .ok (.aload_n 0, 1) := by decide +kernel
theorem dX4_walk_34 : decode cX4_walk 34 = .ok (.getfield 16, 3) := by decide +kernel
theorem dX4_walk_37 : decode cX4_walk 37 = .ok (.aload_n 0, 1) := by decide +kernel
theorem dX4_walk_38 : decode cX4_walk 38 = .ok (.getfield 10, 3) := by decide +kernel
theorem dX4_walk_41 : decode cX4_walk 41 = .ok (.invokevirtual 66, 3) := by decide +kernel
theorem dX4_walk_44 : decode cX4_walk 44 = .ok (.bipush (-9), 2) := by decide +kernel
theorem dX4_walk_46 : decode cX4_walk 46 = .ok (.istore_n 3, 1) := by decide +kernel
theorem dX4_walk_47 : decode cX4_walk 47 = .ok (.iconst 0, 1) := by decide +kernel
theorem dX4_walk_48 : decode cX4_walk 48 = .ok (.istore 4, 2) := by decide +kernel
theorem dX4_walk_50 : decode cX4_walk 50 = .ok (.iload 4, 2) := by decide +kernel
theorem dX4_walk_52 : decode cX4_walk 52 = .ok (.aload_n 0, 1) := by decide +kernel
theorem dX4_walk_53 : decode cX4_walk 53 = .ok (.getfield 44, 3) := by decide +kernel
theorem dX4_walk_56 : decode cX4_walk 56 = .ok (.if_icmp .ge 71, 3) := by decide +kernel
theorem dX4_walk_59 : decode cX4_walk 59 = .ok (.iload_n 3, 1) := by decide +kernel
theorem dX4_walk_60 : decode cX4_walk 60 = .ok (.bipush (-9), 2) := by decide +kernel
theorem dX4_walk_62 : decode cX4_walk 62 = .ok (.if_icmp .ne 65, 3) := by decide +kernel
theorem dX4_walk_65 : decode cX4_walk 65 = .ok (.aload_n 0, 1) := by decide +kernel
theorem dX4_walk_66 : decode cX4_walk 66 = .ok (.getfield 16, 3) := by decide +kernel
theorem dX4_walk_69 : decode cX4_walk 69 = .ok (.aload_n 0, 1) := by decide +kernel
theorem dX4_walk_70 : decode cX4_walk 70 = .ok (.getfield 40, 3) := by decide +kernel
theorem dX4_walk_73 : decode cX4_walk 73 = .ok (.iload 4, 2) := by decide +kernel
theorem dX4_walk_75 : decode cX4_walk 75 = .ok (.iaload, 1) := by decide +kernel
theorem dX4_walk_76 : decode cX4_walk 76 = .ok (.invokevirtual 74, 3) := by decide +kernel
theorem dX4_walk_79 : decode cX4_walk 79 = .ok (.ifCond .eq 39, 3) := by decide +kernel
theorem dX4_walk_82 : decode cX4_walk 82 = .ok (.aload_n 0, 1) := by decide +kernel
theorem dX4_walk_83 : decode cX4_walk 83 = .ok (.getfield 16, 3) := by decide +kernel
theorem dX4_walk_86 : decode cX4_walk 86 = .ok (.iload_n 1, 1) := by decide +kernel
theorem dX4_walk_87 : decode cX4_walk 87 = .ok (.aload_n 0, 1) := by decide +kernel
theorem dX4_walk_88 : decode cX4_walk 88 = .ok (.getfield 40, 3) := by decide +kernel
theorem dX4_walk_91 : decode cX4_walk 91 = .ok (.iload 4, 2) := by decide +kernel
theorem dX4_walk_93 : decode cX4_walk 93 = .ok (.iaload, 1) := by decide +kernel
theorem dX4_walk_94 : decode cX4_walk 94 = .ok (.invokevirtual 114, 3) := by decide +kernel
theorem dX4_walk_97 : decode cX4_walk 97 = .ok (.ifCond .eq 21, 3) := by decide +kernel
theorem dX4_walk_100 : decode cX4_walk 100 = .ok (.aload_n 0, 1) := by decide +kernel
theorem dX4_walk_101 : decode cX4_walk 101 = .ok (.getfield 16, 3) := by decide +kernel
theorem dX4_walk_104 : decode cX4_walk 104 = .ok (.iload_n 1, 1) := by decide +kernel
theorem dX4_walk_105 : decode cX4_walk 105 = .ok (.aload_n 0, 1) := by decide +kernel
theorem dX4_walk_106 : decode cX4_walk 106 = .ok (.getfield 40, 3) := by decide +kernel
theorem dX4_walk_109 : decode cX4_walk 109 = .ok (.iload 4, 2) := by decide +kernel
theorem dX4_walk_111 : decode cX4_walk 111 = .ok (.iaload, 1) := by decide +kernel
theorem dX4_walk_112 : decode cX4_walk 112 = .ok (.invokevirtual 118, 3) := by decide +kernel
theorem dX4_walk_115 : decode cX4_walk 115 = .ok (.goto 6, 3) := by decide +kernel
theorem dX4_walk_118 : decode cX4_walk 118 = .ok (.iload 4, 2) := by decide +kernel
theorem dX4_walk_120 : decode cX4_walk 120 = .ok (.istore_n 3, 1) := by decide +kernel
theorem dX4_walk_121 : decode cX4_walk 121 = .ok (.iinc 4 1, 3) := by decide +kernel
theorem dX4_walk_124 : decode cX4_walk 124 = .ok (.goto (-74), 3) := by decide +kernel
theorem dX4_walk_127 : decode cX4_walk 127 = .ok (.iload_n 2, 1) := by decide +kernel
theorem dX4_walk_128 : decode cX4_walk 128 = .ok (.ifCond .ne 7, 3) := by decide +kernel
theorem dX4_walk_131 : decode cX4_walk 131 = .ok (.iload_n 3, 1) := by decide +kernel
theorem dX4_walk_132 : decode cX4_walk 132 = .ok (.goto 12, 3) := by decide +kernel
theorem dX4_walk_135 : decode cX4_walk 135 = .ok (.aload_n 0, 1) := by decide +kernel
theorem dX4_walk_136 : decode cX4_walk 136 = .ok (.getfield 16, 3) := by decide +kernel
theorem dX4_walk_139 : decode cX4_walk 139 = .ok (.getfield 108, 3) := by decide +kernel
theorem dX4_walk_142 : decode cX4_walk 142 = .ok (.iload_n 1, 1) := by decide +kernel
theorem dX4_walk_143 : decode cX4_walk 143 = .ok (.iaload, 1) := by decide +kernel
theorem dX4_walk_144 : decode cX4_walk 144 = .ok (.ireturn, 1) := by decide +kernel
theorem dX4_order_0 : decode cX4_order 0 = .ok (.aload_n 0, 1) := by decide +kernel
theorem dX4_order_1 : decode cX4_order 1 = .ok (.iload_n 1, 1) := by decide +kernel
theorem dX4_order_2 : decode cX4_order 2 = .ok (.iload_n 2, 1) := by decide +kernel
theorem dX4_order_3 : decode cX4_order 3 = .ok (.iload_n 3, 1) := by decide +kernel
theorem dX4_order_4 : decode cX4_order 4 = .ok (.invokevirtual 190, 3) := by decide +kernel
theorem dX4_order_7 : decode cX4_order 7 = .ok (.istore 4, 2) := by decide +kernel
theorem dX4_order_9 : decode cX4_order 9 = .ok (.iload 4, 2) := by decide +kernel
theorem dX4_order_11 : decode cX4_order 11 = .ok (.ifCond .ge 10, 3) := by decide +kernel
theorem dX4_order_14 : decode cX4_order 14 = .ok (.aload_n 0, 1) := by decide +kernel
theorem dX4_order_15 : decode cX4_order 15 = .ok (.iload 4, 2) := by decide +kernel
theorem dX4_order_17 : decode cX4_order 17 = .ok (.invokevirtual 51, 3) := by decide +kernel
theorem dX4_order_20 : decode cX4_order 20 = .ok (.ireturn, 1) := by decide +kernel
theorem dX4_order_21 : decode cX4_order 21 = .ok (.aload_n 0, 1) := by decide +kernel
theorem dX4_order_22 : decode cX4_order 22 = .ok (.iload_n 1, 1) := by decide +kernel
theorem dX4_order_23 : decode cX4_order 23 = .ok (.iload_n 2, 1) := by decide +kernel
theorem dX4_order_24 : decode cX4_order 24 = .ok (.iload_n 3, 1) := by decide +kernel
theorem dX4_order_25 : decode cX4_order 25 = .ok (.invokevirtual 193, 3) := by decide +kernel
theorem dX4_order_28 : decode cX4_order 28 = .ok (.aload_n 0, 1) := by decide +kernel
theorem dX4_order_29 : decode cX4_order 29 = .ok (.getfield 16, 3) := by decide +kernel
theorem dX4_order_32 : decode cX4_order 32 = .ok (.getfield 108, 3) := by decide +kernel
theorem dX4_order_35 : decode cX4_order 35 = .ok (.iload_n 1, 1) := by decide +kernel
theorem dX4_order_36 : decode cX4_order 36 = .ok (.iaload, 1) := by decide +kernel
theorem dX4_order_37 : decode cX4_order 37 = .ok (.aload_n 0, 1) := by decide +kernel
theorem dX4_order_38 : decode cX4_order 38 = .ok (.getfield 16, 3) := by decide +kernel
theorem dX4_order_41 : decode cX4_order 41 = .ok (.getfield 108, 3) := by decide +kernel
theorem dX4_order_44 : decode cX4_order 44 = .ok (.iload_n 2, 1) := by decide +kernel
theorem dX4_order_45 : decode cX4_order 45 = .ok (.iaload, 1) := by decide +kernel
theorem dX4_order_46 : decode cX4_order 46 = .ok (.iadd, 1) := by decide +kernel
theorem dX4_order_47 : decode cX4_order 47 = .ok (.istore 5, 2) := by decide +kernel
theorem dX4_order_49 : decode cX4_order 49 = .ok (.aload_n 0, 1) := by decide +kernel
theorem dX4_order_50 : decode cX4_order 50 = .ok (.iload_n 2, 1) := by decide +kernel
theorem dX4_order_51 : decode cX4_order 51 = .ok (.iload_n 1, 1) := by decide +kernel
theorem dX4_order_52 : decode cX4_order 52 = .ok (.iload_n 3, 1) := by decide +kernel
theorem dX4_order_53 : decode cX4_order 53 = .ok (.invokevirtual 193, 3) := by decide +kernel
theorem dX4_order_56 : decode cX4_order 56 = .ok (.aload_n 0, 1) := by decide +kernel
theorem dX4_order_57 : decode cX4_order 57 = .ok (.getfield 16, 3) := by decide +kernel
theorem dX4_order_60 : decode cX4_order 60 = .ok (.getfield 108, 3) := by decide +kernel
theorem dX4_order_63 : decode cX4_order 63 = .ok (.iload_n 1, 1) := by decide +kernel
theorem dX4_order_64 : decode cX4_order 64 = .ok (.iaload, 1) := by decide +kernel
theorem dX4_order_65 : decode cX4_order 65 = .ok (.aload_n 0, 1) := by decide +kernel
theorem dX4_order_66 : decode cX4_order 66 = .ok (.getfield 16, 3) := by decide +kernel
theorem dX4_order_69 : decode cX4_order 69 = .ok (.getfield 108, 3) := by decide +kernel
theorem dX4_order_72 : decode cX4_order 72 = .ok (.iload_n 2, 1) := by decide +kernel
theorem dX4_order_73 : decode cX4_order 73 = .ok (.iaload, 1) := by decide +kernel
theorem dX4_order_74 : decode cX4_order 74 = .ok (.iadd, 1) := by decide +kernel
theorem dX4_order_75 : decode cX4_order 75 = .ok (.istore 6, 2) := by decide +kernel
theorem dX4_order_77 : decode cX4_order 77 = .ok (.iload 5, 2) := by decide +kernel
theorem dX4_order_79 : decode cX4_order 79 = .ok (.iload 6, 2) := by decide +kernel
theorem dX4_order_81 : decode cX4_order 81 = .ok (.if_icmp .ne 9, 3) := by decide +kernel
theorem dX4_order_84 : decode cX4_order 84 = .ok (.iload_n 1, 1) := by decide +kernel
theorem dX4_order_85 : decode cX4_order 85 = .ok (.iload_n 2, 1) := by decide +kernel
theorem dX4_order_86 : decode cX4_order 86 = .ok (.invokestatic 196, 3) := by decide +kernel
theorem dX4_order_89 : decode cX4_order 89 = .ok (.ireturn, 1) := by decide +kernel
theorem dX4_order_90 : decode cX4_order 90 = .ok (.iload 5, 2) := by decide +kernel
theorem dX4_order_92 : decode cX4_order 92 = .ok (.iload 6, 2) := by decide +kernel
theorem dX4_order_94 : decode cX4_order 94 = .ok (.if_icmp .ge 7, 3) := by decide +kernel
theorem dX4_order_97 : decode cX4_order 97 = .ok (.iload_n 1, 1) := by decide +kernel
theorem dX4_order_98 : decode cX4_order 98 = .ok (.goto 4, 3) := by decide +kernel
theorem dX4_order_101 : decode cX4_order 101 = .ok (.iload_n 2, 1) := by decide +kernel
theorem dX4_order_102 : decode cX4_order 102 = .ok (.ireturn, 1) := by decide +kernel
theorem dX4_echo_0 : decode cX4_echo 0 = .ok (.aload_n 0, 1) := by decide +kernel
theorem dX4_echo_1 : decode cX4_echo 1 = .ok (.iload_n 1, 1) := by decide +kernel
theorem dX4_echo_2 : decode cX4_echo 2 = .ok (.iload_n 2, 1) := by decide +kernel
theorem dX4_echo_3 : decode cX4_echo 3 = .ok (.iload_n 3, 1) := by decide +kernel
theorem dX4_echo_4 : decode cX4_echo 4 = .ok (.invokevirtual 190, 3) := by decide +kernel
theorem dX4_echo_7 : decode cX4_echo 7 = .ok (.istore 4, 2) := by decide +kernel
theorem dX4_echo_9 : decode cX4_echo 9 = .ok (.iload 4, 2) := by decide +kernel
theorem dX4_echo_11 : decode cX4_echo 11 = .ok (.ifCond .ge 13, 3) := by decide +kernel
theorem dX4_echo_14 : decode cX4_echo 14 = .ok (.ldc 201, 2) := by decide +kernel
theorem dX4_echo_16 : decode cX4_echo 16 = .ok (.aload_n 0, 1) := by decide +kernel
theorem dX4_echo_17 : decode cX4_echo 17 = .ok (.iload 4, 2) := by decide +kernel
theorem dX4_echo_19 : decode cX4_echo 19 = .ok (.invokevirtual 51, 3) := by decide +kernel
theorem dX4_echo_22 : decode cX4_echo 22 = .ok (.isub, 1) := by decide +kernel
theorem dX4_echo_23 : decode cX4_echo 23 = .ok (.ireturn, 1) := by decide +kernel
theorem dX4_echo_24 : decode cX4_echo 24 = .ok (.aload_n 0, 1) := by decide +kernel
theorem dX4_echo_25 : decode cX4_echo 25 = .ok (.iload_n 1, 1) := by decide +kernel
theorem dX4_echo_26 : decode cX4_echo 26 = .ok (.iload_n 2, 1) := by decide +kernel
theorem dX4_echo_27 : decode cX4_echo 27 = .ok (.iload_n 3, 1) := by decide +kernel
theorem dX4_echo_28 : decode cX4_echo 28 = .ok (.invokevirtual 193, 3) := by decide +kernel
theorem dX4_echo_31 : decode cX4_echo 31 = .ok (.aload_n 0, 1) := by decide +kernel
theorem dX4_echo_32 : decode cX4_echo 32 = .ok (.getfield 16, 3) := by decide +kernel
theorem dX4_echo_35 : decode cX4_echo 35 = .ok (.getfield 108, 3) := by decide +kernel
theorem dX4_echo_38 : decode cX4_echo 38 = .ok (.iload_n 2, 1) := by decide +kernel
theorem dX4_echo_39 : decode cX4_echo 39 = .ok (.iaload, 1) := by decide +kernel
theorem dX4_echo_40 : decode cX4_echo 40 = .ok (.istore 5, 2) := by decide +kernel
theorem dX4_echo_42 : decode cX4_echo 42 = .ok (.aload_n 0, 1) := by decide +kernel
theorem dX4_echo_43 : decode cX4_echo 43 = .ok (.getfield 16, 3) := by decide +kernel
theorem dX4_echo_46 : decode cX4_echo 46 = .ok (.aload_n 0, 1) := by decide +kernel
theorem dX4_echo_47 : decode cX4_echo 47 = .ok (.getfield 10, 3) := by decide +kernel
theorem dX4_echo_50 : decode cX4_echo 50 = .ok (.invokevirtual 66, 3) := by decide +kernel
theorem dX4_echo_53 : decode cX4_echo 53 = .ok (.aload_n 0, 1) := by decide +kernel
theorem dX4_echo_54 : decode cX4_echo 54 = .ok (.getfield 16, 3) := by decide +kernel
theorem dX4_echo_57 : decode cX4_echo 57 = .ok (.iload_n 2, 1) := by decide +kernel
theorem dX4_echo_58 : decode cX4_echo 58 = .ok (.iload_n 3, 1) := by decide +kernel
theorem dX4_echo_59 : decode cX4_echo 59 = .ok (.invokevirtual 118, 3) := by decide +kernel
theorem dX4_echo_62 : decode cX4_echo 62 = .ok (.iload 5, 2) := by decide +kernel
theorem dX4_echo_64 : decode cX4_echo 64 = .ok (.aload_n 0, 1) := by decide +kernel
theorem dX4_echo_65 : decode cX4_echo 65 = .ok (.getfield 16, 3) := by decide +kernel
theorem dX4_echo_68 : decode cX4_echo 68 = .ok (.getfield 108, 3) := by decide +kernel
theorem dX4_echo_71 : decode cX4_echo 71 = .ok (.iload_n 2, 1) := by decide +kernel
theorem dX4_echo_72 : decode cX4_echo 72 = .ok (.iaload, 1) := by decide +kernel
theorem dX4_echo_73 : decode cX4_echo 73 = .ok (.isub, 1) := by decide +kernel
theorem dX4_echo_74 : decode cX4_echo 74 = .ok (.ireturn, 1) := by decide +kernel
theorem dX4_notTogether_0 : decode cX4_notTogether 0 = .ok (.aload_n 0, 1) := by decide +kernel
theorem dX4_notTogether_1 : decode cX4_notTogether 1 = .ok (.getfield 10, 3) := by decide +kernel
theorem dX4_notTogether_4 : decode cX4_notTogether 4 = .ok (.iload_n 1, 1) := by decide +kernel
theorem dX4_notTogether_5 : decode cX4_notTogether 5 = .ok (.invokevirtual 99, 3) := by decide +kernel
theorem dX4_notTogether_8 : decode cX4_notTogether 8 = .ok (.ifCond .eq 30, 3) := by decide +kernel
theorem dX4_notTogether_11 : decode cX4_notTogether 11 = .ok (.aload_n 0, 1) := by decide +kernel
theorem dX4_notTogether_12 : decode cX4_notTogether 12 = .ok (.getfield 10, 3) := by decide +kernel
theorem dX4_notTogether_15 : decode cX4_notTogether 15 = .ok (.iload_n 2, 1) := by decide +kernel
theorem dX4_notTogether_16 : decode cX4_notTogether 16 = .ok (.invokevirtual 99, 3) := by decide +kernel
theorem dX4_notTogether_19 : decode cX4_notTogether 19 = .ok (.ifCond .eq 19, 3) := by decide +kernel
theorem dX4_notTogether_22 : decode cX4_notTogether 22 = .ok (.iload_n 1, 1) := by decide +kernel
theorem dX4_notTogether_23 : decode cX4_notTogether 23 = .ok (.iload_n 2, 1) := by decide +kernel
theorem dX4_notTogether_24 : decode cX4_notTogether 24 = .ok (.if_icmp .eq 14, 3) := by decide +kernel
theorem dX4_notTogether_27 : decode cX4_notTogether 27 = .ok (.aload_n 0, 1) := by decide +kernel
theorem dX4_notTogether_28 : decode cX4_notTogether 28 = .ok (.getfield 10, 3) := by decide +kernel
theorem dX4_notTogether_31 : decode cX4_notTogether 31 = .ok (.iload_n 3, 1) := by decide +kernel
theorem dX4_notTogether_32 : decode cX4_notTogether 32 = .ok (.invokevirtual 74, 3) := by decide +kernel
theorem dX4_notTogether_35 : decode cX4_notTogether 35 = .ok (.ifCond .ne 5, 3) := by decide +kernel
theorem dX4_notTogether_38 : decode cX4_notTogether 38 = .ok (.iconst (-1), 1) := by decide +kernel
theorem dX4_notTogether_39 : decode cX4_notTogether 39 = .ok (.ireturn, 1) := by decide +kernel
theorem dX4_notTogether_40 : decode cX4_notTogether 40 = .ok (.aload_n 0, 1) := by decide +kernel
theorem dX4_notTogether_41 : decode cX4_notTogether 41 = .ok (.getfield 10, 3) := by decide +kernel
theorem dX4_notTogether_44 : decode cX4_notTogether 44 = .ok (.getfield 105, 3) := by decide +kernel
theorem dX4_notTogether_47 : decode cX4_notTogether 47 = .ok (.iload_n 1, 1) := by decide +kernel
theorem dX4_notTogether_48 : decode cX4_notTogether 48 = .ok (.iaload, 1) := by decide +kernel
theorem dX4_notTogether_49 : decode cX4_notTogether 49 = .ok (.aload_n 0, 1) := by decide +kernel
theorem dX4_notTogether_50 : decode cX4_notTogether 50 = .ok (.getfield 10, 3) := by decide +kernel
theorem dX4_notTogether_53 : decode cX4_notTogether 53 = .ok (.getfield 105, 3) := by decide +kernel
theorem dX4_notTogether_56 : decode cX4_notTogether 56 = .ok (.iload_n 2, 1) := by decide +kernel
theorem dX4_notTogether_57 : decode cX4_notTogether 57 = .ok (.iaload, 1) := by decide +kernel
theorem dX4_notTogether_58 : decode cX4_notTogether 58 = .ok (.if_icmp .ne 15, 3) := by decide +kernel
theorem dX4_notTogether_61 : decode cX4_notTogether 61 = .ok (.aload_n 0, 1) := by decide +kernel
theorem dX4_notTogether_62 : decode cX4_notTogether 62 = .ok (.getfield 10, 3) := by decide +kernel
theorem dX4_notTogether_65 : decode cX4_notTogether 65 = .ok (.iload_n 1, 1) := by decide +kernel
theorem dX4_notTogether_66 : decode cX4_notTogether 66 = .ok (.iload_n 3, 1) := by decide +kernel
theorem dX4_notTogether_67 : decode cX4_notTogether 67 = .ok (.invokevirtual 114, 3) := by decide +kernel
theorem dX4_notTogether_70 : decode cX4_notTogether 70 = .ok (.ifCond .ne 6, 3) := by decide +kernel
theorem dX4_notTogether_73 : decode cX4_notTogether 73 = .ok (.bipush (-3), 2) := by decide +kernel
theorem dX4_notTogether_75 : decode cX4_notTogether 75 = .ok (.ireturn, 1) := by decide +kernel
theorem dX4_notTogether_76 : decode cX4_notTogether 76 = .ok (.iconst 0, 1) := by decide +kernel
theorem dX4_notTogether_77 : decode cX4_notTogether 77 = .ok (.ireturn, 1) := by decide +kernel
theorem dX4_openBoth_0 : decode cX4_openBoth 0 = .ok (.aload_n 0, 1) := by decide +kernel
theorem dX4_openBoth_1 : decode cX4_openBoth 1 = .ok (.getfield 16, 3) := by decide +kernel
theorem dX4_openBoth_4 : decode cX4_openBoth 4 = .ok (.aload_n 0, 1) := by decide +kernel
theorem dX4_openBoth_5 : decode cX4_openBoth 5 = .ok (.getfield 10, 3) := by decide +kernel
theorem dX4_openBoth_8 : decode cX4_openBoth 8 = .ok (.invokevirtual 66, 3) := by decide +kernel
theorem dX4_openBoth_11 : decode cX4_openBoth 11 = .ok (.aload_n 0, 1) := by decide +kernel
theorem dX4_openBoth_12 : decode cX4_openBoth 12 = .ok (.getfield 16, 3) := by decide +kernel
theorem dX4_openBoth_15 : decode cX4_openBoth 15 = .ok (.iload_n 1, 1) := by decide +kernel
theorem dX4_openBoth_16 : decode cX4_openBoth 16 = .ok (.iload_n 3, 1) := by decide +kernel
theorem dX4_openBoth_17 : decode cX4_openBoth 17 = .ok (.invokevirtual 118, 3) := by decide +kernel
theorem dX4_openBoth_20 : decode cX4_openBoth 20 = .ok (.aload_n 0, 1) := by decide +kernel
theorem dX4_openBoth_21 : decode cX4_openBoth 21 = .ok (.getfield 16, 3) := by decide +kernel
theorem dX4_openBoth_24 : decode cX4_openBoth 24 = .ok (.iload_n 2, 1) := by decide +kernel
theorem dX4_openBoth_25 : decode cX4_openBoth 25 = .ok (.iload_n 3, 1) := by decide +kernel
theorem dX4_openBoth_26 : decode cX4_openBoth 26 = .ok (.invokevirtual 118, 3) := by decide +kernel
theorem dX4_openBoth_29 : decode cX4_openBoth 29 = .ok (.return_, 1) := by decide +kernel
theorem dX4_two_0 : decode cX4_two 0 = .ok (.aload_n 0, 1) := by decide +kernel
theorem dX4_two_1 : decode cX4_two 1 = .ok (.iload_n 1, 1) := by decide +kernel
theorem dX4_two_2 : decode cX4_two 2 = .ok (.iload_n 2, 1) := by decide +kernel
theorem dX4_two_3 : decode cX4_two 3 = .ok (.iload_n 3, 1) := by decide +kernel
theorem dX4_two_4 : decode cX4_two 4 = .ok (.invokevirtual 190, 3) := by decide +kernel
theorem dX4_two_7 : decode cX4_two 7 = .ok (.istore 4, 2) := by decide +kernel
theorem dX4_two_9 : decode cX4_two 9 = .ok (.iload 4, 2) := by decide +kernel
theorem dX4_two_11 : decode cX4_two 11 = .ok (.ifCond .ge 10, 3) := by decide +kernel
theorem dX4_two_14 : decode cX4_two 14 = .ok (.aload_n 0, 1) := by decide +kernel
theorem dX4_two_15 : decode cX4_two 15 = .ok (.iload 4, 2) := by decide +kernel
theorem dX4_two_17 : decode cX4_two 17 = .ok (.invokevirtual 51, 3) := by decide +kernel
theorem dX4_two_20 : decode cX4_two 20 = .ok (.ireturn, 1) := by decide +kernel
theorem dX4_two_21 : decode cX4_two 21 = .ok (.iconst 0, 1) := by decide +kernel
theorem dX4_two_22 : decode cX4_two 22 = .ok (.istore 5, 2) := by decide +kernel
theorem dX4_two_24 : decode cX4_two 24 = .ok (.iload 5, 2) := by decide +kernel
theorem dX4_two_26 : decode cX4_two 26 = .ok (.iconst 1, 1) := by decide +kernel
theorem dX4_two_27 : decode cX4_two 27 = .ok (.if_icmp .gt 58, 3) := by decide +kernel
theorem dX4_two_30 : decode cX4_two 30 = .ok (.iconst 0, 1) := by decide +kernel
theorem dX4_two_31 : decode cX4_two 31 = .ok (.istore 6, 2) := by decide +kernel
theorem dX4_two_33 : decode cX4_two 33 = .ok (.iload 6, 2) := by decide +kernel
theorem dX4_two_35 : decode cX4_two 35 = .ok (.iconst 1, 1) := by decide +kernel
theorem dX4_two_36 : decode cX4_two 36 = .ok (.if_icmp .gt 43, 3) := by decide +kernel
theorem dX4_two_39 : decode cX4_two 39 = .ok (.aload_n 0, 1) := by decide +kernel
theorem dX4_two_40 : decode cX4_two 40 = .ok (.iload_n 1, 1) := by decide +kernel
theorem dX4_two_41 : decode cX4_two 41 = .ok (.iload_n 3, 1) := by decide +kernel
theorem dX4_two_42 : decode cX4_two 42 = .ok (.iload 5, 2) := by decide +kernel
theorem dX4_two_44 : decode cX4_two 44 = .ok (.invokevirtual 202, 3) := by decide +kernel
theorem dX4_two_47 : decode cX4_two 47 = .ok (.ifCond .eq 26, 3) := by decide +kernel
theorem dX4_two_50 : decode cX4_two 50 = .ok (.aload_n 0, 1) := by decide +kernel
theorem dX4_two_51 : decode cX4_two 51 = .ok (.iload_n 1, 1) := by decide +kernel
theorem dX4_two_52 : decode cX4_two 52 = .ok (.iload_n 2, 1) := by decide +kernel
theorem dX4_two_53 : decode cX4_two 53 = .ok (.iload_n 3, 1) := by decide +kernel
theorem dX4_two_54 : decode cX4_two 54 = .ok (.iload 5, 2) := by decide +kernel
theorem dX4_two_56 : decode cX4_two 56 = .ok (.iload 6, 2) := by decide +kernel
theorem dX4_two_58 : decode cX4_two 58 = .ok (.invokevirtual 206, 3) := by decide +kernel
theorem dX4_two_61 : decode cX4_two 61 = .ok (.ifCond .eq 12, 3) := by decide +kernel
theorem dX4_two_64 : decode cX4_two 64 = .ok (.bipush 10, 2) := by decide +kernel
theorem dX4_two_66 : decode cX4_two 66 = .ok (.iload 5, 2) := by decide +kernel
theorem dX4_two_68 : decode cX4_two 68 = .ok (.imul, 1) := by decide +kernel
theorem dX4_two_69 : decode cX4_two 69 = .ok (.iload 6, 2) := by decide +kernel
theorem dX4_two_71 : decode cX4_two 71 = .ok (.iadd, 1) := by decide +kernel
theorem dX4_two_72 : decode cX4_two 72 = .ok (.ireturn, 1) := by decide +kernel
theorem dX4_two_73 : decode cX4_two 73 = .ok (.iinc 6 1, 3) := by decide +kernel
theorem dX4_two_76 : decode cX4_two 76 = .ok (.goto (-43), 3) := by decide +kernel
theorem dX4_two_79 : decode cX4_two 79 = .ok (.iinc 5 1, 3) := by decide +kernel
theorem dX4_two_82 : decode cX4_two 82 = .ok (.goto (-58), 3) := by decide +kernel
theorem dX4_two_85 : decode cX4_two 85 = .ok (.bipush (-9), 2) := by decide +kernel
theorem dX4_two_87 : decode cX4_two 87 = .ok (.ireturn, 1) := by decide +kernel
theorem dX4_firstIsContent_0 : decode cX4_firstIsContent 0 = .ok (.aload_n 0, 1) := by decide +kernel
theorem dX4_firstIsContent_1 : decode cX4_firstIsContent 1 = .ok (.iload_n 1, 1) := by decide +kernel
theorem dX4_firstIsContent_2 : decode cX4_firstIsContent 2 = .ok (.iload_n 2, 1) := by decide +kernel
theorem dX4_firstIsContent_3 : decode cX4_firstIsContent 3 = .ok (.iload_n 3, 1) := by decide +kernel
theorem dX4_firstIsContent_4 : decode cX4_firstIsContent 4 = .ok (.invokevirtual 210, 3) := by decide +kernel
theorem dX4_firstIsContent_7 : decode cX4_firstIsContent 7 = .ok (.aload_n 0, 1) := by decide +kernel
theorem dX4_firstIsContent_8 : decode cX4_firstIsContent 8 = .ok (.iload_n 1, 1) := by decide +kernel
theorem dX4_firstIsContent_9 : decode cX4_firstIsContent 9 = .ok (.iload_n 2, 1) := by decide +kernel
theorem dX4_firstIsContent_10 : decode cX4_firstIsContent 10 = .ok (.iconst 1, 1) := by decide +kernel
theorem dX4_firstIsContent_11 : decode cX4_firstIsContent 11 = .ok (.iload_n 3, 1) := by decide +kernel
theorem dX4_firstIsContent_12 : decode cX4_firstIsContent 12 = .ok (.isub, 1) := by decide +kernel
theorem dX4_firstIsContent_13 : decode cX4_firstIsContent 13 = .ok (.invokevirtual 210, 3) := by decide +kernel
theorem dX4_firstIsContent_16 : decode cX4_firstIsContent 16 = .ok (.if_icmp .gt 7, 3) := by decide +kernel
theorem dX4_firstIsContent_19 : decode cX4_firstIsContent 19 = .ok (.iconst 1, 1) := by decide +kernel
theorem dX4_firstIsContent_20 : decode cX4_firstIsContent 20 = .ok (.goto 4, 3) := by decide +kernel
theorem dX4_firstIsContent_23 : decode cX4_firstIsContent 23 = .ok (.iconst 0, 1) := by decide +kernel
theorem dX4_firstIsContent_24 : decode cX4_firstIsContent 24 = .ok (.ireturn, 1) := by decide +kernel
theorem dX4_wishOfFirst_0 : decode cX4_wishOfFirst 0 = .ok (.aload_n 0, 1) := by decide +kernel
theorem dX4_wishOfFirst_1 : decode cX4_wishOfFirst 1 = .ok (.getfield 16, 3) := by decide +kernel
theorem dX4_wishOfFirst_4 : decode cX4_wishOfFirst 4 = .ok (.aload_n 0, 1) := by decide +kernel
theorem dX4_wishOfFirst_5 : decode cX4_wishOfFirst 5 = .ok (.getfield 10, 3) := by decide +kernel
theorem dX4_wishOfFirst_8 : decode cX4_wishOfFirst 8 = .ok (.invokevirtual 66, 3) := by decide +kernel
theorem dX4_wishOfFirst_11 : decode cX4_wishOfFirst 11 = .ok (.iload_n 3, 1) := by decide +kernel
theorem dX4_wishOfFirst_12 : decode cX4_wishOfFirst 12 = .ok (.iconst 1, 1) := by decide +kernel
theorem dX4_wishOfFirst_13 : decode cX4_wishOfFirst 13 = .ok (.if_icmp .ne 12, 3) := by decide +kernel
theorem dX4_wishOfFirst_16 : decode cX4_wishOfFirst 16 = .ok (.aload_n 0, 1) := by decide +kernel
theorem dX4_wishOfFirst_17 : decode cX4_wishOfFirst 17 = .ok (.getfield 16, 3) := by decide +kernel
theorem dX4_wishOfFirst_20 : decode cX4_wishOfFirst 20 = .ok (.iload_n 1, 1) := by decide +kernel
theorem dX4_wishOfFirst_21 : decode cX4_wishOfFirst 21 = .ok (.iload_n 2, 1) := by decide +kernel
theorem dX4_wishOfFirst_22 : decode cX4_wishOfFirst 22 = .ok (.invokevirtual 118, 3) := by decide +kernel
theorem dX4_wishOfFirst_25 : decode cX4_wishOfFirst 25 = .ok (.aload_n 0, 1) := by decide +kernel
theorem dX4_wishOfFirst_26 : decode cX4_wishOfFirst 26 = .ok (.getfield 16, 3) := by decide +kernel
theorem dX4_wishOfFirst_29 : decode cX4_wishOfFirst 29 = .ok (.getfield 108, 3) := by decide +kernel
theorem dX4_wishOfFirst_32 : decode cX4_wishOfFirst 32 = .ok (.iload_n 1, 1) := by decide +kernel
theorem dX4_wishOfFirst_33 : decode cX4_wishOfFirst 33 = .ok (.iaload, 1) := by decide +kernel
theorem dX4_wishOfFirst_34 : decode cX4_wishOfFirst 34 = .ok (.iconst 4, 1) := by decide +kernel
theorem dX4_wishOfFirst_35 : decode cX4_wishOfFirst 35 = .ok (.iload_n 3, 1) := by decide +kernel
theorem dX4_wishOfFirst_36 : decode cX4_wishOfFirst 36 = .ok (.imul, 1) := by decide +kernel
theorem dX4_wishOfFirst_37 : decode cX4_wishOfFirst 37 = .ok (.isub, 1) := by decide +kernel
theorem dX4_wishOfFirst_38 : decode cX4_wishOfFirst 38 = .ok (.ireturn, 1) := by decide +kernel
theorem dX4_secondIsContent_0 : decode cX4_secondIsContent 0 = .ok (.aload_n 0, 1) := by decide +kernel
theorem dX4_secondIsContent_1 : decode cX4_secondIsContent 1 = .ok (.iload_n 1, 1) := by decide +kernel
theorem dX4_secondIsContent_2 : decode cX4_secondIsContent 2 = .ok (.iload_n 2, 1) := by decide +kernel
theorem dX4_secondIsContent_3 : decode cX4_secondIsContent 3 = .ok (.iload_n 3, 1) := by decide +kernel
theorem dX4_secondIsContent_4 : decode cX4_secondIsContent 4 = .ok (.iload 4, 2) := by decide +kernel
theorem dX4_secondIsContent_6 : decode cX4_secondIsContent 6 = .ok (.iload 5, 2) := by decide +kernel
theorem dX4_secondIsContent_8 : decode cX4_secondIsContent 8 = .ok (.invokevirtual 213, 3) := by decide +kernel
theorem dX4_secondIsContent_11 : decode cX4_secondIsContent 11 = .ok (.aload_n 0, 1) := by decide +kernel
theorem dX4_secondIsContent_12 : decode cX4_secondIsContent 12 = .ok (.iload_n 1, 1) := by decide +kernel
theorem dX4_secondIsContent_13 : decode cX4_secondIsContent 13 = .ok (.iload_n 2, 1) := by decide +kernel
theorem dX4_secondIsContent_14 : decode cX4_secondIsContent 14 = .ok (.iload_n 3, 1) := by decide +kernel
theorem dX4_secondIsContent_15 : decode cX4_secondIsContent 15 = .ok (.iload 4, 2) := by decide +kernel
theorem dX4_secondIsContent_17 : decode cX4_secondIsContent 17 = .ok (.iconst 1, 1) := by decide +kernel
theorem dX4_secondIsContent_18 : decode cX4_secondIsContent 18 = .ok (.iload 5, 2) := by decide +kernel
theorem dX4_secondIsContent_20 : decode cX4_secondIsContent 20 = .ok (.isub, 1) := by decide +kernel
theorem dX4_secondIsContent_21 : decode cX4_secondIsContent 21 = .ok (.invokevirtual 213, 3) := by decide +kernel
theorem dX4_secondIsContent_24 : decode cX4_secondIsContent 24 = .ok (.if_icmp .gt 7, 3) := by decide +kernel
theorem dX4_secondIsContent_27 : decode cX4_secondIsContent 27 = .ok (.iconst 1, 1) := by decide +kernel
theorem dX4_secondIsContent_28 : decode cX4_secondIsContent 28 = .ok (.goto 4, 3) := by decide +kernel
theorem dX4_secondIsContent_31 : decode cX4_secondIsContent 31 = .ok (.iconst 0, 1) := by decide +kernel
theorem dX4_secondIsContent_32 : decode cX4_secondIsContent 32 = .ok (.ireturn, 1) := by decide +kernel
theorem dX4_wishOfSecond_0 : decode cX4_wishOfSecond 0 = .ok (.aload_n 0, 1) := by decide +kernel
theorem dX4_wishOfSecond_1 : decode cX4_wishOfSecond 1 = .ok (.getfield 16, 3) := by decide +kernel
theorem dX4_wishOfSecond_4 : decode cX4_wishOfSecond 4 = .ok (.aload_n 0, 1) := by decide +kernel
theorem dX4_wishOfSecond_5 : decode cX4_wishOfSecond 5 = .ok (.getfield 10, 3) := by decide +kernel
theorem dX4_wishOfSecond_8 : decode cX4_wishOfSecond 8 = .ok (.invokevirtual 66, 3) := by decide +kernel
theorem dX4_wishOfSecond_11 : decode cX4_wishOfSecond 11 = .ok (.iload 4, 2) := by decide +kernel
theorem dX4_wishOfSecond_13 : decode cX4_wishOfSecond 13 = .ok (.iconst 1, 1) := by decide +kernel
theorem dX4_wishOfSecond_14 : decode cX4_wishOfSecond 14 = .ok (.if_icmp .ne 12, 3) := by decide +kernel
theorem dX4_wishOfSecond_17 : decode cX4_wishOfSecond 17 = .ok (.aload_n 0, 1) := by decide +kernel
theorem dX4_wishOfSecond_18 : decode cX4_wishOfSecond 18 = .ok (.getfield 16, 3) := by decide +kernel
theorem dX4_wishOfSecond_21 : decode cX4_wishOfSecond 21 = .ok (.iload_n 1, 1) := by decide +kernel
theorem dX4_wishOfSecond_22 : decode cX4_wishOfSecond 22 = .ok (.iload_n 3, 1) := by decide +kernel
theorem dX4_wishOfSecond_23 : decode cX4_wishOfSecond 23 = .ok (.invokevirtual 118, 3) := by decide +kernel
theorem dX4_wishOfSecond_26 : decode cX4_wishOfSecond 26 = .ok (.iload 5, 2) := by decide +kernel
theorem dX4_wishOfSecond_28 : decode cX4_wishOfSecond 28 = .ok (.iconst 1, 1) := by decide +kernel
theorem dX4_wishOfSecond_29 : decode cX4_wishOfSecond 29 = .ok (.if_icmp .ne 12, 3) := by decide +kernel
theorem dX4_wishOfSecond_32 : decode cX4_wishOfSecond 32 = .ok (.aload_n 0, 1) := by decide +kernel
theorem dX4_wishOfSecond_33 : decode cX4_wishOfSecond 33 = .ok (.getfield 16, 3) := by decide +kernel
theorem dX4_wishOfSecond_36 : decode cX4_wishOfSecond 36 = .ok (.iload_n 2, 1) := by decide +kernel
theorem dX4_wishOfSecond_37 : decode cX4_wishOfSecond 37 = .ok (.iload_n 3, 1) := by decide +kernel
theorem dX4_wishOfSecond_38 : decode cX4_wishOfSecond 38 = .ok (.invokevirtual 118, 3) := by decide +kernel
theorem dX4_wishOfSecond_41 : decode cX4_wishOfSecond 41 = .ok (.aload_n 0, 1) := by decide +kernel
theorem dX4_wishOfSecond_42 : decode cX4_wishOfSecond 42 = .ok (.getfield 16, 3) := by decide +kernel
theorem dX4_wishOfSecond_45 : decode cX4_wishOfSecond 45 = .ok (.getfield 108, 3) := by decide +kernel
theorem dX4_wishOfSecond_48 : decode cX4_wishOfSecond 48 = .ok (.iload_n 2, 1) := by decide +kernel
theorem dX4_wishOfSecond_49 : decode cX4_wishOfSecond 49 = .ok (.iaload, 1) := by decide +kernel
theorem dX4_wishOfSecond_50 : decode cX4_wishOfSecond 50 = .ok (.iconst 4, 1) := by decide +kernel
theorem dX4_wishOfSecond_51 : decode cX4_wishOfSecond 51 = .ok (.iload 5, 2) := by decide +kernel
theorem dX4_wishOfSecond_53 : decode cX4_wishOfSecond 53 = .ok (.imul, 1) := by decide +kernel
theorem dX4_wishOfSecond_54 : decode cX4_wishOfSecond 54 = .ok (.isub, 1) := by decide +kernel
theorem dX4_wishOfSecond_55 : decode cX4_wishOfSecond 55 = .ok (.ireturn, 1) := by decide +kernel
theorem dX4_voices_0 : decode cX4_voices 0 = .ok (.iload_n 1, 1) := by decide +kernel
theorem dX4_voices_1 : decode cX4_voices 1 = .ok (.iconst (-1), 1) := by decide +kernel
theorem dX4_voices_2 : decode cX4_voices 2 = .ok (.if_icmp .ne 13, 3) := by decide +kernel
theorem dX4_voices_5 : decode cX4_voices 5 = .ok (.aload_n 0, 1) := by decide +kernel
theorem dX4_voices_6 : decode cX4_voices 6 = .ok (.getfield 10, 3) := by decide +kernel
theorem dX4_voices_9 : decode cX4_voices 9 = .ok (.bipush 9, 2) := by decide +kernel
theorem dX4_voices_11 : decode cX4_voices 11 = .ok (.invokevirtual 217, 3) := by decide +kernel
theorem dX4_voices_14 : decode cX4_voices 14 = .ok (.ireturn, 1) := by decide +kernel
theorem dX4_voices_15 : decode cX4_voices 15 = .ok (.aload_n 0, 1) := by decide +kernel
theorem dX4_voices_16 : decode cX4_voices 16 = .ok (.getfield 10, 3) := by decide +kernel
theorem dX4_voices_19 : decode cX4_voices 19 = .ok (.iload_n 1, 1) := by decide +kernel
theorem dX4_voices_20 : decode cX4_voices 20 = .ok (.invokevirtual 99, 3) := by decide +kernel
theorem dX4_voices_23 : decode cX4_voices 23 = .ok (.ifCond .ne 9, 3) := by decide +kernel
theorem dX4_voices_26 : decode cX4_voices 26 = .ok (.aload_n 0, 1) := by decide +kernel
theorem dX4_voices_27 : decode cX4_voices 27 = .ok (.iconst (-1), 1) := by decide +kernel
theorem dX4_voices_28 : decode cX4_voices 28 = .ok (.invokevirtual 51, 3) := by decide +kernel
theorem dX4_voices_31 : decode cX4_voices 31 = .ok (.ireturn, 1) := by decide +kernel
theorem dX4_voices_32 : decode cX4_voices 32 = .ok (.aload_n 0, 1) := by decide +kernel
theorem dX4_voices_33 : decode cX4_voices 33 = .ok (.getfield 10, 3) := by decide +kernel
theorem dX4_voices_36 : decode cX4_voices 36 = .ok (.iload_n 1, 1) := by decide +kernel
theorem dX4_voices_37 : decode cX4_voices 37 = .ok (.invokevirtual 217, 3) := by decide +kernel
theorem dX4_voices_40 : decode cX4_voices 40 = .ok (.ireturn, 1) := by decide +kernel
theorem dX4_heard_0 : decode cX4_heard 0 = .ok (.iload_n 1, 1) := by decide +kernel
theorem dX4_heard_1 : decode cX4_heard 1 = .ok (.lookupswitch 37 #[(0, 27), (1, 32)], 27) := by decide +kernel
theorem dX4_heard_28 : decode cX4_heard 28 = .ok (.aload_n 0, 1) := by decide +kernel
theorem dX4_heard_29 : decode cX4_heard 29 = .ok (.invokevirtual 220, 3) := by decide +kernel
theorem dX4_heard_32 : decode cX4_heard 32 = .ok (.ireturn, 1) := by decide +kernel
theorem dX4_heard_33 : decode cX4_heard 33 = .ok (.aload_n 0, 1) := by decide +kernel
theorem dX4_heard_34 : decode cX4_heard 34 = .ok (.invokevirtual 223, 3) := by decide +kernel
theorem dX4_heard_37 : decode cX4_heard 37 = .ok (.ireturn, 1) := by decide +kernel
theorem dX4_heard_38 : decode cX4_heard 38 = .ok (.aload_n 0, 1) := by decide +kernel
theorem dX4_heard_39 : decode cX4_heard 39 = .ok (.bipush (-2), 2) := by decide +kernel
theorem dX4_heard_41 : decode cX4_heard 41 = .ok (.invokevirtual 51, 3) := by decide +kernel
theorem dX4_heard_44 : decode cX4_heard 44 = .ok (.ireturn, 1) := by decide +kernel
theorem dX4_mostHeard_0 : decode cX4_mostHeard 0 = .ok (.bipush (-9), 2) := by decide +kernel
theorem dX4_mostHeard_2 : decode cX4_mostHeard 2 = .ok (.istore_n 1, 1) := by decide +kernel
theorem dX4_mostHeard_3 : decode cX4_mostHeard 3 = .ok (.iconst 0, 1) := by decide +kernel
theorem dX4_mostHeard_4 : decode cX4_mostHeard 4 = .ok (.istore_n 2, 1) := by decide +kernel
theorem dX4_mostHeard_5 : decode cX4_mostHeard 5 = .ok (.iconst 0, 1) := by decide +kernel
theorem dX4_mostHeard_6 : decode cX4_mostHeard 6 = .ok (.istore_n 3, 1) := by decide +kernel
theorem dX4_mostHeard_7 : decode cX4_mostHeard 7 = .ok (.iload_n 3, 1) := by decide +kernel
theorem dX4_mostHeard_8 : decode cX4_mostHeard 8 = .ok (.aload_n 0, 1) := by decide +kernel
theorem dX4_mostHeard_9 : decode cX4_mostHeard 9 = .ok (.getfield 10, 3) := by decide +kernel
theorem dX4_mostHeard_12 : decode cX4_mostHeard 12 = .ok (.getfield 226, 3) := by decide +kernel
theorem dX4_mostHeard_15 : decode cX4_mostHeard 15 = .ok (.if_icmp .ge 33, 3) := by decide +kernel
theorem dX4_mostHeard_18 : decode cX4_mostHeard 18 = .ok (.aload_n 0, 1) := by decide +kernel
theorem dX4_mostHeard_19 : decode cX4_mostHeard 19 = .ok (.getfield 10, 3) := by decide +kernel
theorem dX4_mostHeard_22 : decode cX4_mostHeard 22 = .ok (.iload_n 3, 1) := by decide +kernel
theorem dX4_mostHeard_23 : decode cX4_mostHeard 23 = .ok (.invokevirtual 217, 3) := by decide +kernel
theorem dX4_mostHeard_26 : decode cX4_mostHeard 26 = .ok (.invokestatic 229, 3) := by decide +kernel
theorem dX4_mostHeard_29 : decode cX4_mostHeard 29 = .ok (.istore 4, 2) := by decide +kernel
theorem dX4_mostHeard_31 : decode cX4_mostHeard 31 = .ok (.iload 4, 2) := by decide +kernel
theorem dX4_mostHeard_33 : decode cX4_mostHeard 33 = .ok (.iload_n 2, 1) := by decide +kernel
theorem dX4_mostHeard_34 : decode cX4_mostHeard 34 = .ok (.if_icmp .le 8, 3) := by decide +kernel
theorem dX4_mostHeard_37 : decode cX4_mostHeard 37 = .ok (.iload 4, 2) := by decide +kernel
theorem dX4_mostHeard_39 : decode cX4_mostHeard 39 = .ok (.istore_n 2, 1) := by decide +kernel
theorem dX4_mostHeard_40 : decode cX4_mostHeard 40 = .ok (.iload_n 3, 1) := by decide +kernel
theorem dX4_mostHeard_41 : decode cX4_mostHeard 41 = .ok (.istore_n 1, 1) := by decide +kernel
theorem dX4_mostHeard_42 : decode cX4_mostHeard 42 = .ok (.iinc 3 1, 3) := by decide +kernel
theorem dX4_mostHeard_45 : decode cX4_mostHeard 45 = .ok (.goto (-38), 3) := by decide +kernel
theorem dX4_mostHeard_48 : decode cX4_mostHeard 48 = .ok (.iload_n 1, 1) := by decide +kernel
theorem dX4_mostHeard_49 : decode cX4_mostHeard 49 = .ok (.ireturn, 1) := by decide +kernel
theorem dX4_worst_0 : decode cX4_worst 0 = .ok (.bipush (-9), 2) := by decide +kernel
theorem dX4_worst_2 : decode cX4_worst 2 = .ok (.istore_n 1, 1) := by decide +kernel
theorem dX4_worst_3 : decode cX4_worst 3 = .ok (.iconst (-1), 1) := by decide +kernel
theorem dX4_worst_4 : decode cX4_worst 4 = .ok (.istore_n 2, 1) := by decide +kernel
theorem dX4_worst_5 : decode cX4_worst 5 = .ok (.iconst 0, 1) := by decide +kernel
theorem dX4_worst_6 : decode cX4_worst 6 = .ok (.istore_n 3, 1) := by decide +kernel
theorem dX4_worst_7 : decode cX4_worst 7 = .ok (.iload_n 3, 1) := by decide +kernel
theorem dX4_worst_8 : decode cX4_worst 8 = .ok (.aload_n 0, 1) := by decide +kernel
theorem dX4_worst_9 : decode cX4_worst 9 = .ok (.getfield 10, 3) := by decide +kernel
theorem dX4_worst_12 : decode cX4_worst 12 = .ok (.getfield 226, 3) := by decide +kernel
theorem dX4_worst_15 : decode cX4_worst 15 = .ok (.if_icmp .ge 34, 3) := by decide +kernel
theorem dX4_worst_18 : decode cX4_worst 18 = .ok (.aload_n 0, 1) := by decide +kernel
theorem dX4_worst_19 : decode cX4_worst 19 = .ok (.getfield 10, 3) := by decide +kernel
theorem dX4_worst_22 : decode cX4_worst 22 = .ok (.getfield 108, 3) := by decide +kernel
theorem dX4_worst_25 : decode cX4_worst 25 = .ok (.iload_n 3, 1) := by decide +kernel
theorem dX4_worst_26 : decode cX4_worst 26 = .ok (.iaload, 1) := by decide +kernel
theorem dX4_worst_27 : decode cX4_worst 27 = .ok (.iload_n 2, 1) := by decide +kernel
theorem dX4_worst_28 : decode cX4_worst 28 = .ok (.if_icmp .le 15, 3) := by decide +kernel
theorem dX4_worst_31 : decode cX4_worst 31 = .ok (.aload_n 0, 1) := by decide +kernel
theorem dX4_worst_32 : decode cX4_worst 32 = .ok (.getfield 10, 3) := by decide +kernel
theorem dX4_worst_35 : decode cX4_worst 35 = .ok (.getfield 108, 3) := by decide +kernel
theorem dX4_worst_38 : decode cX4_worst 38 = .ok (.iload_n 3, 1) := by decide +kernel
theorem dX4_worst_39 : decode cX4_worst 39 = .ok (.iaload, 1) := by decide +kernel
theorem dX4_worst_40 : decode cX4_worst 40 = .ok (.istore_n 2, 1) := by decide +kernel
theorem dX4_worst_41 : decode cX4_worst 41 = .ok (.iload_n 3, 1) := by decide +kernel
theorem dX4_worst_42 : decode cX4_worst 42 = .ok (.istore_n 1, 1) := by decide +kernel
theorem dX4_worst_43 : decode cX4_worst 43 = .ok (.iinc 3 1, 3) := by decide +kernel
theorem dX4_worst_46 : decode cX4_worst 46 = .ok (.goto (-39), 3) := by decide +kernel
theorem dX4_worst_49 : decode cX4_worst 49 = .ok (.iload_n 1, 1) := by decide +kernel
theorem dX4_worst_50 : decode cX4_worst 50 = .ok (.ireturn, 1) := by decide +kernel
theorem dX4_meet_0 : decode cX4_meet 0 = .ok (.iload_n 1, 1) := by decide +kernel
theorem dX4_meet_1 : decode cX4_meet 1 = .ok (.ifCond .eq 15, 3) := by decide +kernel
theorem dX4_meet_4 : decode cX4_meet 4 = .ok (.iload_n 1, 1) := by decide +kernel
theorem dX4_meet_5 : decode cX4_meet 5 = .ok (.iconst 1, 1) := by decide +kernel
theorem dX4_meet_6 : decode cX4_meet 6 = .ok (.if_icmp .eq 10, 3) := by decide +kernel
theorem dX4_meet_9 : decode cX4_meet 9 = .ok (.aload_n 0, 1) := by decide +kernel
theorem dX4_meet_10 : decode cX4_meet 10 = .ok (.bipush (-2), 2) := by decide +kernel
theorem dX4_meet_12 : decode cX4_meet 12 = .ok (.invokevirtual 51, 3) := by decide +kernel
theorem dX4_meet_15 : decode cX4_meet 15 = .ok (.ireturn, 1) := by decide +kernel
theorem dX4_meet_16 : decode cX4_meet 16 = .ok (.bipush (-9), 2) := by decide +kernel
theorem dX4_meet_18 : decode cX4_meet 18 = .ok (.istore_n 2, 1) := by decide +kernel
theorem dX4_meet_19 : decode cX4_meet 19 = .ok (.bipush (-9), 2) := by decide +kernel
theorem dX4_meet_21 : decode cX4_meet 21 = .ok (.istore_n 3, 1) := by decide +kernel
theorem dX4_meet_22 : decode cX4_meet 22 = .ok (.iconst 0, 1) := by decide +kernel
theorem dX4_meet_23 : decode cX4_meet 23 = .ok (.istore 4, 2) := by decide +kernel
theorem dX4_meet_25 : decode cX4_meet 25 = .ok (.iload 4, 2) := by decide +kernel
theorem dX4_meet_27 : decode cX4_meet 27 = .ok (.bipush 7, 2) := by decide +kernel
theorem dX4_meet_29 : decode cX4_meet 29 = .ok (.if_icmp .ge 42, 3) := by decide +kernel
theorem dX4_meet_32 : decode cX4_meet 32 = .ok (.aload_n 0, 1) := by decide +kernel
theorem dX4_meet_33 : decode cX4_meet 33 = .ok (.iload 4, 2) := by decide +kernel
theorem dX4_meet_35 : decode cX4_meet 35 = .ok (.invokevirtual 234, 3) := by decide +kernel
theorem dX4_meet_38 : decode cX4_meet 38 = .ok (.istore 5, 2) := by decide +kernel
theorem dX4_meet_40 : decode cX4_meet 40 = .ok (.iload 5, 2) := by decide +kernel
theorem dX4_meet_42 : decode cX4_meet 42 = .ok (.bipush (-9), 2) := by decide +kernel
theorem dX4_meet_44 : decode cX4_meet 44 = .ok (.if_icmp .eq 21, 3) := by decide +kernel
theorem dX4_meet_47 : decode cX4_meet 47 = .ok (.iload_n 2, 1) := by decide +kernel
theorem dX4_meet_48 : decode cX4_meet 48 = .ok (.bipush (-9), 2) := by decide +kernel
theorem dX4_meet_50 : decode cX4_meet 50 = .ok (.if_icmp .eq 9, 3) := by decide +kernel
theorem dX4_meet_53 : decode cX4_meet 53 = .ok (.iload 5, 2) := by decide +kernel
theorem dX4_meet_55 : decode cX4_meet 55 = .ok (.iload_n 3, 1) := by decide +kernel
theorem dX4_meet_56 : decode cX4_meet 56 = .ok (.if_icmp .ge 9, 3) := by decide +kernel
theorem dX4_meet_59 : decode cX4_meet 59 = .ok (.iload 4, 2) := by decide +kernel
theorem dX4_meet_61 : decode cX4_meet 61 = .ok (.istore_n 2, 1) := by decide +kernel
theorem dX4_meet_62 : decode cX4_meet 62 = .ok (.iload 5, 2) := by decide +kernel
theorem dX4_meet_64 : decode cX4_meet 64 = .ok (.istore_n 3, 1) := by decide +kernel
theorem dX4_meet_65 : decode cX4_meet 65 = .ok (.iinc 4 1, 3) := by decide +kernel
theorem dX4_meet_68 : decode cX4_meet 68 = .ok (.goto (-43), 3) := by decide +kernel
theorem dX4_meet_71 : decode cX4_meet 71 = .ok (.iload_n 1, 1) := by decide +kernel
theorem dX4_meet_72 : decode cX4_meet 72 = .ok (.ifCond .ne 7, 3) := by decide +kernel
theorem dX4_meet_75 : decode cX4_meet 75 = .ok (.iload_n 2, 1) := by decide +kernel
theorem dX4_meet_76 : decode cX4_meet 76 = .ok (.goto 4, 3) := by decide +kernel
theorem dX4_meet_79 : decode cX4_meet 79 = .ok (.iload_n 3, 1) := by decide +kernel
theorem dX4_meet_80 : decode cX4_meet 80 = .ok (.ireturn, 1) := by decide +kernel
theorem dX4_givenToAll_0 : decode cX4_givenToAll 0 = .ok (.aload_n 0, 1) := by decide +kernel
theorem dX4_givenToAll_1 : decode cX4_givenToAll 1 = .ok (.iload_n 1, 1) := by decide +kernel
theorem dX4_givenToAll_2 : decode cX4_givenToAll 2 = .ok (.iconst 0, 1) := by decide +kernel
theorem dX4_givenToAll_3 : decode cX4_givenToAll 3 = .ok (.invokevirtual 164, 3) := by decide +kernel
theorem dX4_givenToAll_6 : decode cX4_givenToAll 6 = .ok (.iconst 0, 1) := by decide +kernel
theorem dX4_givenToAll_7 : decode cX4_givenToAll 7 = .ok (.istore_n 2, 1) := by decide +kernel
theorem dX4_givenToAll_8 : decode cX4_givenToAll 8 = .ok (.iconst 0, 1) := by decide +kernel
theorem dX4_givenToAll_9 : decode cX4_givenToAll 9 = .ok (.istore_n 3, 1) := by decide +kernel
theorem dX4_givenToAll_10 : decode cX4_givenToAll 10 = .ok (.iload_n 3, 1) := by decide +kernel
theorem dX4_givenToAll_11 : decode cX4_givenToAll 11 = .ok (.aload_n 0, 1) := by decide +kernel
theorem dX4_givenToAll_12 : decode cX4_givenToAll 12 = .ok (.getfield 10, 3) := by decide +kernel
theorem dX4_givenToAll_15 : decode cX4_givenToAll 15 = .ok (.getfield 226, 3) := by decide +kernel
theorem dX4_givenToAll_18 : decode cX4_givenToAll 18 = .ok (.if_icmp .ge 42, 3) := by decide +kernel
theorem dX4_givenToAll_21 : decode cX4_givenToAll 21 = .ok (.aload_n 0, 1) := by decide +kernel
theorem dX4_givenToAll_22 : decode cX4_givenToAll 22 = .ok (.getfield 36, 3) := by decide +kernel
theorem dX4_givenToAll_25 : decode cX4_givenToAll 25 = .ok (.aload_n 0, 1) := by decide +kernel
theorem dX4_givenToAll_26 : decode cX4_givenToAll 26 = .ok (.getfield 10, 3) := by decide +kernel
theorem dX4_givenToAll_29 : decode cX4_givenToAll 29 = .ok (.getfield 105, 3) := by decide +kernel
theorem dX4_givenToAll_32 : decode cX4_givenToAll 32 = .ok (.iload_n 3, 1) := by decide +kernel
theorem dX4_givenToAll_33 : decode cX4_givenToAll 33 = .ok (.iaload, 1) := by decide +kernel
theorem dX4_givenToAll_34 : decode cX4_givenToAll 34 = .ok (.invokevirtual 167, 3) := by decide +kernel
theorem dX4_givenToAll_37 : decode cX4_givenToAll 37 = .ok (.istore 4, 2) := by decide +kernel
theorem dX4_givenToAll_39 : decode cX4_givenToAll 39 = .ok (.iload 4, 2) := by decide +kernel
theorem dX4_givenToAll_41 : decode cX4_givenToAll 41 = .ok (.bipush (-9), 2) := by decide +kernel
theorem dX4_givenToAll_43 : decode cX4_givenToAll 43 = .ok (.if_icmp .ne 6, 3) := by decide +kernel
theorem dX4_givenToAll_46 : decode cX4_givenToAll 46 = .ok (.bipush (-9), 2) := by decide +kernel
theorem dX4_givenToAll_48 : decode cX4_givenToAll 48 = .ok (.ireturn, 1) := by decide +kernel
theorem dX4_givenToAll_49 : decode cX4_givenToAll 49 = .ok (.iload_n 2, 1) := by decide +kernel
theorem dX4_givenToAll_50 : decode cX4_givenToAll 50 = .ok (.iload 4, 2) := by decide +kernel
theorem dX4_givenToAll_52 : decode cX4_givenToAll 52 = .ok (.iadd, 1) := by decide +kernel
theorem dX4_givenToAll_53 : decode cX4_givenToAll 53 = .ok (.istore_n 2, 1) := by decide +kernel
theorem dX4_givenToAll_54 : decode cX4_givenToAll 54 = .ok (.iinc 3 1, 3) := by decide +kernel
theorem dX4_givenToAll_57 : decode cX4_givenToAll 57 = .ok (.goto (-47), 3) := by decide +kernel
theorem dX4_givenToAll_60 : decode cX4_givenToAll 60 = .ok (.iload_n 2, 1) := by decide +kernel
theorem dX4_givenToAll_61 : decode cX4_givenToAll 61 = .ok (.ireturn, 1) := by decide +kernel
theorem dX4_draught_0 : decode cX4_draught 0 = .ok (.aload_n 0, 1) := by decide +kernel
theorem dX4_draught_1 : decode cX4_draught 1 = .ok (.getfield 10, 3) := by decide +kernel
theorem dX4_draught_4 : decode cX4_draught 4 = .ok (.iload_n 1, 1) := by decide +kernel
theorem dX4_draught_5 : decode cX4_draught 5 = .ok (.invokevirtual 74, 3) := by decide +kernel
theorem dX4_draught_8 : decode cX4_draught 8 = .ok (.ifCond .ne 9, 3) := by decide +kernel
theorem dX4_draught_11 : decode cX4_draught 11 = .ok (.aload_n 0, 1) := by decide +kernel
theorem dX4_draught_12 : decode cX4_draught 12 = .ok (.iconst (-1), 1) := by decide +kernel
theorem dX4_draught_13 : decode cX4_draught 13 = .ok (.invokevirtual 237, 3) := by decide +kernel
theorem dX4_draught_16 : decode cX4_draught 16 = .ok (.lreturn, 1) := by decide +kernel
theorem dX4_draught_17 : decode cX4_draught 17 = .ok (.iload_n 2, 1) := by decide +kernel
theorem dX4_draught_18 : decode cX4_draught 18 = .ok (.ifCond .lt 13, 3) := by decide +kernel
theorem dX4_draught_21 : decode cX4_draught 21 = .ok (.iload 4, 2) := by decide +kernel
theorem dX4_draught_23 : decode cX4_draught 23 = .ok (.ifCond .lt 8, 3) := by decide +kernel
theorem dX4_draught_26 : decode cX4_draught 26 = .ok (.iload_n 3, 1) := by decide +kernel
theorem dX4_draught_27 : decode cX4_draught 27 = .ok (.iconst 2, 1) := by decide +kernel
theorem dX4_draught_28 : decode cX4_draught 28 = .ok (.if_icmp .ge 10, 3) := by decide +kernel
theorem dX4_draught_31 : decode cX4_draught 31 = .ok (.aload_n 0, 1) := by decide +kernel
theorem dX4_draught_32 : decode cX4_draught 32 = .ok (.bipush (-4), 2) := by decide +kernel
theorem dX4_draught_34 : decode cX4_draught 34 = .ok (.invokevirtual 237, 3) := by decide +kernel
theorem dX4_draught_37 : decode cX4_draught 37 = .ok (.lreturn, 1) := by decide +kernel
theorem dX4_draught_38 : decode cX4_draught 38 = .ok (.iload_n 2, 1) := by decide +kernel
theorem dX4_draught_39 : decode cX4_draught 39 = .ok (.bipush 7, 2) := by decide +kernel
theorem dX4_draught_41 : decode cX4_draught 41 = .ok (.if_icmp .gt 16, 3) := by decide +kernel
theorem dX4_draught_44 : decode cX4_draught 44 = .ok (.iload_n 3, 1) := by decide +kernel
theorem dX4_draught_45 : decode cX4_draught 45 = .ok (.bipush 20, 2) := by decide +kernel
theorem dX4_draught_47 : decode cX4_draught 47 = .ok (.if_icmp .gt 10, 3) := by decide +kernel
theorem dX4_draught_50 : decode cX4_draught 50 = .ok (.iload 4, 2) := by decide +kernel
theorem dX4_draught_52 : decode cX4_draught 52 = .ok (.bipush 99, 2) := by decide +kernel
theorem dX4_draught_54 : decode cX4_draught 54 = .ok (.if_icmp .le 10, 3) := by decide +kernel
theorem dX4_draught_57 : decode cX4_draught 57 = .ok (.aload_n 0, 1) := by decide +kernel
theorem dX4_draught_58 : decode cX4_draught 58 = .ok (.bipush (-6), 2) := by decide +kernel
theorem dX4_draught_60 : decode cX4_draught 60 = .ok (.invokevirtual 237, 3) := by decide +kernel
theorem dX4_draught_63 : decode cX4_draught 63 = .ok (.lreturn, 1) := by decide +kernel
theorem dX4_draught_64 : decode cX4_draught 64 = .ok (.iload 5, 2) := by decide +kernel
theorem dX4_draught_66 : decode cX4_draught 66 = .ok (.ifCond .eq 16, 3) := by decide +kernel
theorem dX4_draught_69 : decode cX4_draught 69 = .ok (.iload 5, 2) := by decide +kernel
theorem dX4_draught_71 : decode cX4_draught 71 = .ok (.iconst 1, 1) := by decide +kernel
theorem dX4_draught_72 : decode cX4_draught 72 = .ok (.if_icmp .eq 10, 3) := by decide +kernel
theorem dX4_draught_75 : decode cX4_draught 75 = .ok (.aload_n 0, 1) := by decide +kernel
theorem dX4_draught_76 : decode cX4_draught 76 = .ok (.bipush (-2), 2) := by decide +kernel
theorem dX4_draught_78 : decode cX4_draught 78 = .ok (.invokevirtual 237, 3) := by decide +kernel
theorem dX4_draught_81 : decode cX4_draught 81 = .ok (.lreturn, 1) := by decide +kernel
theorem dX4_draught_82 : decode cX4_draught 82 = .ok (.lconst 0, 1) := by decide +kernel
theorem dX4_draught_83 : decode cX4_draught 83 = .ok (.lstore 6, 2) := by decide +kernel
theorem dX4_draught_85 : decode cX4_draught 85 = .ok (.lconst 0, 1) := by decide +kernel
theorem dX4_draught_86 : decode cX4_draught 86 = .ok (.lstore 8, 2) := by decide +kernel
theorem dX4_draught_88 : decode cX4_draught 88 = .ok (.iconst 0, 1) := by decide +kernel
theorem dX4_draught_89 : decode cX4_draught 89 = .ok (.istore 10, 2) := by decide +kernel
theorem dX4_draught_91 : decode cX4_draught 91 = .ok (.iload 10, 2) := by decide +kernel
theorem dX4_draught_93 : decode cX4_draught 93 = .ok (.iconst 1, 1) := by decide +kernel
theorem dX4_draught_94 : decode cX4_draught 94 = .ok (.iload_n 2, 1) := by decide +kernel
theorem dX4_draught_95 : decode cX4_draught 95 = .ok (.ishl, 1) := by decide +kernel
theorem dX4_draught_96 : decode cX4_draught 96 = .ok (.if_icmp .ge 45, 3) := by decide +kernel
theorem dX4_draught_99 : decode cX4_draught 99 = .ok (.iload 10, 2) := by decide +kernel
theorem dX4_draught_101 : decode cX4_draught 101 = .ok (.iload_n 2, 1) := by decide +kernel
theorem dX4_draught_102 : decode cX4_draught 102 = .ok (.iload_n 3, 1) := by decide +kernel
theorem dX4_draught_103 : decode cX4_draught 103 = .ok (.invokestatic 241, 3) := by decide +kernel
theorem dX4_draught_106 : decode cX4_draught 106 = .ok (.lstore 11, 2) := by decide +kernel
theorem dX4_draught_108 : decode cX4_draught 108 = .ok (.lload 8, 2) := by decide +kernel
theorem dX4_draught_110 : decode cX4_draught 110 = .ok (.lload 11, 2) := by decide +kernel
theorem dX4_draught_112 : decode cX4_draught 112 = .ok (.ladd, 1) := by decide +kernel
theorem dX4_draught_113 : decode cX4_draught 113 = .ok (.lstore 8, 2) := by decide +kernel
theorem dX4_draught_115 : decode cX4_draught 115 = .ok (.aload_n 0, 1) := by decide +kernel
theorem dX4_draught_116 : decode cX4_draught 116 = .ok (.iload_n 1, 1) := by decide +kernel
theorem dX4_draught_117 : decode cX4_draught 117 = .ok (.iload_n 2, 1) := by decide +kernel
theorem dX4_draught_118 : decode cX4_draught 118 = .ok (.iload 10, 2) := by decide +kernel
theorem dX4_draught_120 : decode cX4_draught 120 = .ok (.invokevirtual 245, 3) := by decide +kernel
theorem dX4_draught_123 : decode cX4_draught 123 = .ok (.iload 4, 2) := by decide +kernel
theorem dX4_draught_125 : decode cX4_draught 125 = .ok (.if_icmp .gt 10, 3) := by decide +kernel
theorem dX4_draught_128 : decode cX4_draught 128 = .ok (.lload 6, 2) := by decide +kernel
theorem dX4_draught_130 : decode cX4_draught 130 = .ok (.lload 11, 2) := by decide +kernel
theorem dX4_draught_132 : decode cX4_draught 132 = .ok (.ladd, 1) := by decide +kernel
theorem dX4_draught_133 : decode cX4_draught 133 = .ok (.lstore 6, 2) := by decide +kernel
theorem dX4_draught_135 : decode cX4_draught 135 = .ok (.iinc 10 1, 3) := by decide +kernel
theorem dX4_draught_138 : decode cX4_draught 138 = .ok (.goto (-47), 3) := by decide +kernel
theorem dX4_draught_141 : decode cX4_draught 141 = .ok (.lload 6, 2) := by decide +kernel
theorem dX4_draught_143 : decode cX4_draught 143 = .ok (.lload 8, 2) := by decide +kernel
theorem dX4_draught_145 : decode cX4_draught 145 = .ok (.iload 5, 2) := by decide +kernel
theorem dX4_draught_147 : decode cX4_draught 147 = .ok (.invokestatic 248, 3) := by decide +kernel
theorem dX4_draught_150 : decode cX4_draught 150 = .ok (.lreturn, 1) := by decide +kernel
theorem dX4_weightOf_0 : decode cX4_weightOf 0 = .ok (.lconst 1, 1) := by decide +kernel
theorem dX4_weightOf_1 : decode cX4_weightOf 1 = .ok (.lstore_n 3, 1) := by decide +kernel
theorem dX4_weightOf_2 : decode cX4_weightOf 2 = .ok (.iconst 0, 1) := by decide +kernel
theorem dX4_weightOf_3 : decode cX4_weightOf 3 = .ok (.istore 5, 2) := by decide +kernel
theorem dX4_weightOf_5 : decode cX4_weightOf 5 = .ok (.iload 5, 2) := by decide +kernel
theorem dX4_weightOf_7 : decode cX4_weightOf 7 = .ok (.iload_n 1, 1) := by decide +kernel
theorem dX4_weightOf_8 : decode cX4_weightOf 8 = .ok (.if_icmp .ge 25, 3) := by decide +kernel
theorem dX4_weightOf_11 : decode cX4_weightOf 11 = .ok (.iload_n 0, 1) := by decide +kernel
theorem dX4_weightOf_12 : decode cX4_weightOf 12 = .ok (.iload 5, 2) := by decide +kernel
theorem dX4_weightOf_14 : decode cX4_weightOf 14 = .ok (.ishr, 1) := by decide +kernel
theorem dX4_weightOf_15 : decode cX4_weightOf 15 = .ok (.iconst 1, 1) := by decide +kernel
theorem dX4_weightOf_16 : decode cX4_weightOf 16 = .ok (.iand, 1) := by decide +kernel
theorem dX4_weightOf_17 : decode cX4_weightOf 17 = .ok (.ifCond .ne 10, 3) := by decide +kernel
theorem dX4_weightOf_20 : decode cX4_weightOf 20 = .ok (.lload_n 3, 1) := by decide +kernel
theorem dX4_weightOf_21 : decode cX4_weightOf 21 = .ok (.iload_n 2, 1) := by decide +kernel
theorem dX4_weightOf_22 : decode cX4_weightOf 22 = .ok (.iconst 1, 1) := by decide +kernel
theorem dX4_weightOf_23 : decode cX4_weightOf 23 = .ok (.isub, 1) := by decide +kernel
theorem dX4_weightOf_24 : decode cX4_weightOf 24 = .ok (.i2l, 1) := by decide +kernel
theorem dX4_weightOf_25 : decode cX4_weightOf 25 = .ok (.lmul, 1) := by decide +kernel
theorem dX4_weightOf_26 : decode cX4_weightOf 26 = .ok (.lstore_n 3, 1) := by decide +kernel
theorem dX4_weightOf_27 : decode cX4_weightOf 27 = .ok (.iinc 5 1, 3) := by decide +kernel
theorem dX4_weightOf_30 : decode cX4_weightOf 30 = .ok (.goto (-25), 3) := by decide +kernel
theorem dX4_weightOf_33 : decode cX4_weightOf 33 = .ok (.lload_n 3, 1) := by decide +kernel
theorem dX4_weightOf_34 : decode cX4_weightOf 34 = .ok (.lreturn, 1) := by decide +kernel
theorem dX4_givenBehind_0 : decode cX4_givenBehind 0 = .ok (.aload_n 0, 1) := by decide +kernel
theorem dX4_givenBehind_1 : decode cX4_givenBehind 1 = .ok (.getfield 10, 3) := by decide +kernel
theorem dX4_givenBehind_4 : decode cX4_givenBehind 4 = .ok (.getfield 78, 3) := by decide +kernel
theorem dX4_givenBehind_7 : decode cX4_givenBehind 7 = .ok (.iload_n 1, 1) := by decide +kernel
theorem dX4_givenBehind_8 : decode cX4_givenBehind 8 = .ok (.iaload, 1) := by decide +kernel
theorem dX4_givenBehind_9 : decode cX4_givenBehind 9 = .ok (.istore 4, 2) := by decide +kernel
theorem dX4_givenBehind_11 : decode cX4_givenBehind 11 = .ok (.aload_n 0, 1) := by decide +kernel
theorem dX4_givenBehind_12 : decode cX4_givenBehind 12 = .ok (.getfield 10, 3) := by decide +kernel
theorem dX4_givenBehind_15 : decode cX4_givenBehind 15 = .ok (.getfield 81, 3) := by decide +kernel
theorem dX4_givenBehind_18 : decode cX4_givenBehind 18 = .ok (.iload_n 1, 1) := by decide +kernel
theorem dX4_givenBehind_19 : decode cX4_givenBehind 19 = .ok (.iaload, 1) := by decide +kernel
theorem dX4_givenBehind_20 : decode cX4_givenBehind 20 = .ok (.istore 5, 2) := by decide +kernel
theorem dX4_givenBehind_22 : decode cX4_givenBehind 22 = .ok (.aload_n 0, 1) := by decide +kernel
theorem dX4_givenBehind_23 : decode cX4_givenBehind 23 = .ok (.getfield 10, 3) := by decide +kernel
theorem dX4_givenBehind_26 : decode cX4_givenBehind 26 = .ok (.getfield 90, 3) := by decide +kernel
theorem dX4_givenBehind_29 : decode cX4_givenBehind 29 = .ok (.iload_n 1, 1) := by decide +kernel
theorem dX4_givenBehind_30 : decode cX4_givenBehind 30 = .ok (.iaload, 1) := by decide +kernel
theorem dX4_givenBehind_31 : decode cX4_givenBehind 31 = .ok (.istore 6, 2) := by decide +kernel
theorem dX4_givenBehind_33 : decode cX4_givenBehind 33 = .ok (.iconst 0, 1) := by decide +kernel
theorem dX4_givenBehind_34 : decode cX4_givenBehind 34 = .ok (.istore 7, 2) := by decide +kernel
theorem dX4_givenBehind_36 : decode cX4_givenBehind 36 = .ok (.iload 7, 2) := by decide +kernel
theorem dX4_givenBehind_38 : decode cX4_givenBehind 38 = .ok (.iload_n 2, 1) := by decide +kernel
theorem dX4_givenBehind_39 : decode cX4_givenBehind 39 = .ok (.if_icmp .ge 37, 3) := by decide +kernel
theorem dX4_givenBehind_42 : decode cX4_givenBehind 42 = .ok (.iload_n 3, 1) := by decide +kernel
theorem dX4_givenBehind_43 : decode cX4_givenBehind 43 = .ok (.iload 7, 2) := by decide +kernel
theorem dX4_givenBehind_45 : decode cX4_givenBehind 45 = .ok (.ishr, 1) := by decide +kernel
theorem dX4_givenBehind_46 : decode cX4_givenBehind 46 = .ok (.iconst 1, 1) := by decide +kernel
theorem dX4_givenBehind_47 : decode cX4_givenBehind 47 = .ok (.iand, 1) := by decide +kernel
theorem dX4_givenBehind_48 : decode cX4_givenBehind 48 = .ok (.iconst 1, 1) := by decide +kernel
theorem dX4_givenBehind_49 : decode cX4_givenBehind 49 = .ok (.if_icmp .ne 9, 3) := by decide +kernel
theorem dX4_givenBehind_52 : decode cX4_givenBehind 52 = .ok (.iload 6, 2) := by decide +kernel
theorem dX4_givenBehind_54 : decode cX4_givenBehind 54 = .ok (.iconst 2, 1) := by decide +kernel
theorem dX4_givenBehind_55 : decode cX4_givenBehind 55 = .ok (.idiv, 1) := by decide +kernel
theorem dX4_givenBehind_56 : decode cX4_givenBehind 56 = .ok (.istore 6, 2) := by decide +kernel
theorem dX4_givenBehind_58 : decode cX4_givenBehind 58 = .ok (.iload 4, 2) := by decide +kernel
theorem dX4_givenBehind_60 : decode cX4_givenBehind 60 = .ok (.iload 5, 2) := by decide +kernel
theorem dX4_givenBehind_62 : decode cX4_givenBehind 62 = .ok (.iload 6, 2) := by decide +kernel
theorem dX4_givenBehind_64 : decode cX4_givenBehind 64 = .ok (.iconst 1, 1) := by decide +kernel
theorem dX4_givenBehind_65 : decode cX4_givenBehind 65 = .ok (.invokestatic 252, 3) := by decide +kernel
theorem dX4_givenBehind_68 : decode cX4_givenBehind 68 = .ok (.istore 6, 2) := by decide +kernel
theorem dX4_givenBehind_70 : decode cX4_givenBehind 70 = .ok (.iinc 7 1, 3) := by decide +kernel
theorem dX4_givenBehind_73 : decode cX4_givenBehind 73 = .ok (.goto (-37), 3) := by decide +kernel
theorem dX4_givenBehind_76 : decode cX4_givenBehind 76 = .ok (.iload 4, 2) := by decide +kernel
theorem dX4_givenBehind_78 : decode cX4_givenBehind 78 = .ok (.iload 5, 2) := by decide +kernel
theorem dX4_givenBehind_80 : decode cX4_givenBehind 80 = .ok (.iload 6, 2) := by decide +kernel
theorem dX4_givenBehind_82 : decode cX4_givenBehind 82 = .ok (.invokestatic 258, 3) := by decide +kernel
theorem dX4_givenBehind_85 : decode cX4_givenBehind 85 = .ok (.ireturn, 1) := by decide +kernel
theorem dX4_mean_0 : decode cX4_mean 0 = .ok (.iload_n 1, 1) := by decide +kernel
theorem dX4_mean_1 : decode cX4_mean 1 = .ok (.ifCond .eq 15, 3) := by decide +kernel
theorem dX4_mean_4 : decode cX4_mean 4 = .ok (.iload_n 1, 1) := by decide +kernel
theorem dX4_mean_5 : decode cX4_mean 5 = .ok (.iconst 1, 1) := by decide +kernel
theorem dX4_mean_6 : decode cX4_mean 6 = .ok (.if_icmp .eq 10, 3) := by decide +kernel
theorem dX4_mean_9 : decode cX4_mean 9 = .ok (.aload_n 0, 1) := by decide +kernel
theorem dX4_mean_10 : decode cX4_mean 10 = .ok (.bipush (-2), 2) := by decide +kernel
theorem dX4_mean_12 : decode cX4_mean 12 = .ok (.invokevirtual 237, 3) := by decide +kernel
theorem dX4_mean_15 : decode cX4_mean 15 = .ok (.lreturn, 1) := by decide +kernel
theorem dX4_mean_16 : decode cX4_mean 16 = .ok (.aload_n 0, 1) := by decide +kernel
theorem dX4_mean_17 : decode cX4_mean 17 = .ok (.getfield 10, 3) := by decide +kernel
theorem dX4_mean_20 : decode cX4_mean 20 = .ok (.invokevirtual 139, 3) := by decide +kernel
theorem dX4_mean_23 : decode cX4_mean 23 = .ok (.i2l, 1) := by decide +kernel
theorem dX4_mean_24 : decode cX4_mean 24 = .ok (.iconst 1, 1) := by decide +kernel
theorem dX4_mean_25 : decode cX4_mean 25 = .ok (.aload_n 0, 1) := by decide +kernel
theorem dX4_mean_26 : decode cX4_mean 26 = .ok (.getfield 10, 3) := by decide +kernel
theorem dX4_mean_29 : decode cX4_mean 29 = .ok (.getfield 161, 3) := by decide +kernel
theorem dX4_mean_32 : decode cX4_mean 32 = .ok (.invokestatic 261, 3) := by decide +kernel
theorem dX4_mean_35 : decode cX4_mean 35 = .ok (.i2l, 1) := by decide +kernel
theorem dX4_mean_36 : decode cX4_mean 36 = .ok (.iload_n 1, 1) := by decide +kernel
theorem dX4_mean_37 : decode cX4_mean 37 = .ok (.invokestatic 248, 3) := by decide +kernel
theorem dX4_mean_40 : decode cX4_mean 40 = .ok (.lreturn, 1) := by decide +kernel
theorem dX4_partOf_0 : decode cX4_partOf 0 = .ok (.lload_n 2, 1) := by decide +kernel
theorem dX4_partOf_1 : decode cX4_partOf 1 = .ok (.lstore 5, 2) := by decide +kernel
theorem dX4_partOf_3 : decode cX4_partOf 3 = .ok (.lload_n 0, 1) := by decide +kernel
theorem dX4_partOf_4 : decode cX4_partOf 4 = .ok (.lstore 7, 2) := by decide +kernel
theorem dX4_partOf_6 : decode cX4_partOf 6 = .ok (.iconst 0, 1) := by decide +kernel
theorem dX4_partOf_7 : decode cX4_partOf 7 = .ok (.istore 9, 2) := by decide +kernel
theorem dX4_partOf_9 : decode cX4_partOf 9 = .ok (.iload 9, 2) := by decide +kernel
theorem dX4_partOf_11 : decode cX4_partOf 11 = .ok (.sipush 200, 3) := by decide +kernel
theorem dX4_partOf_14 : decode cX4_partOf 14 = .ok (.if_icmp .ge 31, 3) := by decide +kernel
theorem dX4_partOf_17 : decode cX4_partOf 17 = .ok (.lload 7, 2) := by decide +kernel
theorem dX4_partOf_19 : decode cX4_partOf 19 = .ok (.lconst 0, 1) := by decide +kernel
theorem dX4_partOf_20 : decode cX4_partOf 20 = .ok (.lcmp, 1) := by decide +kernel
theorem dX4_partOf_21 : decode cX4_partOf 21 = .ok (.ifCond .le 24, 3) := by decide +kernel
theorem dX4_partOf_24 : decode cX4_partOf 24 = .ok (.lload 5, 2) := by decide +kernel
theorem dX4_partOf_26 : decode cX4_partOf 26 = .ok (.lload 7, 2) := by decide +kernel
theorem dX4_partOf_28 : decode cX4_partOf 28 = .ok (.lrem, 1) := by decide +kernel
theorem dX4_partOf_29 : decode cX4_partOf 29 = .ok (.lstore 10, 2) := by decide +kernel
theorem dX4_partOf_31 : decode cX4_partOf 31 = .ok (.lload 7, 2) := by decide +kernel
theorem dX4_partOf_33 : decode cX4_partOf 33 = .ok (.lstore 5, 2) := by decide +kernel
theorem dX4_partOf_35 : decode cX4_partOf 35 = .ok (.lload 10, 2) := by decide +kernel
theorem dX4_partOf_37 : decode cX4_partOf 37 = .ok (.lstore 7, 2) := by decide +kernel
theorem dX4_partOf_39 : decode cX4_partOf 39 = .ok (.iinc 9 1, 3) := by decide +kernel
theorem dX4_partOf_42 : decode cX4_partOf 42 = .ok (.goto (-33), 3) := by decide +kernel
theorem dX4_partOf_45 : decode cX4_partOf 45 = .ok (.lload 5, 2) := by decide +kernel
theorem dX4_partOf_47 : decode cX4_partOf 47 = .ok (.lconst 1, 1) := by decide +kernel
theorem dX4_partOf_48 : decode cX4_partOf 48 = .ok (.lcmp, 1) := by decide +kernel
theorem dX4_partOf_49 : decode cX4_partOf 49 = .ok (.ifCond .ge 6, 3) := by decide +kernel
theorem dX4_partOf_52 : decode cX4_partOf 52 = .ok (.lconst 1, 1) := by decide +kernel
theorem dX4_partOf_53 : decode cX4_partOf 53 = .ok (.lstore 5, 2) := by decide +kernel
theorem dX4_partOf_55 : decode cX4_partOf 55 = .ok (.iload 4, 2) := by decide +kernel
theorem dX4_partOf_57 : decode cX4_partOf 57 = .ok (.ifCond .ne 7, 3) := by decide +kernel
theorem dX4_partOf_60 : decode cX4_partOf 60 = .ok (.lload_n 0, 1) := by decide +kernel
theorem dX4_partOf_61 : decode cX4_partOf 61 = .ok (.goto 4, 3) := by decide +kernel
theorem dX4_partOf_64 : decode cX4_partOf 64 = .ok (.lload_n 2, 1) := by decide +kernel
theorem dX4_partOf_65 : decode cX4_partOf 65 = .ok (.lload 5, 2) := by decide +kernel
theorem dX4_partOf_67 : decode cX4_partOf 67 = .ok (.ldiv, 1) := by decide +kernel
theorem dX4_partOf_68 : decode cX4_partOf 68 = .ok (.lreturn, 1) := by decide +kernel
theorem dX4_row_0 : decode cX4_row 0 = .ok (.iload_n 1, 1) := by decide +kernel
theorem dX4_row_1 : decode cX4_row 1 = .ok (.ifCond .ge 10, 3) := by decide +kernel
theorem dX4_row_4 : decode cX4_row 4 = .ok (.aload_n 0, 1) := by decide +kernel
theorem dX4_row_5 : decode cX4_row 5 = .ok (.bipush (-4), 2) := by decide +kernel
theorem dX4_row_7 : decode cX4_row 7 = .ok (.invokevirtual 51, 3) := by decide +kernel
theorem dX4_row_10 : decode cX4_row 10 = .ok (.ireturn, 1) := by decide +kernel
theorem dX4_row_11 : decode cX4_row 11 = .ok (.iload_n 1, 1) := by decide +kernel
theorem dX4_row_12 : decode cX4_row 12 = .ok (.bipush 99, 2) := by decide +kernel
theorem dX4_row_14 : decode cX4_row 14 = .ok (.if_icmp .gt 12, 3) := by decide +kernel
theorem dX4_row_17 : decode cX4_row 17 = .ok (.aload_n 0, 1) := by decide +kernel
theorem dX4_row_18 : decode cX4_row 18 = .ok (.getfield 44, 3) := by decide +kernel
theorem dX4_row_21 : decode cX4_row 21 = .ok (.bipush 16, 2) := by decide +kernel
theorem dX4_row_23 : decode cX4_row 23 = .ok (.if_icmp .lt 10, 3) := by decide +kernel
theorem dX4_row_26 : decode cX4_row 26 = .ok (.aload_n 0, 1) := by decide +kernel
theorem dX4_row_27 : decode cX4_row 27 = .ok (.bipush (-6), 2) := by decide +kernel
theorem dX4_row_29 : decode cX4_row 29 = .ok (.invokevirtual 51, 3) := by decide +kernel
theorem dX4_row_32 : decode cX4_row 32 = .ok (.ireturn, 1) := by decide +kernel
theorem dX4_row_33 : decode cX4_row 33 = .ok (.aload_n 0, 1) := by decide +kernel
theorem dX4_row_34 : decode cX4_row 34 = .ok (.getfield 40, 3) := by decide +kernel
theorem dX4_row_37 : decode cX4_row 37 = .ok (.aload_n 0, 1) := by decide +kernel
theorem dX4_row_38 : decode cX4_row 38 = .ok (.getfield 44, 3) := by decide +kernel
theorem dX4_row_41 : decode cX4_row 41 = .ok (.iload_n 1, 1) := by decide +kernel
theorem dX4_row_42 : decode cX4_row 42 = .ok (.iastore, 1) := by decide +kernel
theorem dX4_row_43 : decode cX4_row 43 = .ok (.aload_n 0, 1) := by decide +kernel
theorem dX4_row_44 : decode cX4_row 44 = .ok (.dup, 1) := by decide +kernel
theorem dX4_row_45 : decode cX4_row 45 = .ok (.getfield 44, 3) := by decide +kernel
theorem dX4_row_48 : decode cX4_row 48 = .ok (.iconst 1, 1) := by decide +kernel
theorem dX4_row_49 : decode cX4_row 49 = .ok (.iadd, 1) := by decide +kernel
theorem dX4_row_50 : decode cX4_row 50 = .ok (.putfield 44, 3) := by decide +kernel
theorem dX4_row_53 : decode cX4_row 53 = .ok (.aload_n 0, 1) := by decide +kernel
theorem dX4_row_54 : decode cX4_row 54 = .ok (.getfield 44, 3) := by decide +kernel
theorem dX4_row_57 : decode cX4_row 57 = .ok (.ireturn, 1) := by decide +kernel
theorem dX4_clear_0 : decode cX4_clear 0 = .ok (.aload_n 0, 1) := by decide +kernel
theorem dX4_clear_1 : decode cX4_clear 1 = .ok (.getfield 44, 3) := by decide +kernel
theorem dX4_clear_4 : decode cX4_clear 4 = .ok (.istore_n 1, 1) := by decide +kernel
theorem dX4_clear_5 : decode cX4_clear 5 = .ok (.aload_n 0, 1) := by decide +kernel
theorem dX4_clear_6 : decode cX4_clear 6 = .ok (.iconst 0, 1) := by decide +kernel
theorem dX4_clear_7 : decode cX4_clear 7 = .ok (.putfield 44, 3) := by decide +kernel
theorem dX4_clear_10 : decode cX4_clear 10 = .ok (.iload_n 1, 1) := by decide +kernel
theorem dX4_clear_11 : decode cX4_clear 11 = .ok (.ireturn, 1) := by decide +kernel
theorem dX4_judge_0 : decode cX4_judge 0 = .ok (.bipush (-9), 2) := by decide +kernel
theorem dX4_judge_2 : decode cX4_judge 2 = .ok (.istore_n 1, 1) := by decide +kernel
theorem dX4_judge_3 : decode cX4_judge 3 = .ok (.iconst 0, 1) := by decide +kernel
theorem dX4_judge_4 : decode cX4_judge 4 = .ok (.istore_n 2, 1) := by decide +kernel
theorem dX4_judge_5 : decode cX4_judge 5 = .ok (.iload_n 2, 1) := by decide +kernel
theorem dX4_judge_6 : decode cX4_judge 6 = .ok (.aload_n 0, 1) := by decide +kernel
theorem dX4_judge_7 : decode cX4_judge 7 = .ok (.getfield 44, 3) := by decide +kernel
theorem dX4_judge_10 : decode cX4_judge 10 = .ok (.if_icmp .ge 45, 3) := by decide +kernel
theorem dX4_judge_13 : decode cX4_judge 13 = .ok (.iload_n 1, 1) := by decide +kernel
theorem dX4_judge_14 : decode cX4_judge 14 = .ok (.bipush (-9), 2) := by decide +kernel
theorem dX4_judge_16 : decode cX4_judge 16 = .ok (.if_icmp .ne 39, 3) := by decide +kernel
theorem dX4_judge_19 : decode cX4_judge 19 = .ok (.aload_n 0, 1) := by decide +kernel
theorem dX4_judge_20 : decode cX4_judge 20 = .ok (.getfield 10, 3) := by decide +kernel
theorem dX4_judge_23 : decode cX4_judge 23 = .ok (.iload_n 2, 1) := by decide +kernel
theorem dX4_judge_24 : decode cX4_judge 24 = .ok (.invokevirtual 74, 3) := by decide +kernel
theorem dX4_judge_27 : decode cX4_judge 27 = .ok (.ifCond .eq 20, 3) := by decide +kernel
theorem dX4_judge_30 : decode cX4_judge 30 = .ok (.aload_n 0, 1) := by decide +kernel
theorem dX4_judge_31 : decode cX4_judge 31 = .ok (.getfield 10, 3) := by decide +kernel
theorem dX4_judge_34 : decode cX4_judge 34 = .ok (.iload_n 2, 1) := by decide +kernel
theorem dX4_judge_35 : decode cX4_judge 35 = .ok (.invokevirtual 96, 3) := by decide +kernel
theorem dX4_judge_38 : decode cX4_judge 38 = .ok (.aload_n 0, 1) := by decide +kernel
theorem dX4_judge_39 : decode cX4_judge 39 = .ok (.getfield 40, 3) := by decide +kernel
theorem dX4_judge_42 : decode cX4_judge 42 = .ok (.iload_n 2, 1) := by decide +kernel
theorem dX4_judge_43 : decode cX4_judge 43 = .ok (.iaload, 1) := by decide +kernel
theorem dX4_judge_44 : decode cX4_judge 44 = .ok (.if_icmp .eq 5, 3) := by decide +kernel
theorem dX4_judge_47 : decode cX4_judge 47 = .ok (.iload_n 2, 1) := by decide +kernel
theorem dX4_judge_48 : decode cX4_judge 48 = .ok (.istore_n 1, 1) := by decide +kernel
theorem dX4_judge_49 : decode cX4_judge 49 = .ok (.iinc 2 1, 3) := by decide +kernel
theorem dX4_judge_52 : decode cX4_judge 52 = .ok (.goto (-47), 3) := by decide +kernel
theorem dX4_judge_55 : decode cX4_judge 55 = .ok (.aload_n 0, 1) := by decide +kernel
theorem dX4_judge_56 : decode cX4_judge 56 = .ok (.iconst 0, 1) := by decide +kernel
theorem dX4_judge_57 : decode cX4_judge 57 = .ok (.putfield 44, 3) := by decide +kernel
theorem dX4_judge_60 : decode cX4_judge 60 = .ok (.iload_n 1, 1) := by decide +kernel
theorem dX4_judge_61 : decode cX4_judge 61 = .ok (.ireturn, 1) := by decide +kernel
theorem dX4_who_0 : decode cX4_who 0 = .ok (.aload_n 0, 1) := by decide +kernel
theorem dX4_who_1 : decode cX4_who 1 = .ok (.getfield 10, 3) := by decide +kernel
theorem dX4_who_4 : decode cX4_who 4 = .ok (.iload_n 1, 1) := by decide +kernel
theorem dX4_who_5 : decode cX4_who 5 = .ok (.invokevirtual 74, 3) := by decide +kernel
theorem dX4_who_8 : decode cX4_who 8 = .ok (.ifCond .ne 9, 3) := by decide +kernel
theorem dX4_who_11 : decode cX4_who 11 = .ok (.aload_n 0, 1) := by decide +kernel
theorem dX4_who_12 : decode cX4_who 12 = .ok (.iconst (-1), 1) := by decide +kernel
theorem dX4_who_13 : decode cX4_who 13 = .ok (.invokevirtual 51, 3) := by decide +kernel
theorem dX4_who_16 : decode cX4_who 16 = .ok (.ireturn, 1) := by decide +kernel
theorem dX4_who_17 : decode cX4_who 17 = .ok (.aload_n 0, 1) := by decide +kernel
theorem dX4_who_18 : decode cX4_who 18 = .ok (.getfield 10, 3) := by decide +kernel
theorem dX4_who_21 : decode cX4_who 21 = .ok (.getfield 78, 3) := by decide +kernel
theorem dX4_who_24 : decode cX4_who 24 = .ok (.iload_n 1, 1) := by decide +kernel
theorem dX4_who_25 : decode cX4_who 25 = .ok (.iaload, 1) := by decide +kernel
theorem dX4_who_26 : decode cX4_who 26 = .ok (.istore_n 2, 1) := by decide +kernel
theorem dX4_who_27 : decode cX4_who 27 = .ok (.aload_n 0, 1) := by decide +kernel
theorem dX4_who_28 : decode cX4_who 28 = .ok (.getfield 10, 3) := by decide +kernel
theorem dX4_who_31 : decode cX4_who 31 = .ok (.getfield 81, 3) := by decide +kernel
theorem dX4_who_34 : decode cX4_who 34 = .ok (.iload_n 1, 1) := by decide +kernel
theorem dX4_who_35 : decode cX4_who 35 = .ok (.iaload, 1) := by decide +kernel
theorem dX4_who_36 : decode cX4_who 36 = .ok (.istore_n 3, 1) := by decide +kernel
theorem dX4_who_37 : decode cX4_who 37 = .ok (.iconst 0, 1) := by decide +kernel
theorem dX4_who_38 : decode cX4_who 38 = .ok (.istore 4, 2) := by decide +kernel
theorem dX4_who_40 : decode cX4_who 40 = .ok (.iconst 0, 1) := by decide +kernel
theorem dX4_who_41 : decode cX4_who 41 = .ok (.istore 5, 2) := by decide +kernel
theorem dX4_who_43 : decode cX4_who 43 = .ok (.iload 5, 2) := by decide +kernel
theorem dX4_who_45 : decode cX4_who 45 = .ok (.aload_n 0, 1) := by decide +kernel
theorem dX4_who_46 : decode cX4_who 46 = .ok (.getfield 10, 3) := by decide +kernel
theorem dX4_who_49 : decode cX4_who 49 = .ok (.getfield 226, 3) := by decide +kernel
theorem dX4_who_52 : decode cX4_who 52 = .ok (.if_icmp .ge 41, 3) := by decide +kernel
theorem dX4_who_55 : decode cX4_who 55 = .ok (.aload_n 0, 1) := by decide +kernel
theorem dX4_who_56 : decode cX4_who 56 = .ok (.iload_n 2, 1) := by decide +kernel
theorem dX4_who_57 : decode cX4_who 57 = .ok (.iload_n 3, 1) := by decide +kernel
theorem dX4_who_58 : decode cX4_who 58 = .ok (.iload_n 2, 1) := by decide +kernel
theorem dX4_who_59 : decode cX4_who 59 = .ok (.iload_n 3, 1) := by decide +kernel
theorem dX4_who_60 : decode cX4_who 60 = .ok (.aload_n 0, 1) := by decide +kernel
theorem dX4_who_61 : decode cX4_who 61 = .ok (.getfield 10, 3) := by decide +kernel
theorem dX4_who_64 : decode cX4_who 64 = .ok (.iload 5, 2) := by decide +kernel
theorem dX4_who_66 : decode cX4_who 66 = .ok (.invokevirtual 111, 3) := by decide +kernel
theorem dX4_who_69 : decode cX4_who 69 = .ok (.invokestatic 264, 3) := by decide +kernel
theorem dX4_who_72 : decode cX4_who 72 = .ok (.invokevirtual 267, 3) := by decide +kernel
theorem dX4_who_75 : decode cX4_who 75 = .ok (.ifCond .eq 12, 3) := by decide +kernel
theorem dX4_who_78 : decode cX4_who 78 = .ok (.iload 4, 2) := by decide +kernel
theorem dX4_who_80 : decode cX4_who 80 = .ok (.iconst 1, 1) := by decide +kernel
theorem dX4_who_81 : decode cX4_who 81 = .ok (.iload 5, 2) := by decide +kernel
theorem dX4_who_83 : decode cX4_who 83 = .ok (.ishl, 1) := by decide +kernel
theorem dX4_who_84 : decode cX4_who 84 = .ok (.ior, 1) := by decide +kernel
theorem dX4_who_85 : decode cX4_who 85 = .ok (.istore 4, 2) := by decide +kernel
theorem dX4_who_87 : decode cX4_who 87 = .ok (.iinc 5 1, 3) := by decide +kernel
theorem dX4_who_90 : decode cX4_who 90 = .ok (.goto (-47), 3) := by decide +kernel
theorem dX4_who_93 : decode cX4_who 93 = .ok (.iload 4, 2) := by decide +kernel
theorem dX4_who_95 : decode cX4_who 95 = .ok (.ireturn, 1) := by decide +kernel
theorem dX4_whatIs_0 : decode cX4_whatIs 0 = .ok (.aload_n 0, 1) := by decide +kernel
theorem dX4_whatIs_1 : decode cX4_whatIs 1 = .ok (.getfield 10, 3) := by decide +kernel
theorem dX4_whatIs_4 : decode cX4_whatIs 4 = .ok (.iload_n 1, 1) := by decide +kernel
theorem dX4_whatIs_5 : decode cX4_whatIs 5 = .ok (.invokevirtual 74, 3) := by decide +kernel
theorem dX4_whatIs_8 : decode cX4_whatIs 8 = .ok (.ifCond .ne 9, 3) := by decide +kernel
theorem dX4_whatIs_11 : decode cX4_whatIs 11 = .ok (.aload_n 0, 1) := by decide +kernel
theorem dX4_whatIs_12 : decode cX4_whatIs 12 = .ok (.iconst (-1), 1) := by decide +kernel
theorem dX4_whatIs_13 : decode cX4_whatIs 13 = .ok (.invokevirtual 51, 3) := by decide +kernel
theorem dX4_whatIs_16 : decode cX4_whatIs 16 = .ok (.ireturn, 1) := by decide +kernel
theorem dX4_whatIs_17 : decode cX4_whatIs 17 = .ok (.iload_n 2, 1) := by decide +kernel
theorem dX4_whatIs_18 : decode cX4_whatIs 18 = .ok (.lookupswitch 72 #[(0, 26), (1, 49)], 26) := by decide +kernel
theorem dX4_whatIs_44 : decode cX4_whatIs 44 = .ok (.aload_n 0, 1) := by decide +kernel
theorem dX4_whatIs_45 : decode cX4_whatIs 45 = .ok (.aload_n 0, 1) := by decide +kernel
theorem dX4_whatIs_46 : decode cX4_whatIs 46 = .ok (.getfield 10, 3) := by decide +kernel
theorem dX4_whatIs_49 : decode cX4_whatIs 49 = .ok (.getfield 81, 3) := by decide +kernel
theorem dX4_whatIs_52 : decode cX4_whatIs 52 = .ok (.iload_n 1, 1) := by decide +kernel
theorem dX4_whatIs_53 : decode cX4_whatIs 53 = .ok (.iaload, 1) := by decide +kernel
theorem dX4_whatIs_54 : decode cX4_whatIs 54 = .ok (.aload_n 0, 1) := by decide +kernel
theorem dX4_whatIs_55 : decode cX4_whatIs 55 = .ok (.getfield 10, 3) := by decide +kernel
theorem dX4_whatIs_58 : decode cX4_whatIs 58 = .ok (.getfield 90, 3) := by decide +kernel
theorem dX4_whatIs_61 : decode cX4_whatIs 61 = .ok (.iload_n 1, 1) := by decide +kernel
theorem dX4_whatIs_62 : decode cX4_whatIs 62 = .ok (.iaload, 1) := by decide +kernel
theorem dX4_whatIs_63 : decode cX4_whatIs 63 = .ok (.invokevirtual 270, 3) := by decide +kernel
theorem dX4_whatIs_66 : decode cX4_whatIs 66 = .ok (.ireturn, 1) := by decide +kernel
theorem dX4_whatIs_67 : decode cX4_whatIs 67 = .ok (.aload_n 0, 1) := by decide +kernel
theorem dX4_whatIs_68 : decode cX4_whatIs 68 = .ok (.aload_n 0, 1) := by decide +kernel
theorem dX4_whatIs_69 : decode cX4_whatIs 69 = .ok (.getfield 10, 3) := by decide +kernel
theorem dX4_whatIs_72 : decode cX4_whatIs 72 = .ok (.getfield 78, 3) := by decide +kernel
theorem dX4_whatIs_75 : decode cX4_whatIs 75 = .ok (.iload_n 1, 1) := by decide +kernel
theorem dX4_whatIs_76 : decode cX4_whatIs 76 = .ok (.iaload, 1) := by decide +kernel
theorem dX4_whatIs_77 : decode cX4_whatIs 77 = .ok (.aload_n 0, 1) := by decide +kernel
theorem dX4_whatIs_78 : decode cX4_whatIs 78 = .ok (.getfield 10, 3) := by decide +kernel
theorem dX4_whatIs_81 : decode cX4_whatIs 81 = .ok (.getfield 90, 3) := by decide +kernel
theorem dX4_whatIs_84 : decode cX4_whatIs 84 = .ok (.iload_n 1, 1) := by decide +kernel
theorem dX4_whatIs_85 : decode cX4_whatIs 85 = .ok (.iaload, 1) := by decide +kernel
theorem dX4_whatIs_86 : decode cX4_whatIs 86 = .ok (.invokevirtual 273, 3) := by decide +kernel
theorem dX4_whatIs_89 : decode cX4_whatIs 89 = .ok (.ireturn, 1) := by decide +kernel
theorem dX4_whatIs_90 : decode cX4_whatIs 90 = .ok (.aload_n 0, 1) := by decide +kernel
theorem dX4_whatIs_91 : decode cX4_whatIs 91 = .ok (.bipush (-2), 2) := by decide +kernel
theorem dX4_whatIs_93 : decode cX4_whatIs 93 = .ok (.invokevirtual 51, 3) := by decide +kernel
theorem dX4_whatIs_96 : decode cX4_whatIs 96 = .ok (.ireturn, 1) := by decide +kernel
theorem dX4_kindsTold_0 : decode cX4_kindsTold 0 = .ok (.iconst 0, 1) := by decide +kernel
theorem dX4_kindsTold_1 : decode cX4_kindsTold 1 = .ok (.istore_n 3, 1) := by decide +kernel
theorem dX4_kindsTold_2 : decode cX4_kindsTold 2 = .ok (.iconst 0, 1) := by decide +kernel
theorem dX4_kindsTold_3 : decode cX4_kindsTold 3 = .ok (.istore 4, 2) := by decide +kernel
theorem dX4_kindsTold_5 : decode cX4_kindsTold 5 = .ok (.iload 4, 2) := by decide +kernel
theorem dX4_kindsTold_7 : decode cX4_kindsTold 7 = .ok (.bipush 6, 2) := by decide +kernel
theorem dX4_kindsTold_9 : decode cX4_kindsTold 9 = .ok (.if_icmp .ge 27, 3) := by decide +kernel
theorem dX4_kindsTold_12 : decode cX4_kindsTold 12 = .ok (.aload_n 0, 1) := by decide +kernel
theorem dX4_kindsTold_13 : decode cX4_kindsTold 13 = .ok (.iload 4, 2) := by decide +kernel
theorem dX4_kindsTold_15 : decode cX4_kindsTold 15 = .ok (.iload_n 1, 1) := by decide +kernel
theorem dX4_kindsTold_16 : decode cX4_kindsTold 16 = .ok (.iload_n 2, 1) := by decide +kernel
theorem dX4_kindsTold_17 : decode cX4_kindsTold 17 = .ok (.invokevirtual 267, 3) := by decide +kernel
theorem dX4_kindsTold_20 : decode cX4_kindsTold 20 = .ok (.ifCond .eq 10, 3) := by decide +kernel
theorem dX4_kindsTold_23 : decode cX4_kindsTold 23 = .ok (.iload_n 3, 1) := by decide +kernel
theorem dX4_kindsTold_24 : decode cX4_kindsTold 24 = .ok (.iconst 1, 1) := by decide +kernel
theorem dX4_kindsTold_25 : decode cX4_kindsTold 25 = .ok (.iload 4, 2) := by decide +kernel
theorem dX4_kindsTold_27 : decode cX4_kindsTold 27 = .ok (.ishl, 1) := by decide +kernel
theorem dX4_kindsTold_28 : decode cX4_kindsTold 28 = .ok (.ior, 1) := by decide +kernel
theorem dX4_kindsTold_29 : decode cX4_kindsTold 29 = .ok (.istore_n 3, 1) := by decide +kernel
theorem dX4_kindsTold_30 : decode cX4_kindsTold 30 = .ok (.iinc 4 1, 3) := by decide +kernel
theorem dX4_kindsTold_33 : decode cX4_kindsTold 33 = .ok (.goto (-28), 3) := by decide +kernel
theorem dX4_kindsTold_36 : decode cX4_kindsTold 36 = .ok (.iload_n 3, 1) := by decide +kernel
theorem dX4_kindsTold_37 : decode cX4_kindsTold 37 = .ok (.ireturn, 1) := by decide +kernel
theorem dX4_figuresTold_0 : decode cX4_figuresTold 0 = .ok (.iconst 0, 1) := by decide +kernel
theorem dX4_figuresTold_1 : decode cX4_figuresTold 1 = .ok (.istore_n 3, 1) := by decide +kernel
theorem dX4_figuresTold_2 : decode cX4_figuresTold 2 = .ok (.iconst 0, 1) := by decide +kernel
theorem dX4_figuresTold_3 : decode cX4_figuresTold 3 = .ok (.istore 4, 2) := by decide +kernel
theorem dX4_figuresTold_5 : decode cX4_figuresTold 5 = .ok (.iload 4, 2) := by decide +kernel
theorem dX4_figuresTold_7 : decode cX4_figuresTold 7 = .ok (.bipush 9, 2) := by decide +kernel
theorem dX4_figuresTold_9 : decode cX4_figuresTold 9 = .ok (.if_icmp .gt 27, 3) := by decide +kernel
theorem dX4_figuresTold_12 : decode cX4_figuresTold 12 = .ok (.aload_n 0, 1) := by decide +kernel
theorem dX4_figuresTold_13 : decode cX4_figuresTold 13 = .ok (.iload_n 1, 1) := by decide +kernel
theorem dX4_figuresTold_14 : decode cX4_figuresTold 14 = .ok (.iload 4, 2) := by decide +kernel
theorem dX4_figuresTold_16 : decode cX4_figuresTold 16 = .ok (.iload_n 2, 1) := by decide +kernel
theorem dX4_figuresTold_17 : decode cX4_figuresTold 17 = .ok (.invokevirtual 267, 3) := by decide +kernel
theorem dX4_figuresTold_20 : decode cX4_figuresTold 20 = .ok (.ifCond .eq 10, 3) := by decide +kernel
theorem dX4_figuresTold_23 : decode cX4_figuresTold 23 = .ok (.iload_n 3, 1) := by decide +kernel
theorem dX4_figuresTold_24 : decode cX4_figuresTold 24 = .ok (.iconst 1, 1) := by decide +kernel
theorem dX4_figuresTold_25 : decode cX4_figuresTold 25 = .ok (.iload 4, 2) := by decide +kernel
theorem dX4_figuresTold_27 : decode cX4_figuresTold 27 = .ok (.ishl, 1) := by decide +kernel
theorem dX4_figuresTold_28 : decode cX4_figuresTold 28 = .ok (.ior, 1) := by decide +kernel
theorem dX4_figuresTold_29 : decode cX4_figuresTold 29 = .ok (.istore_n 3, 1) := by decide +kernel
theorem dX4_figuresTold_30 : decode cX4_figuresTold 30 = .ok (.iinc 4 1, 3) := by decide +kernel
theorem dX4_figuresTold_33 : decode cX4_figuresTold 33 = .ok (.goto (-28), 3) := by decide +kernel
theorem dX4_figuresTold_36 : decode cX4_figuresTold 36 = .ok (.iload_n 3, 1) := by decide +kernel
theorem dX4_figuresTold_37 : decode cX4_figuresTold 37 = .ok (.ireturn, 1) := by decide +kernel
theorem dX4_rowTells_0 : decode cX4_rowTells 0 = .ok (.iconst 0, 1) := by decide +kernel
theorem dX4_rowTells_1 : decode cX4_rowTells 1 = .ok (.istore 4, 2) := by decide +kernel
theorem dX4_rowTells_3 : decode cX4_rowTells 3 = .ok (.iload 4, 2) := by decide +kernel
theorem dX4_rowTells_5 : decode cX4_rowTells 5 = .ok (.aload_n 0, 1) := by decide +kernel
theorem dX4_rowTells_6 : decode cX4_rowTells 6 = .ok (.getfield 44, 3) := by decide +kernel
theorem dX4_rowTells_9 : decode cX4_rowTells 9 = .ok (.if_icmp .ge 29, 3) := by decide +kernel
theorem dX4_rowTells_12 : decode cX4_rowTells 12 = .ok (.aload_n 0, 1) := by decide +kernel
theorem dX4_rowTells_13 : decode cX4_rowTells 13 = .ok (.getfield 40, 3) := by decide +kernel
theorem dX4_rowTells_16 : decode cX4_rowTells 16 = .ok (.iload 4, 2) := by decide +kernel
theorem dX4_rowTells_18 : decode cX4_rowTells 18 = .ok (.iaload, 1) := by decide +kernel
theorem dX4_rowTells_19 : decode cX4_rowTells 19 = .ok (.iload_n 1, 1) := by decide +kernel
theorem dX4_rowTells_20 : decode cX4_rowTells 20 = .ok (.iload_n 2, 1) := by decide +kernel
theorem dX4_rowTells_21 : decode cX4_rowTells 21 = .ok (.iload_n 3, 1) := by decide +kernel
theorem dX4_rowTells_22 : decode cX4_rowTells 22 = .ok (.iload 4, 2) := by decide +kernel
theorem dX4_rowTells_24 : decode cX4_rowTells 24 = .ok (.invokestatic 252, 3) := by decide +kernel
theorem dX4_rowTells_27 : decode cX4_rowTells 27 = .ok (.if_icmp .eq 5, 3) := by decide +kernel
theorem dX4_rowTells_30 : decode cX4_rowTells 30 = .ok (.iconst 0, 1) := by decide +kernel
theorem dX4_rowTells_31 : decode cX4_rowTells 31 = .ok (.ireturn, 1) := by decide +kernel
theorem dX4_rowTells_32 : decode cX4_rowTells 32 = .ok (.iinc 4 1, 3) := by decide +kernel
theorem dX4_rowTells_35 : decode cX4_rowTells 35 = .ok (.goto (-32), 3) := by decide +kernel
theorem dX4_rowTells_38 : decode cX4_rowTells 38 = .ok (.iconst 1, 1) := by decide +kernel
theorem dX4_rowTells_39 : decode cX4_rowTells 39 = .ok (.ireturn, 1) := by decide +kernel
theorem dX4_lots_0 : decode cX4_lots 0 = .ok (.iload_n 1, 1) := by decide +kernel
theorem dX4_lots_1 : decode cX4_lots 1 = .ok (.iconst 1, 1) := by decide +kernel
theorem dX4_lots_2 : decode cX4_lots 2 = .ok (.bipush 20, 2) := by decide +kernel
theorem dX4_lots_4 : decode cX4_lots 4 = .ok (.invokestatic 122, 3) := by decide +kernel
theorem dX4_lots_7 : decode cX4_lots 7 = .ok (.istore 4, 2) := by decide +kernel
theorem dX4_lots_9 : decode cX4_lots 9 = .ok (.iload 4, 2) := by decide +kernel
theorem dX4_lots_11 : decode cX4_lots 11 = .ok (.ifCond .ge 10, 3) := by decide +kernel
theorem dX4_lots_14 : decode cX4_lots 14 = .ok (.aload_n 0, 1) := by decide +kernel
theorem dX4_lots_15 : decode cX4_lots 15 = .ok (.iload 4, 2) := by decide +kernel
theorem dX4_lots_17 : decode cX4_lots 17 = .ok (.invokevirtual 51, 3) := by decide +kernel
theorem dX4_lots_20 : decode cX4_lots 20 = .ok (.ireturn, 1) := by decide +kernel
theorem dX4_lots_21 : decode cX4_lots 21 = .ok (.iload_n 3, 1) := by decide +kernel
theorem dX4_lots_22 : decode cX4_lots 22 = .ok (.ifCond .eq 15, 3) := by decide +kernel
theorem dX4_lots_25 : decode cX4_lots 25 = .ok (.iload_n 3, 1) := by decide +kernel
theorem dX4_lots_26 : decode cX4_lots 26 = .ok (.iconst 1, 1) := by decide +kernel
theorem dX4_lots_27 : decode cX4_lots 27 = .ok (.if_icmp .eq 10, 3) := by decide +kernel
theorem dX4_lots_30 : decode cX4_lots 30 = .ok (.aload_n 0, 1) := by decide +kernel
theorem dX4_lots_31 : decode cX4_lots 31 = .ok (.bipush (-2), 2) := by decide +kernel
theorem dX4_lots_33 : decode cX4_lots 33 = .ok (.invokevirtual 51, 3) := by decide +kernel
theorem dX4_lots_36 : decode cX4_lots 36 = .ok (.ireturn, 1) := by decide +kernel
theorem dX4_lots_37 : decode cX4_lots 37 = .ok (.aload_n 0, 1) := by decide +kernel
theorem dX4_lots_38 : decode cX4_lots 38 = .ok (.getfield 10, 3) := by decide +kernel
theorem dX4_lots_41 : decode cX4_lots 41 = .ok (.getfield 226, 3) := by decide +kernel
theorem dX4_lots_44 : decode cX4_lots 44 = .ok (.iconst 1, 1) := by decide +kernel
theorem dX4_lots_45 : decode cX4_lots 45 = .ok (.if_icmp .lt 14, 3) := by decide +kernel
theorem dX4_lots_48 : decode cX4_lots 48 = .ok (.aload_n 0, 1) := by decide +kernel
theorem dX4_lots_49 : decode cX4_lots 49 = .ok (.getfield 10, 3) := by decide +kernel
theorem dX4_lots_52 : decode cX4_lots 52 = .ok (.getfield 161, 3) := by decide +kernel
theorem dX4_lots_55 : decode cX4_lots 55 = .ok (.iconst 1, 1) := by decide +kernel
theorem dX4_lots_56 : decode cX4_lots 56 = .ok (.if_icmp .ge 10, 3) := by decide +kernel
theorem dX4_lots_59 : decode cX4_lots 59 = .ok (.aload_n 0, 1) := by decide +kernel
theorem dX4_lots_60 : decode cX4_lots 60 = .ok (.bipush (-3), 2) := by decide +kernel
theorem dX4_lots_62 : decode cX4_lots 62 = .ok (.invokevirtual 51, 3) := by decide +kernel
theorem dX4_lots_65 : decode cX4_lots 65 = .ok (.ireturn, 1) := by decide +kernel
theorem dX4_lots_66 : decode cX4_lots 66 = .ok (.iload_n 2, 1) := by decide +kernel
theorem dX4_lots_67 : decode cX4_lots 67 = .ok (.istore 5, 2) := by decide +kernel
theorem dX4_lots_69 : decode cX4_lots 69 = .ok (.iconst 0, 1) := by decide +kernel
theorem dX4_lots_70 : decode cX4_lots 70 = .ok (.istore 6, 2) := by decide +kernel
theorem dX4_lots_72 : decode cX4_lots 72 = .ok (.iconst 0, 1) := by decide +kernel
theorem dX4_lots_73 : decode cX4_lots 73 = .ok (.istore 7, 2) := by decide +kernel
theorem dX4_lots_75 : decode cX4_lots 75 = .ok (.iload 7, 2) := by decide +kernel
theorem dX4_lots_77 : decode cX4_lots 77 = .ok (.iload_n 1, 1) := by decide +kernel
theorem dX4_lots_78 : decode cX4_lots 78 = .ok (.if_icmp .ge 43, 3) := by decide +kernel
theorem dX4_lots_81 : decode cX4_lots 81 = .ok (.aload_n 0, 1) := by decide +kernel
theorem dX4_lots_82 : decode cX4_lots 82 = .ok (.iload 5, 2) := by decide +kernel
theorem dX4_lots_84 : decode cX4_lots 84 = .ok (.invokevirtual 276, 3) := by decide +kernel
theorem dX4_lots_87 : decode cX4_lots 87 = .ok (.istore 5, 2) := by decide +kernel
theorem dX4_lots_89 : decode cX4_lots 89 = .ok (.iload 6, 2) := by decide +kernel
theorem dX4_lots_91 : decode cX4_lots 91 = .ok (.iload_n 3, 1) := by decide +kernel
theorem dX4_lots_92 : decode cX4_lots 92 = .ok (.ifCond .ne 13, 3) := by decide +kernel
theorem dX4_lots_95 : decode cX4_lots 95 = .ok (.aload_n 0, 1) := by decide +kernel
theorem dX4_lots_96 : decode cX4_lots 96 = .ok (.getfield 16, 3) := by decide +kernel
theorem dX4_lots_99 : decode cX4_lots 99 = .ok (.invokevirtual 139, 3) := by decide +kernel
theorem dX4_lots_102 : decode cX4_lots 102 = .ok (.goto 10, 3) := by decide +kernel
theorem dX4_lots_105 : decode cX4_lots 105 = .ok (.aload_n 0, 1) := by decide +kernel
theorem dX4_lots_106 : decode cX4_lots 106 = .ok (.getfield 16, 3) := by decide +kernel
theorem dX4_lots_109 : decode cX4_lots 109 = .ok (.invokevirtual 279, 3) := by decide +kernel
theorem dX4_lots_112 : decode cX4_lots 112 = .ok (.iadd, 1) := by decide +kernel
theorem dX4_lots_113 : decode cX4_lots 113 = .ok (.istore 6, 2) := by decide +kernel
theorem dX4_lots_115 : decode cX4_lots 115 = .ok (.iinc 7 1, 3) := by decide +kernel
theorem dX4_lots_118 : decode cX4_lots 118 = .ok (.goto (-43), 3) := by decide +kernel
theorem dX4_lots_121 : decode cX4_lots 121 = .ok (.iload 6, 2) := by decide +kernel
theorem dX4_lots_123 : decode cX4_lots 123 = .ok (.ireturn, 1) := by decide +kernel
theorem dX4_dayByLot_0 : decode cX4_dayByLot 0 = .ok (.iload_n 1, 1) := by decide +kernel
theorem dX4_dayByLot_1 : decode cX4_dayByLot 1 = .ok (.istore_n 2, 1) := by decide +kernel
theorem dX4_dayByLot_2 : decode cX4_dayByLot 2 = .ok (.aload_n 0, 1) := by decide +kernel
theorem dX4_dayByLot_3 : decode cX4_dayByLot 3 = .ok (.getfield 16, 3) := by decide +kernel
theorem dX4_dayByLot_6 : decode cX4_dayByLot 6 = .ok (.aload_n 0, 1) := by decide +kernel
theorem dX4_dayByLot_7 : decode cX4_dayByLot 7 = .ok (.getfield 10, 3) := by decide +kernel
theorem dX4_dayByLot_10 : decode cX4_dayByLot 10 = .ok (.invokevirtual 66, 3) := by decide +kernel
theorem dX4_dayByLot_13 : decode cX4_dayByLot 13 = .ok (.iconst 0, 1) := by decide +kernel
theorem dX4_dayByLot_14 : decode cX4_dayByLot 14 = .ok (.istore_n 3, 1) := by decide +kernel
theorem dX4_dayByLot_15 : decode cX4_dayByLot 15 = .ok (.iload_n 3, 1) := by decide +kernel
theorem dX4_dayByLot_16 : decode cX4_dayByLot 16 = .ok (.bipush 12, 2) := by decide +kernel
theorem dX4_dayByLot_18 : decode cX4_dayByLot 18 = .ok (.if_icmp .ge 70, 3) := by decide +kernel
theorem dX4_dayByLot_21 : decode cX4_dayByLot 21 = .ok (.iload_n 2, 1) := by decide +kernel
theorem dX4_dayByLot_22 : decode cX4_dayByLot 22 = .ok (.invokestatic 282, 3) := by decide +kernel
theorem dX4_dayByLot_25 : decode cX4_dayByLot 25 = .ok (.istore_n 2, 1) := by decide +kernel
theorem dX4_dayByLot_26 : decode cX4_dayByLot 26 = .ok (.iload_n 2, 1) := by decide +kernel
theorem dX4_dayByLot_27 : decode cX4_dayByLot 27 = .ok (.aload_n 0, 1) := by decide +kernel
theorem dX4_dayByLot_28 : decode cX4_dayByLot 28 = .ok (.getfield 16, 3) := by decide +kernel
theorem dX4_dayByLot_31 : decode cX4_dayByLot 31 = .ok (.getfield 226, 3) := by decide +kernel
theorem dX4_dayByLot_34 : decode cX4_dayByLot 34 = .ok (.invokestatic 285, 3) := by decide +kernel
theorem dX4_dayByLot_37 : decode cX4_dayByLot 37 = .ok (.istore 4, 2) := by decide +kernel
theorem dX4_dayByLot_39 : decode cX4_dayByLot 39 = .ok (.iload_n 2, 1) := by decide +kernel
theorem dX4_dayByLot_40 : decode cX4_dayByLot 40 = .ok (.invokestatic 282, 3) := by decide +kernel
theorem dX4_dayByLot_43 : decode cX4_dayByLot 43 = .ok (.istore_n 2, 1) := by decide +kernel
theorem dX4_dayByLot_44 : decode cX4_dayByLot 44 = .ok (.iload_n 2, 1) := by decide +kernel
theorem dX4_dayByLot_45 : decode cX4_dayByLot 45 = .ok (.aload_n 0, 1) := by decide +kernel
theorem dX4_dayByLot_46 : decode cX4_dayByLot 46 = .ok (.getfield 16, 3) := by decide +kernel
theorem dX4_dayByLot_49 : decode cX4_dayByLot 49 = .ok (.getfield 161, 3) := by decide +kernel
theorem dX4_dayByLot_52 : decode cX4_dayByLot 52 = .ok (.invokestatic 285, 3) := by decide +kernel
theorem dX4_dayByLot_55 : decode cX4_dayByLot 55 = .ok (.istore 5, 2) := by decide +kernel
theorem dX4_dayByLot_57 : decode cX4_dayByLot 57 = .ok (.aload_n 0, 1) := by decide +kernel
theorem dX4_dayByLot_58 : decode cX4_dayByLot 58 = .ok (.getfield 16, 3) := by decide +kernel
theorem dX4_dayByLot_61 : decode cX4_dayByLot 61 = .ok (.iload 4, 2) := by decide +kernel
theorem dX4_dayByLot_63 : decode cX4_dayByLot 63 = .ok (.iload 5, 2) := by decide +kernel
theorem dX4_dayByLot_65 : decode cX4_dayByLot 65 = .ok (.invokevirtual 114, 3) := by decide +kernel
theorem dX4_dayByLot_68 : decode cX4_dayByLot 68 = .ok (.ifCond .eq 14, 3) := by decide +kernel
theorem dX4_dayByLot_71 : decode cX4_dayByLot 71 = .ok (.aload_n 0, 1) := by decide +kernel
theorem dX4_dayByLot_72 : decode cX4_dayByLot 72 = .ok (.getfield 16, 3) := by decide +kernel
theorem dX4_dayByLot_75 : decode cX4_dayByLot 75 = .ok (.iload 4, 2) := by decide +kernel
theorem dX4_dayByLot_77 : decode cX4_dayByLot 77 = .ok (.iload 5, 2) := by decide +kernel
theorem dX4_dayByLot_79 : decode cX4_dayByLot 79 = .ok (.invokevirtual 118, 3) := by decide +kernel
theorem dX4_dayByLot_82 : decode cX4_dayByLot 82 = .ok (.iinc 3 1, 3) := by decide +kernel
theorem dX4_dayByLot_85 : decode cX4_dayByLot 85 = .ok (.goto (-70), 3) := by decide +kernel
theorem dX4_dayByLot_88 : decode cX4_dayByLot 88 = .ok (.aload_n 0, 1) := by decide +kernel
theorem dX4_dayByLot_89 : decode cX4_dayByLot 89 = .ok (.getfield 16, 3) := by decide +kernel
theorem dX4_dayByLot_92 : decode cX4_dayByLot 92 = .ok (.iconst 1, 1) := by decide +kernel
theorem dX4_dayByLot_93 : decode cX4_dayByLot 93 = .ok (.invokevirtual 136, 3) := by decide +kernel
theorem dX4_dayByLot_96 : decode cX4_dayByLot 96 = .ok (.iload_n 2, 1) := by decide +kernel
theorem dX4_dayByLot_97 : decode cX4_dayByLot 97 = .ok (.ireturn, 1) := by decide +kernel
theorem dX4_nextSeed_0 : decode cX4_nextSeed 0 = .ok (.iload_n 0, 1) := by decide +kernel
theorem dX4_nextSeed_1 : decode cX4_nextSeed 1 = .ok (.ldc_w 288, 3) := by decide +kernel
theorem dX4_nextSeed_4 : decode cX4_nextSeed 4 = .ok (.imul, 1) := by decide +kernel
theorem dX4_nextSeed_5 : decode cX4_nextSeed 5 = .ok (.ldc_w 289, 3) := by decide +kernel
theorem dX4_nextSeed_8 : decode cX4_nextSeed 8 = .ok (.iadd, 1) := by decide +kernel
theorem dX4_nextSeed_9 : decode cX4_nextSeed 9 = .ok (.ireturn, 1) := by decide +kernel
theorem dX4_drawn_0 : decode cX4_drawn 0 = .ok (.iload_n 1, 1) := by decide +kernel
theorem dX4_drawn_1 : decode cX4_drawn 1 = .ok (.iconst 1, 1) := by decide +kernel
theorem dX4_drawn_2 : decode cX4_drawn 2 = .ok (.if_icmp .ge 7, 3) := by decide +kernel
theorem dX4_drawn_5 : decode cX4_drawn 5 = .ok (.iconst 0, 1) := by decide +kernel
theorem dX4_drawn_6 : decode cX4_drawn 6 = .ok (.goto 14, 3) := by decide +kernel
theorem dX4_drawn_9 : decode cX4_drawn 9 = .ok (.iload_n 0, 1) := by decide +kernel
theorem dX4_drawn_10 : decode cX4_drawn 10 = .ok (.ldc_w 290, 3) := by decide +kernel
theorem dX4_drawn_13 : decode cX4_drawn 13 = .ok (.iand, 1) := by decide +kernel
theorem dX4_drawn_14 : decode cX4_drawn 14 = .ok (.sipush 256, 3) := by decide +kernel
theorem dX4_drawn_17 : decode cX4_drawn 17 = .ok (.idiv, 1) := by decide +kernel
theorem dX4_drawn_18 : decode cX4_drawn 18 = .ok (.iload_n 1, 1) := by decide +kernel
theorem dX4_drawn_19 : decode cX4_drawn 19 = .ok (.irem, 1) := by decide +kernel
theorem dX4_drawn_20 : decode cX4_drawn 20 = .ok (.ireturn, 1) := by decide +kernel
theorem dX4_image_0 : decode cX4_image 0 = .ok (.aload_n 0, 1) := by decide +kernel
theorem dX4_image_1 : decode cX4_image 1 = .ok (.getfield 19, 3) := by decide +kernel
theorem dX4_image_4 : decode cX4_image 4 = .ok (.aload_n 0, 1) := by decide +kernel
theorem dX4_image_5 : decode cX4_image 5 = .ok (.getfield 10, 3) := by decide +kernel
theorem dX4_image_8 : decode cX4_image 8 = .ok (.invokevirtual 66, 3) := by decide +kernel
theorem dX4_image_11 : decode cX4_image 11 = .ok (.aload_n 0, 1) := by decide +kernel
theorem dX4_image_12 : decode cX4_image 12 = .ok (.iconst 1, 1) := by decide +kernel
theorem dX4_image_13 : decode cX4_image 13 = .ok (.putfield 22, 3) := by decide +kernel
theorem dX4_image_16 : decode cX4_image 16 = .ok (.aload_n 0, 1) := by decide +kernel
theorem dX4_image_17 : decode cX4_image 17 = .ok (.getfield 10, 3) := by decide +kernel
theorem dX4_image_20 : decode cX4_image 20 = .ok (.getfield 133, 3) := by decide +kernel
theorem dX4_image_23 : decode cX4_image 23 = .ok (.ireturn, 1) := by decide +kernel
theorem dX4_on_0 : decode cX4_on 0 = .ok (.aload_n 0, 1) := by decide +kernel
theorem dX4_on_1 : decode cX4_on 1 = .ok (.getfield 22, 3) := by decide +kernel
theorem dX4_on_4 : decode cX4_on 4 = .ok (.ifCond .ne 10, 3) := by decide +kernel
theorem dX4_on_7 : decode cX4_on 7 = .ok (.aload_n 0, 1) := by decide +kernel
theorem dX4_on_8 : decode cX4_on 8 = .ok (.bipush (-3), 2) := by decide +kernel
theorem dX4_on_10 : decode cX4_on 10 = .ok (.invokevirtual 51, 3) := by decide +kernel
theorem dX4_on_13 : decode cX4_on 13 = .ok (.ireturn, 1) := by decide +kernel
theorem dX4_on_14 : decode cX4_on 14 = .ok (.aload_n 0, 1) := by decide +kernel
theorem dX4_on_15 : decode cX4_on 15 = .ok (.getfield 10, 3) := by decide +kernel
theorem dX4_on_18 : decode cX4_on 18 = .ok (.aload_n 0, 1) := by decide +kernel
theorem dX4_on_19 : decode cX4_on 19 = .ok (.getfield 19, 3) := by decide +kernel
theorem dX4_on_22 : decode cX4_on 22 = .ok (.invokevirtual 66, 3) := by decide +kernel
theorem dX4_on_25 : decode cX4_on 25 = .ok (.aload_n 0, 1) := by decide +kernel
theorem dX4_on_26 : decode cX4_on 26 = .ok (.getfield 10, 3) := by decide +kernel
theorem dX4_on_29 : decode cX4_on 29 = .ok (.getfield 133, 3) := by decide +kernel
theorem dX4_on_32 : decode cX4_on 32 = .ok (.ireturn, 1) := by decide +kernel
theorem dX4_count_0 : decode cX4_count 0 = .ok (.iload_n 1, 1) := by decide +kernel
theorem dX4_count_1 : decode cX4_count 1 = .ok (.tableswitch 124 0 7 #[47, 55, 63, 71, 79, 87, 111, 116], 47) := by decide +kernel
theorem dX4_count_48 : decode cX4_count 48 = .ok (.aload_n 0, 1) := by decide +kernel
theorem dX4_count_49 : decode cX4_count 49 = .ok (.getfield 10, 3) := by decide +kernel
theorem dX4_count_52 : decode cX4_count 52 = .ok (.getfield 161, 3) := by decide +kernel
theorem dX4_count_55 : decode cX4_count 55 = .ok (.ireturn, 1) := by decide +kernel
theorem dX4_count_56 : decode cX4_count 56 = .ok (.aload_n 0, 1) := by decide +kernel
theorem dX4_count_57 : decode cX4_count 57 = .ok (.getfield 10, 3) := by decide +kernel
theorem dX4_count_60 : decode cX4_count 60 = .ok (.getfield 226, 3) := by decide +kernel
theorem dX4_count_63 : decode cX4_count 63 = .ok (.ireturn, 1) := by decide +kernel
theorem dX4_count_64 : decode cX4_count 64 = .ok (.aload_n 0, 1) := by decide +kernel
theorem dX4_count_65 : decode cX4_count 65 = .ok (.getfield 10, 3) := by decide +kernel
theorem dX4_count_68 : decode cX4_count 68 = .ok (.getfield 133, 3) := by decide +kernel
theorem dX4_count_71 : decode cX4_count 71 = .ok (.ireturn, 1) := by decide +kernel
theorem dX4_count_72 : decode cX4_count 72 = .ok (.aload_n 0, 1) := by decide +kernel
theorem dX4_count_73 : decode cX4_count 73 = .ok (.getfield 10, 3) := by decide +kernel
theorem dX4_count_76 : decode cX4_count 76 = .ok (.invokevirtual 139, 3) := by decide +kernel
theorem dX4_count_79 : decode cX4_count 79 = .ok (.ireturn, 1) := by decide +kernel
theorem dX4_count_80 : decode cX4_count 80 = .ok (.aload_n 0, 1) := by decide +kernel
theorem dX4_count_81 : decode cX4_count 81 = .ok (.getfield 10, 3) := by decide +kernel
theorem dX4_count_84 : decode cX4_count 84 = .ok (.invokevirtual 279, 3) := by decide +kernel
theorem dX4_count_87 : decode cX4_count 87 = .ok (.ireturn, 1) := by decide +kernel
theorem dX4_count_88 : decode cX4_count 88 = .ok (.iconst 1, 1) := by decide +kernel
theorem dX4_count_89 : decode cX4_count 89 = .ok (.aload_n 0, 1) := by decide +kernel
theorem dX4_count_90 : decode cX4_count 90 = .ok (.getfield 10, 3) := by decide +kernel
theorem dX4_count_93 : decode cX4_count 93 = .ok (.getfield 161, 3) := by decide +kernel
theorem dX4_count_96 : decode cX4_count 96 = .ok (.ishl, 1) := by decide +kernel
theorem dX4_count_97 : decode cX4_count 97 = .ok (.iconst 1, 1) := by decide +kernel
theorem dX4_count_98 : decode cX4_count 98 = .ok (.isub, 1) := by decide +kernel
theorem dX4_count_99 : decode cX4_count 99 = .ok (.aload_n 0, 1) := by decide +kernel
theorem dX4_count_100 : decode cX4_count 100 = .ok (.getfield 10, 3) := by decide +kernel
theorem dX4_count_103 : decode cX4_count 103 = .ok (.bipush 9, 2) := by decide +kernel
theorem dX4_count_105 : decode cX4_count 105 = .ok (.invokevirtual 217, 3) := by decide +kernel
theorem dX4_count_108 : decode cX4_count 108 = .ok (.iconst (-1), 1) := by decide +kernel
theorem dX4_count_109 : decode cX4_count 109 = .ok (.ixor, 1) := by decide +kernel
theorem dX4_count_110 : decode cX4_count 110 = .ok (.iand, 1) := by decide +kernel
theorem dX4_count_111 : decode cX4_count 111 = .ok (.ireturn, 1) := by decide +kernel
theorem dX4_count_112 : decode cX4_count 112 = .ok (.aload_n 0, 1) := by decide +kernel
theorem dX4_count_113 : decode cX4_count 113 = .ok (.getfield 44, 3) := by decide +kernel
theorem dX4_count_116 : decode cX4_count 116 = .ok (.ireturn, 1) := by decide +kernel
theorem dX4_count_117 : decode cX4_count 117 = .ok (.aload_n 0, 1) := by decide +kernel
theorem dX4_count_118 : decode cX4_count 118 = .ok (.getfield 29, 3) := by decide +kernel
theorem dX4_count_121 : decode cX4_count 121 = .ok (.getfield 55, 3) := by decide +kernel
theorem dX4_count_124 : decode cX4_count 124 = .ok (.ireturn, 1) := by decide +kernel
theorem dX4_count_125 : decode cX4_count 125 = .ok (.aload_n 0, 1) := by decide +kernel
theorem dX4_count_126 : decode cX4_count 126 = .ok (.iload_n 1, 1) := by decide +kernel
theorem dX4_count_127 : decode cX4_count 127 = .ok (.bipush 10, 2) := by decide +kernel
theorem dX4_count_129 : decode cX4_count 129 = .ok (.isub, 1) := by decide +kernel
theorem dX4_count_130 : decode cX4_count 130 = .ok (.invokevirtual 291, 3) := by decide +kernel
theorem dX4_count_133 : decode cX4_count 133 = .ok (.ireturn, 1) := by decide +kernel
theorem dX4_refusalsCounted_0 : decode cX4_refusalsCounted 0 = .ok (.iload_n 1, 1) := by decide +kernel
theorem dX4_refusalsCounted_1 : decode cX4_refusalsCounted 1 = .ok (.iconst 1, 1) := by decide +kernel
theorem dX4_refusalsCounted_2 : decode cX4_refusalsCounted 2 = .ok (.if_icmp .lt 9, 3) := by decide +kernel
theorem dX4_refusalsCounted_5 : decode cX4_refusalsCounted 5 = .ok (.iload_n 1, 1) := by decide +kernel
theorem dX4_refusalsCounted_6 : decode cX4_refusalsCounted 6 = .ok (.bipush 6, 2) := by decide +kernel
theorem dX4_refusalsCounted_8 : decode cX4_refusalsCounted 8 = .ok (.if_icmp .le 8, 3) := by decide +kernel
theorem dX4_refusalsCounted_11 : decode cX4_refusalsCounted 11 = .ok (.bipush (-9), 2) := by decide +kernel
theorem dX4_refusalsCounted_13 : decode cX4_refusalsCounted 13 = .ok (.goto 9, 3) := by decide +kernel
theorem dX4_refusalsCounted_16 : decode cX4_refusalsCounted 16 = .ok (.aload_n 0, 1) := by decide +kernel
theorem dX4_refusalsCounted_17 : decode cX4_refusalsCounted 17 = .ok (.getfield 48, 3) := by decide +kernel
theorem dX4_refusalsCounted_20 : decode cX4_refusalsCounted 20 = .ok (.iload_n 1, 1) := by decide +kernel
theorem dX4_refusalsCounted_21 : decode cX4_refusalsCounted 21 = .ok (.iaload, 1) := by decide +kernel
theorem dX4_refusalsCounted_22 : decode cX4_refusalsCounted 22 = .ok (.ireturn, 1) := by decide +kernel
theorem dX4_refuse_0 : decode cX4_refuse 0 = .ok (.iload_n 1, 1) := by decide +kernel
theorem dX4_refuse_1 : decode cX4_refuse 1 = .ok (.ifCond .ge 20, 3) := by decide +kernel
theorem dX4_refuse_4 : decode cX4_refuse 4 = .ok (.iload_n 1, 1) := by decide +kernel
theorem dX4_refuse_5 : decode cX4_refuse 5 = .ok (.bipush (-6), 2) := by decide +kernel
theorem dX4_refuse_7 : decode cX4_refuse 7 = .ok (.if_icmp .lt 14, 3) := by decide +kernel
theorem dX4_refuse_10 : decode cX4_refuse 10 = .ok (.aload_n 0, 1) := by decide +kernel
theorem dX4_refuse_11 : decode cX4_refuse 11 = .ok (.getfield 48, 3) := by decide +kernel
theorem dX4_refuse_14 : decode cX4_refuse 14 = .ok (.iload_n 1, 1) := by decide +kernel
theorem dX4_refuse_15 : decode cX4_refuse 15 = .ok (.ineg, 1) := by decide +kernel
theorem dX4_refuse_16 : decode cX4_refuse 16 = .ok (.dup2, 1) := by decide +kernel
theorem dX4_refuse_17 : decode cX4_refuse 17 = .ok (.iaload, 1) := by decide +kernel
theorem dX4_refuse_18 : decode cX4_refuse 18 = .ok (.iconst 1, 1) := by decide +kernel
theorem dX4_refuse_19 : decode cX4_refuse 19 = .ok (.iadd, 1) := by decide +kernel
theorem dX4_refuse_20 : decode cX4_refuse 20 = .ok (.iastore, 1) := by decide +kernel
theorem dX4_refuse_21 : decode cX4_refuse 21 = .ok (.iload_n 1, 1) := by decide +kernel
theorem dX4_refuse_22 : decode cX4_refuse 22 = .ok (.ireturn, 1) := by decide +kernel
theorem dX4_refuseLong_0 : decode cX4_refuseLong 0 = .ok (.ldc2_w 294, 3) := by decide +kernel
theorem dX4_refuseLong_3 : decode cX4_refuseLong 3 = .ok (.aload_n 0, 1) := by decide +kernel
theorem dX4_refuseLong_4 : decode cX4_refuseLong 4 = .ok (.iload_n 1, 1) := by decide +kernel
theorem dX4_refuseLong_5 : decode cX4_refuseLong 5 = .ok (.invokevirtual 51, 3) := by decide +kernel
theorem dX4_refuseLong_8 : decode cX4_refuseLong 8 = .ok (.i2l, 1) := by decide +kernel
theorem dX4_refuseLong_9 : decode cX4_refuseLong 9 = .ok (.lsub, 1) := by decide +kernel
theorem dX4_refuseLong_10 : decode cX4_refuseLong 10 = .ok (.lreturn, 1) := by decide +kernel
theorem dX4_outside_0 : decode cX4_outside 0 = .ok (.iload_n 0, 1) := by decide +kernel
theorem dX4_outside_1 : decode cX4_outside 1 = .ok (.iload_n 1, 1) := by decide +kernel
theorem dX4_outside_2 : decode cX4_outside 2 = .ok (.if_icmp .ge 6, 3) := by decide +kernel
theorem dX4_outside_5 : decode cX4_outside 5 = .ok (.bipush (-4), 2) := by decide +kernel
theorem dX4_outside_7 : decode cX4_outside 7 = .ok (.ireturn, 1) := by decide +kernel
theorem dX4_outside_8 : decode cX4_outside 8 = .ok (.iload_n 0, 1) := by decide +kernel
theorem dX4_outside_9 : decode cX4_outside 9 = .ok (.iload_n 2, 1) := by decide +kernel
theorem dX4_outside_10 : decode cX4_outside 10 = .ok (.if_icmp .le 8, 3) := by decide +kernel
theorem dX4_outside_13 : decode cX4_outside 13 = .ok (.bipush (-6), 2) := by decide +kernel
theorem dX4_outside_15 : decode cX4_outside 15 = .ok (.goto 4, 3) := by decide +kernel
theorem dX4_outside_18 : decode cX4_outside 18 = .ok (.iconst 0, 1) := by decide +kernel
theorem dX4_outside_19 : decode cX4_outside 19 = .ok (.ireturn, 1) := by decide +kernel
theorem dX4_isRoom_0 : decode cX4_isRoom 0 = .ok (.iload_n 0, 1) := by decide +kernel
theorem dX4_isRoom_1 : decode cX4_isRoom 1 = .ok (.ifCond .lt 13, 3) := by decide +kernel
theorem dX4_isRoom_4 : decode cX4_isRoom 4 = .ok (.iload_n 0, 1) := by decide +kernel
theorem dX4_isRoom_5 : decode cX4_isRoom 5 = .ok (.bipush 7, 2) := by decide +kernel
theorem dX4_isRoom_7 : decode cX4_isRoom 7 = .ok (.if_icmp .ge 7, 3) := by decide +kernel
theorem dX4_isRoom_10 : decode cX4_isRoom 10 = .ok (.iconst 1, 1) := by decide +kernel
theorem dX4_isRoom_11 : decode cX4_isRoom 11 = .ok (.goto 4, 3) := by decide +kernel
theorem dX4_isRoom_14 : decode cX4_isRoom 14 = .ok (.iconst 0, 1) := by decide +kernel
theorem dX4_isRoom_15 : decode cX4_isRoom 15 = .ok (.ireturn, 1) := by decide +kernel
