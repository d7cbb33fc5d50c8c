theorem dX7_init_0 : decode cX7_init 0 = .ok (.aload_n 0, 1) := by decide +kernel
theorem dX7_init_1 : decode cX7_init 1 = .ok (.invokespecial 1, 3) := by decide +kernel
theorem dX7_init_4 : decode cX7_init 4 = .ok (.aload_n 0, 1) := by decide +kernel
theorem dX7_init_5 : decode cX7_init 5 = .ok (.new 7, 3) := by decide +kernel
theorem dX7_init_8 : decode cX7_init 8 = .ok (.dup, 1) := by decide +kernel
theorem dX7_init_9 : decode cX7_init 9 = .ok (.invokespecial 9, 3) := by decide +kernel
theorem dX7_init_12 : decode cX7_init 12 = .ok (.putfield 10, 3) := by decide +kernel
theorem dX7_init_15 : decode cX7_init 15 = .ok (.aload_n 0, 1) := by decide +kernel
theorem dX7_init_16 : decode cX7_init 16 = .ok (.new 7, 3) := by decide +kernel
theorem dX7_init_19 : decode cX7_init 19 = .ok (.dup, 1) := by decide +kernel
theorem dX7_init_20 : decode cX7_init 20 = .ok (.invokespecial 9, 3) := by decide +kernel
theorem dX7_init_23 : decode cX7_init 23 = .ok (.putfield 16, 3) := by decide +kernel
theorem dX7_init_26 : decode cX7_init 26 = .ok (.aload_n 0, 1) := by decide +kernel
theorem dX7_init_27 : decode cX7_init 27 = .ok (.new 7, 3) := by decide +kernel
theorem dX7_init_30 : decode cX7_init 30 = .ok (.dup, 1) := by decide +kernel
theorem dX7_init_31 : decode cX7_init 31 = .ok (.invokespecial 9, 3) := by decide +kernel
theorem dX7_init_34 : decode cX7_init 34 = .ok (.putfield 19, 3) := by decide +kernel
theorem dX7_init_37 : decode cX7_init 37 = .ok (.aload_n 0, 1) := by decide +kernel
theorem dX7_init_38 : decode cX7_init 38 = .ok (.new 22, 3) := by decide +kernel
theorem dX7_init_41 : decode cX7_init 41 = .ok (.dup, 1) := by decide +kernel
theorem dX7_init_42 : decode cX7_init 42 = .ok (.invokespecial 24, 3) := by decide +kernel
theorem dX7_init_45 : decode cX7_init 45 = .ok (.putfield 25, 3) := by decide +kernel
theorem dX7_init_48 : decode cX7_init 48 = .ok (.aload_n 0, 1) := by decide +kernel
theorem dX7_init_49 : decode cX7_init 49 = .ok (.new 29, 3) := by decide +kernel
theorem dX7_init_52 : decode cX7_init 52 = .ok (.dup, 1) := by decide +kernel
theorem dX7_init_53 : decode cX7_init 53 = .ok (.invokespecial 31, 3) := by decide +kernel
theorem dX7_init_56 : decode cX7_init 56 = .ok (.putfield 32, 3) := by decide +kernel
theorem dX7_init_59 : decode cX7_init 59 = .ok (.aload_n 0, 1) := by decide +kernel
theorem dX7_init_60 : decode cX7_init 60 = .ok (.new 36, 3) := by decide +kernel
theorem dX7_init_63 : decode cX7_init 63 = .ok (.dup, 1) := by decide +kernel
theorem dX7_init_64 : decode cX7_init 64 = .ok (.aload_n 0, 1) := by decide +kernel
theorem dX7_init_65 : decode cX7_init 65 = .ok (.getfield 25, 3) := by decide +kernel
theorem dX7_init_68 : decode cX7_init 68 = .ok (.aload_n 0, 1) := by decide +kernel
theorem dX7_init_69 : decode cX7_init 69 = .ok (.getfield 10, 3) := by decide +kernel
theorem dX7_init_72 : decode cX7_init 72 = .ok (.invokespecial 38, 3) := by decide +kernel
theorem dX7_init_75 : decode cX7_init 75 = .ok (.putfield 41, 3) := by decide +kernel
theorem dX7_init_78 : decode cX7_init 78 = .ok (.aload_n 0, 1) := by decide +kernel
theorem dX7_init_79 : decode cX7_init 79 = .ok (.new 45, 3) := by decide +kernel
theorem dX7_init_82 : decode cX7_init 82 = .ok (.dup, 1) := by decide +kernel
theorem dX7_init_83 : decode cX7_init 83 = .ok (.aload_n 0, 1) := by decide +kernel
theorem dX7_init_84 : decode cX7_init 84 = .ok (.getfield 41, 3) := by decide +kernel
theorem dX7_init_87 : decode cX7_init 87 = .ok (.aload_n 0, 1) := by decide +kernel
theorem dX7_init_88 : decode cX7_init 88 = .ok (.getfield 19, 3) := by decide +kernel
theorem dX7_init_91 : decode cX7_init 91 = .ok (.invokespecial 47, 3) := by decide +kernel
theorem dX7_init_94 : decode cX7_init 94 = .ok (.putfield 50, 3) := by decide +kernel
theorem dX7_init_97 : decode cX7_init 97 = .ok (.aload_n 0, 1) := by decide +kernel
theorem dX7_init_98 : decode cX7_init 98 = .ok (.new 54, 3) := by decide +kernel
theorem dX7_init_101 : decode cX7_init 101 = .ok (.dup, 1) := by decide +kernel
theorem dX7_init_102 : decode cX7_init 102 = .ok (.invokespecial 56, 3) := by decide +kernel
theorem dX7_init_105 : decode cX7_init 105 = .ok (.putfield 57, 3) := by decide +kernel
theorem dX7_init_108 : decode cX7_init 108 = .ok (.return_, 1) := by decide +kernel
theorem dX7_set_0 : decode cX7_set 0 = .ok (.iload_n 1, 1) := by decide +kernel
theorem dX7_set_1 : decode cX7_set 1 = .ok (.ifCond .lt 30, 3) := by decide +kernel
theorem dX7_set_4 : decode cX7_set 4 = .ok (.iload_n 1, 1) := by decide +kernel
theorem dX7_set_5 : decode cX7_set 5 = .ok (.iconst 4, 1) := by decide +kernel
theorem dX7_set_6 : decode cX7_set 6 = .ok (.if_icmp .gt 25, 3) := by decide +kernel
theorem dX7_set_9 : decode cX7_set 9 = .ok (.aload_n 0, 1) := by decide +kernel
theorem dX7_set_10 : decode cX7_set 10 = .ok (.iload_n 1, 1) := by decide +kernel
theorem dX7_set_11 : decode cX7_set 11 = .ok (.iload_n 2, 1) := by decide +kernel
theorem dX7_set_12 : decode cX7_set 12 = .ok (.invokevirtual 61, 3) := by decide +kernel
theorem dX7_set_15 : decode cX7_set 15 = .ok (.ifCond .ne 16, 3) := by decide +kernel
theorem dX7_set_18 : decode cX7_set 18 = .ok (.iload_n 3, 1) := by decide +kernel
theorem dX7_set_19 : decode cX7_set 19 = .ok (.ifCond .lt 12, 3) := by decide +kernel
theorem dX7_set_22 : decode cX7_set 22 = .ok (.iload_n 3, 1) := by decide +kernel
theorem dX7_set_23 : decode cX7_set 23 = .ok (.getstatic 65, 3) := by decide +kernel
theorem dX7_set_26 : decode cX7_set 26 = .ok (.iload_n 1, 1) := by decide +kernel
theorem dX7_set_27 : decode cX7_set 27 = .ok (.iaload, 1) := by decide +kernel
theorem dX7_set_28 : decode cX7_set 28 = .ok (.if_icmp .le 6, 3) := by decide +kernel
theorem dX7_set_31 : decode cX7_set 31 = .ok (.bipush (-2), 2) := by decide +kernel
theorem dX7_set_33 : decode cX7_set 33 = .ok (.ireturn, 1) := by decide +kernel
theorem dX7_set_34 : decode cX7_set 34 = .ok (.aload_n 0, 1) := by decide +kernel
theorem dX7_set_35 : decode cX7_set 35 = .ok (.getfield 10, 3) := by decide +kernel
theorem dX7_set_38 : decode cX7_set 38 = .ok (.iload_n 1, 1) := by decide +kernel
theorem dX7_set_39 : decode cX7_set 39 = .ok (.iload_n 2, 1) := by decide +kernel
theorem dX7_set_40 : decode cX7_set 40 = .ok (.invokevirtual 69, 3) := by decide +kernel
theorem dX7_set_43 : decode cX7_set 43 = .ok (.istore 4, 2) := by decide +kernel
theorem dX7_set_45 : decode cX7_set 45 = .ok (.aload_n 0, 1) := by decide +kernel
theorem dX7_set_46 : decode cX7_set 46 = .ok (.getfield 10, 3) := by decide +kernel
theorem dX7_set_49 : decode cX7_set 49 = .ok (.iload_n 1, 1) := by decide +kernel
theorem dX7_set_50 : decode cX7_set 50 = .ok (.iload_n 2, 1) := by decide +kernel
theorem dX7_set_51 : decode cX7_set 51 = .ok (.iload_n 3, 1) := by decide +kernel
theorem dX7_set_52 : decode cX7_set 52 = .ok (.invokevirtual 73, 3) := by decide +kernel
theorem dX7_set_55 : decode cX7_set 55 = .ok (.iload 4, 2) := by decide +kernel
theorem dX7_set_57 : decode cX7_set 57 = .ok (.ireturn, 1) := by decide +kernel
theorem dX7_part_0 : decode cX7_part 0 = .ok (.iload_n 1, 1) := by decide +kernel
theorem dX7_part_1 : decode cX7_part 1 = .ok (.ifCond .lt 22, 3) := by decide +kernel
theorem dX7_part_4 : decode cX7_part 4 = .ok (.iload_n 1, 1) := by decide +kernel
theorem dX7_part_5 : decode cX7_part 5 = .ok (.bipush 6, 2) := by decide +kernel
theorem dX7_part_7 : decode cX7_part 7 = .ok (.if_icmp .ge 16, 3) := by decide +kernel
theorem dX7_part_10 : decode cX7_part 10 = .ok (.iload_n 2, 1) := by decide +kernel
theorem dX7_part_11 : decode cX7_part 11 = .ok (.ifCond .lt 12, 3) := by decide +kernel
theorem dX7_part_14 : decode cX7_part 14 = .ok (.iload_n 2, 1) := by decide +kernel
theorem dX7_part_15 : decode cX7_part 15 = .ok (.getstatic 65, 3) := by decide +kernel
theorem dX7_part_18 : decode cX7_part 18 = .ok (.iconst 2, 1) := by decide +kernel
theorem dX7_part_19 : decode cX7_part 19 = .ok (.iaload, 1) := by decide +kernel
theorem dX7_part_20 : decode cX7_part 20 = .ok (.if_icmp .le 6, 3) := by decide +kernel
theorem dX7_part_23 : decode cX7_part 23 = .ok (.bipush (-2), 2) := by decide +kernel
theorem dX7_part_25 : decode cX7_part 25 = .ok (.ireturn, 1) := by decide +kernel
theorem dX7_part_26 : decode cX7_part 26 = .ok (.aload_n 0, 1) := by decide +kernel
theorem dX7_part_27 : decode cX7_part 27 = .ok (.getfield 10, 3) := by decide +kernel
theorem dX7_part_30 : decode cX7_part 30 = .ok (.iload_n 1, 1) := by decide +kernel
theorem dX7_part_31 : decode cX7_part 31 = .ok (.iload_n 2, 1) := by decide +kernel
theorem dX7_part_32 : decode cX7_part 32 = .ok (.invokevirtual 79, 3) := by decide +kernel
theorem dX7_part_35 : decode cX7_part 35 = .ok (.ifCond .eq 15, 3) := by decide +kernel
theorem dX7_part_38 : decode cX7_part 38 = .ok (.aload_n 0, 1) := by decide +kernel
theorem dX7_part_39 : decode cX7_part 39 = .ok (.getfield 10, 3) := by decide +kernel
theorem dX7_part_42 : decode cX7_part 42 = .ok (.getfield 82, 3) := by decide +kernel
theorem dX7_part_45 : decode cX7_part 45 = .ok (.iconst 1, 1) := by decide +kernel
theorem dX7_part_46 : decode cX7_part 46 = .ok (.isub, 1) := by decide +kernel
theorem dX7_part_47 : decode cX7_part 47 = .ok (.goto 5, 3) := by decide +kernel
theorem dX7_part_50 : decode cX7_part 50 = .ok (.bipush (-4), 2) := by decide +kernel
theorem dX7_part_52 : decode cX7_part 52 = .ok (.ireturn, 1) := by decide +kernel
theorem dX7_told_0 : decode cX7_told 0 = .ok (.iload_n 2, 1) := by decide +kernel
theorem dX7_told_1 : decode cX7_told 1 = .ok (.ifCond .lt 18, 3) := by decide +kernel
theorem dX7_told_4 : decode cX7_told 4 = .ok (.iload_n 2, 1) := by decide +kernel
theorem dX7_told_5 : decode cX7_told 5 = .ok (.bipush 9, 2) := by decide +kernel
theorem dX7_told_7 : decode cX7_told 7 = .ok (.if_icmp .gt 12, 3) := by decide +kernel
theorem dX7_told_10 : decode cX7_told 10 = .ok (.aload_n 0, 1) := by decide +kernel
theorem dX7_told_11 : decode cX7_told 11 = .ok (.iload_n 2, 1) := by decide +kernel
theorem dX7_told_12 : decode cX7_told 12 = .ok (.iload_n 1, 1) := by decide +kernel
theorem dX7_told_13 : decode cX7_told 13 = .ok (.invokevirtual 61, 3) := by decide +kernel
theorem dX7_told_16 : decode cX7_told 16 = .ok (.ifCond .eq 6, 3) := by decide +kernel
theorem dX7_told_19 : decode cX7_told 19 = .ok (.bipush (-2), 2) := by decide +kernel
theorem dX7_told_21 : decode cX7_told 21 = .ok (.ireturn, 1) := by decide +kernel
theorem dX7_told_22 : decode cX7_told 22 = .ok (.iload_n 2, 1) := by decide +kernel
theorem dX7_told_23 : decode cX7_told 23 = .ok (.iconst 5, 1) := by decide +kernel
theorem dX7_told_24 : decode cX7_told 24 = .ok (.if_icmp .gt 13, 3) := by decide +kernel
theorem dX7_told_27 : decode cX7_told 27 = .ok (.aload_n 0, 1) := by decide +kernel
theorem dX7_told_28 : decode cX7_told 28 = .ok (.getfield 10, 3) := by decide +kernel
theorem dX7_told_31 : decode cX7_told 31 = .ok (.iload_n 2, 1) := by decide +kernel
theorem dX7_told_32 : decode cX7_told 32 = .ok (.iload_n 1, 1) := by decide +kernel
theorem dX7_told_33 : decode cX7_told 33 = .ok (.invokevirtual 69, 3) := by decide +kernel
theorem dX7_told_36 : decode cX7_told 36 = .ok (.ireturn, 1) := by decide +kernel
theorem dX7_told_37 : decode cX7_told 37 = .ok (.iload_n 2, 1) := by decide +kernel
theorem dX7_told_38 : decode cX7_told 38 = .ok (.bipush 6, 2) := by decide +kernel
theorem dX7_told_40 : decode cX7_told 40 = .ok (.if_icmp .ne 16, 3) := by decide +kernel
theorem dX7_told_43 : decode cX7_told 43 = .ok (.aload_n 0, 1) := by decide +kernel
theorem dX7_told_44 : decode cX7_told 44 = .ok (.getfield 10, 3) := by decide +kernel
theorem dX7_told_47 : decode cX7_told 47 = .ok (.getfield 86, 3) := by decide +kernel
theorem dX7_told_50 : decode cX7_told 50 = .ok (.iload_n 1, 1) := by decide +kernel
theorem dX7_told_51 : decode cX7_told 51 = .ok (.iaload, 1) := by decide +kernel
theorem dX7_told_52 : decode cX7_told 52 = .ok (.invokestatic 89, 3) := by decide +kernel
theorem dX7_told_55 : decode cX7_told 55 = .ok (.ireturn, 1) := by decide +kernel
theorem dX7_told_56 : decode cX7_told 56 = .ok (.aload_n 0, 1) := by decide +kernel
theorem dX7_told_57 : decode cX7_told 57 = .ok (.getfield 41, 3) := by decide +kernel
theorem dX7_told_60 : decode cX7_told 60 = .ok (.aload_n 0, 1) := by decide +kernel
theorem dX7_told_61 : decode cX7_told 61 = .ok (.getfield 10, 3) := by decide +kernel
theorem dX7_told_64 : decode cX7_told 64 = .ok (.invokevirtual 93, 3) := by decide +kernel
theorem dX7_told_67 : decode cX7_told 67 = .ok (.aload_n 0, 1) := by decide +kernel
theorem dX7_told_68 : decode cX7_told 68 = .ok (.getfield 10, 3) := by decide +kernel
theorem dX7_told_71 : decode cX7_told 71 = .ok (.getfield 97, 3) := by decide +kernel
theorem dX7_told_74 : decode cX7_told 74 = .ok (.iload_n 1, 1) := by decide +kernel
theorem dX7_told_75 : decode cX7_told 75 = .ok (.iaload, 1) := by decide +kernel
theorem dX7_told_76 : decode cX7_told 76 = .ok (.istore_n 3, 1) := by decide +kernel
theorem dX7_told_77 : decode cX7_told 77 = .ok (.iload_n 2, 1) := by decide +kernel
theorem dX7_told_78 : decode cX7_told 78 = .ok (.bipush 7, 2) := by decide +kernel
theorem dX7_told_80 : decode cX7_told 80 = .ok (.if_icmp .ne 13, 3) := by decide +kernel
theorem dX7_told_83 : decode cX7_told 83 = .ok (.aload_n 0, 1) := by decide +kernel
theorem dX7_told_84 : decode cX7_told 84 = .ok (.getfield 41, 3) := by decide +kernel
theorem dX7_told_87 : decode cX7_told 87 = .ok (.iload_n 1, 1) := by decide +kernel
theorem dX7_told_88 : decode cX7_told 88 = .ok (.iload_n 3, 1) := by decide +kernel
theorem dX7_told_89 : decode cX7_told 89 = .ok (.invokevirtual 100, 3) := by decide +kernel
theorem dX7_told_92 : decode cX7_told 92 = .ok (.ireturn, 1) := by decide +kernel
theorem dX7_told_93 : decode cX7_told 93 = .ok (.iload_n 2, 1) := by decide +kernel
theorem dX7_told_94 : decode cX7_told 94 = .ok (.bipush 8, 2) := by decide +kernel
theorem dX7_told_96 : decode cX7_told 96 = .ok (.if_icmp .ne 15, 3) := by decide +kernel
theorem dX7_told_99 : decode cX7_told 99 = .ok (.aload_n 0, 1) := by decide +kernel
theorem dX7_told_100 : decode cX7_told 100 = .ok (.getfield 41, 3) := by decide +kernel
theorem dX7_told_103 : decode cX7_told 103 = .ok (.iload_n 1, 1) := by decide +kernel
theorem dX7_told_104 : decode cX7_told 104 = .ok (.iload_n 3, 1) := by decide +kernel
theorem dX7_told_105 : decode cX7_told 105 = .ok (.invokevirtual 103, 3) := by decide +kernel
theorem dX7_told_108 : decode cX7_told 108 = .ok (.goto 12, 3) := by decide +kernel
theorem dX7_told_111 : decode cX7_told 111 = .ok (.aload_n 0, 1) := by decide +kernel
theorem dX7_told_112 : decode cX7_told 112 = .ok (.getfield 41, 3) := by decide +kernel
theorem dX7_told_115 : decode cX7_told 115 = .ok (.iload_n 1, 1) := by decide +kernel
theorem dX7_told_116 : decode cX7_told 116 = .ok (.iload_n 3, 1) := by decide +kernel
theorem dX7_told_117 : decode cX7_told 117 = .ok (.invokevirtual 106, 3) := by decide +kernel
theorem dX7_told_120 : decode cX7_told 120 = .ok (.ireturn, 1) := by decide +kernel
theorem dX7_iron_0 : decode cX7_iron 0 = .ok (.aload_n 0, 1) := by decide +kernel
theorem dX7_iron_1 : decode cX7_iron 1 = .ok (.getfield 10, 3) := by decide +kernel
theorem dX7_iron_4 : decode cX7_iron 4 = .ok (.iload_n 1, 1) := by decide +kernel
theorem dX7_iron_5 : decode cX7_iron 5 = .ok (.invokevirtual 109, 3) := by decide +kernel
theorem dX7_iron_8 : decode cX7_iron 8 = .ok (.ifCond .ne 6, 3) := by decide +kernel
theorem dX7_iron_11 : decode cX7_iron 11 = .ok (.bipush (-2), 2) := by decide +kernel
theorem dX7_iron_13 : decode cX7_iron 13 = .ok (.ireturn, 1) := by decide +kernel
theorem dX7_iron_14 : decode cX7_iron 14 = .ok (.aload_n 0, 1) := by decide +kernel
theorem dX7_iron_15 : decode cX7_iron 15 = .ok (.getfield 41, 3) := by decide +kernel
theorem dX7_iron_18 : decode cX7_iron 18 = .ok (.aload_n 0, 1) := by decide +kernel
theorem dX7_iron_19 : decode cX7_iron 19 = .ok (.getfield 10, 3) := by decide +kernel
theorem dX7_iron_22 : decode cX7_iron 22 = .ok (.iconst 1, 1) := by decide +kernel
theorem dX7_iron_23 : decode cX7_iron 23 = .ok (.iload_n 1, 1) := by decide +kernel
theorem dX7_iron_24 : decode cX7_iron 24 = .ok (.ishl, 1) := by decide +kernel
theorem dX7_iron_25 : decode cX7_iron 25 = .ok (.invokevirtual 113, 3) := by decide +kernel
theorem dX7_iron_28 : decode cX7_iron 28 = .ok (.aload_n 0, 1) := by decide +kernel
theorem dX7_iron_29 : decode cX7_iron 29 = .ok (.getfield 41, 3) := by decide +kernel
theorem dX7_iron_32 : decode cX7_iron 32 = .ok (.aload_n 0, 1) := by decide +kernel
theorem dX7_iron_33 : decode cX7_iron 33 = .ok (.getfield 10, 3) := by decide +kernel
theorem dX7_iron_36 : decode cX7_iron 36 = .ok (.invokevirtual 117, 3) := by decide +kernel
theorem dX7_iron_39 : decode cX7_iron 39 = .ok (.aload_n 0, 1) := by decide +kernel
theorem dX7_iron_40 : decode cX7_iron 40 = .ok (.getfield 41, 3) := by decide +kernel
theorem dX7_iron_43 : decode cX7_iron 43 = .ok (.invokevirtual 120, 3) := by decide +kernel
theorem dX7_iron_46 : decode cX7_iron 46 = .ok (.iconst 0, 1) := by decide +kernel
theorem dX7_iron_47 : decode cX7_iron 47 = .ok (.aload_n 0, 1) := by decide +kernel
theorem dX7_iron_48 : decode cX7_iron 48 = .ok (.getfield 10, 3) := by decide +kernel
theorem dX7_iron_51 : decode cX7_iron 51 = .ok (.getfield 97, 3) := by decide +kernel
theorem dX7_iron_54 : decode cX7_iron 54 = .ok (.iconst 0, 1) := by decide +kernel
theorem dX7_iron_55 : decode cX7_iron 55 = .ok (.aload_n 0, 1) := by decide +kernel
theorem dX7_iron_56 : decode cX7_iron 56 = .ok (.getfield 10, 3) := by decide +kernel
theorem dX7_iron_59 : decode cX7_iron 59 = .ok (.getfield 82, 3) := by decide +kernel
theorem dX7_iron_62 : decode cX7_iron 62 = .ok (.invokestatic 124, 3) := by decide +kernel
theorem dX7_iron_65 : decode cX7_iron 65 = .ok (.aload_n 0, 1) := by decide +kernel
theorem dX7_iron_66 : decode cX7_iron 66 = .ok (.getfield 10, 3) := by decide +kernel
theorem dX7_iron_69 : decode cX7_iron 69 = .ok (.getfield 97, 3) := by decide +kernel
theorem dX7_iron_72 : decode cX7_iron 72 = .ok (.iload_n 1, 1) := by decide +kernel
theorem dX7_iron_73 : decode cX7_iron 73 = .ok (.iaload, 1) := by decide +kernel
theorem dX7_iron_74 : decode cX7_iron 74 = .ok (.ireturn, 1) := by decide +kernel
theorem dX7_feed_0 : decode cX7_feed 0 = .ok (.iload_n 1, 1) := by decide +kernel
theorem dX7_feed_1 : decode cX7_feed 1 = .ok (.ifCond .lt 10, 3) := by decide +kernel
theorem dX7_feed_4 : decode cX7_feed 4 = .ok (.iload_n 1, 1) := by decide +kernel
theorem dX7_feed_5 : decode cX7_feed 5 = .ok (.sipush 255, 3) := by decide +kernel
theorem dX7_feed_8 : decode cX7_feed 8 = .ok (.if_icmp .le 6, 3) := by decide +kernel
theorem dX7_feed_11 : decode cX7_feed 11 = .ok (.bipush (-2), 2) := by decide +kernel
theorem dX7_feed_13 : decode cX7_feed 13 = .ok (.ireturn, 1) := by decide +kernel
theorem dX7_feed_14 : decode cX7_feed 14 = .ok (.aload_n 0, 1) := by decide +kernel
theorem dX7_feed_15 : decode cX7_feed 15 = .ok (.getfield 32, 3) := by decide +kernel
theorem dX7_feed_18 : decode cX7_feed 18 = .ok (.iload_n 1, 1) := by decide +kernel
theorem dX7_feed_19 : decode cX7_feed 19 = .ok (.invokevirtual 130, 3) := by decide +kernel
theorem dX7_feed_22 : decode cX7_feed 22 = .ok (.ifCond .eq 13, 3) := by decide +kernel
theorem dX7_feed_25 : decode cX7_feed 25 = .ok (.aload_n 0, 1) := by decide +kernel
theorem dX7_feed_26 : decode cX7_feed 26 = .ok (.getfield 32, 3) := by decide +kernel
theorem dX7_feed_29 : decode cX7_feed 29 = .ok (.getfield 133, 3) := by decide +kernel
theorem dX7_feed_32 : decode cX7_feed 32 = .ok (.goto 5, 3) := by decide +kernel
theorem dX7_feed_35 : decode cX7_feed 35 = .ok (.bipush (-4), 2) := by decide +kernel
theorem dX7_feed_37 : decode cX7_feed 37 = .ok (.ireturn, 1) := by decide +kernel
theorem dX7_text_0 : decode cX7_text 0 = .ok (.aload_n 0, 1) := by decide +kernel
theorem dX7_text_1 : decode cX7_text 1 = .ok (.getfield 25, 3) := by decide +kernel
theorem dX7_text_4 : decode cX7_text 4 = .ok (.getfield 136, 3) := by decide +kernel
theorem dX7_text_7 : decode cX7_text 7 = .ok (.bipush 6, 2) := by decide +kernel
theorem dX7_text_9 : decode cX7_text 9 = .ok (.if_icmp .lt 6, 3) := by decide +kernel
theorem dX7_text_12 : decode cX7_text 12 = .ok (.bipush (-4), 2) := by decide +kernel
theorem dX7_text_14 : decode cX7_text 14 = .ok (.ireturn, 1) := by decide +kernel
theorem dX7_text_15 : decode cX7_text 15 = .ok (.aload_n 0, 1) := by decide +kernel
theorem dX7_text_16 : decode cX7_text 16 = .ok (.getfield 32, 3) := by decide +kernel
theorem dX7_text_19 : decode cX7_text 19 = .ok (.aload_n 0, 1) := by decide +kernel
theorem dX7_text_20 : decode cX7_text 20 = .ok (.getfield 25, 3) := by decide +kernel
theorem dX7_text_23 : decode cX7_text 23 = .ok (.getfield 137, 3) := by decide +kernel
theorem dX7_text_26 : decode cX7_text 26 = .ok (.aload_n 0, 1) := by decide +kernel
theorem dX7_text_27 : decode cX7_text 27 = .ok (.getfield 25, 3) := by decide +kernel
theorem dX7_text_30 : decode cX7_text 30 = .ok (.getfield 136, 3) := by decide +kernel
theorem dX7_text_33 : decode cX7_text 33 = .ok (.aaload, 1) := by decide +kernel
theorem dX7_text_34 : decode cX7_text 34 = .ok (.aload_n 0, 1) := by decide +kernel
theorem dX7_text_35 : decode cX7_text 35 = .ok (.getfield 25, 3) := by decide +kernel
theorem dX7_text_38 : decode cX7_text 38 = .ok (.getfield 141, 3) := by decide +kernel
theorem dX7_text_41 : decode cX7_text 41 = .ok (.aload_n 0, 1) := by decide +kernel
theorem dX7_text_42 : decode cX7_text 42 = .ok (.getfield 25, 3) := by decide +kernel
theorem dX7_text_45 : decode cX7_text 45 = .ok (.getfield 136, 3) := by decide +kernel
theorem dX7_text_48 : decode cX7_text 48 = .ok (.aaload, 1) := by decide +kernel
theorem dX7_text_49 : decode cX7_text 49 = .ok (.invokevirtual 144, 3) := by decide +kernel
theorem dX7_text_52 : decode cX7_text 52 = .ok (.istore_n 1, 1) := by decide +kernel
theorem dX7_text_53 : decode cX7_text 53 = .ok (.aload_n 0, 1) := by decide +kernel
theorem dX7_text_54 : decode cX7_text 54 = .ok (.getfield 32, 3) := by decide +kernel
theorem dX7_text_57 : decode cX7_text 57 = .ok (.iconst 0, 1) := by decide +kernel
theorem dX7_text_58 : decode cX7_text 58 = .ok (.putfield 133, 3) := by decide +kernel
theorem dX7_text_61 : decode cX7_text 61 = .ok (.iload_n 1, 1) := by decide +kernel
theorem dX7_text_62 : decode cX7_text 62 = .ok (.iconst (-1), 1) := by decide +kernel
theorem dX7_text_63 : decode cX7_text 63 = .ok (.if_icmp .eq 8, 3) := by decide +kernel
theorem dX7_text_66 : decode cX7_text 66 = .ok (.bipush (-100), 2) := by decide +kernel
theorem dX7_text_68 : decode cX7_text 68 = .ok (.iload_n 1, 1) := by decide +kernel
theorem dX7_text_69 : decode cX7_text 69 = .ok (.isub, 1) := by decide +kernel
theorem dX7_text_70 : decode cX7_text 70 = .ok (.ireturn, 1) := by decide +kernel
theorem dX7_text_71 : decode cX7_text 71 = .ok (.aload_n 0, 1) := by decide +kernel
theorem dX7_text_72 : decode cX7_text 72 = .ok (.getfield 25, 3) := by decide +kernel
theorem dX7_text_75 : decode cX7_text 75 = .ok (.dup, 1) := by decide +kernel
theorem dX7_text_76 : decode cX7_text 76 = .ok (.getfield 136, 3) := by decide +kernel
theorem dX7_text_79 : decode cX7_text 79 = .ok (.iconst 1, 1) := by decide +kernel
theorem dX7_text_80 : decode cX7_text 80 = .ok (.iadd, 1) := by decide +kernel
theorem dX7_text_81 : decode cX7_text 81 = .ok (.putfield 136, 3) := by decide +kernel
theorem dX7_text_84 : decode cX7_text 84 = .ok (.aload_n 0, 1) := by decide +kernel
theorem dX7_text_85 : decode cX7_text 85 = .ok (.getfield 25, 3) := by decide +kernel
theorem dX7_text_88 : decode cX7_text 88 = .ok (.getfield 136, 3) := by decide +kernel
theorem dX7_text_91 : decode cX7_text 91 = .ok (.iconst 1, 1) := by decide +kernel
theorem dX7_text_92 : decode cX7_text 92 = .ok (.isub, 1) := by decide +kernel
theorem dX7_text_93 : decode cX7_text 93 = .ok (.ireturn, 1) := by decide +kernel
theorem dX7_force_0 : decode cX7_force 0 = .ok (.iload_n 1, 1) := by decide +kernel
theorem dX7_force_1 : decode cX7_force 1 = .ok (.ifCond .lt 14, 3) := by decide +kernel
theorem dX7_force_4 : decode cX7_force 4 = .ok (.iload_n 1, 1) := by decide +kernel
theorem dX7_force_5 : decode cX7_force 5 = .ok (.aload_n 0, 1) := by decide +kernel
theorem dX7_force_6 : decode cX7_force 6 = .ok (.getfield 25, 3) := by decide +kernel
theorem dX7_force_9 : decode cX7_force 9 = .ok (.getfield 136, 3) := by decide +kernel
theorem dX7_force_12 : decode cX7_force 12 = .ok (.if_icmp .lt 6, 3) := by decide +kernel
theorem dX7_force_15 : decode cX7_force 15 = .ok (.bipush (-2), 2) := by decide +kernel
theorem dX7_force_17 : decode cX7_force 17 = .ok (.ireturn, 1) := by decide +kernel
theorem dX7_force_18 : decode cX7_force 18 = .ok (.aload_n 0, 1) := by decide +kernel
theorem dX7_force_19 : decode cX7_force 19 = .ok (.getfield 10, 3) := by decide +kernel
theorem dX7_force_22 : decode cX7_force 22 = .ok (.getfield 148, 3) := by decide +kernel
theorem dX7_force_25 : decode cX7_force 25 = .ok (.istore_n 2, 1) := by decide +kernel
theorem dX7_force_26 : decode cX7_force 26 = .ok (.aload_n 0, 1) := by decide +kernel
theorem dX7_force_27 : decode cX7_force 27 = .ok (.getfield 10, 3) := by decide +kernel
theorem dX7_force_30 : decode cX7_force 30 = .ok (.iload_n 1, 1) := by decide +kernel
theorem dX7_force_31 : decode cX7_force 31 = .ok (.putfield 148, 3) := by decide +kernel
theorem dX7_force_34 : decode cX7_force 34 = .ok (.iload_n 2, 1) := by decide +kernel
theorem dX7_force_35 : decode cX7_force 35 = .ok (.ireturn, 1) := by decide +kernel
theorem dX7_plain_0 : decode cX7_plain 0 = .ok (.aload_n 0, 1) := by decide +kernel
theorem dX7_plain_1 : decode cX7_plain 1 = .ok (.iload_n 1, 1) := by decide +kernel
theorem dX7_plain_2 : decode cX7_plain 2 = .ok (.invokevirtual 151, 3) := by decide +kernel
theorem dX7_plain_5 : decode cX7_plain 5 = .ok (.ifCond .ne 6, 3) := by decide +kernel
theorem dX7_plain_8 : decode cX7_plain 8 = .ok (.bipush (-2), 2) := by decide +kernel
theorem dX7_plain_10 : decode cX7_plain 10 = .ok (.ireturn, 1) := by decide +kernel
theorem dX7_plain_11 : decode cX7_plain 11 = .ok (.aload_n 0, 1) := by decide +kernel
theorem dX7_plain_12 : decode cX7_plain 12 = .ok (.getfield 41, 3) := by decide +kernel
theorem dX7_plain_15 : decode cX7_plain 15 = .ok (.aload_n 0, 1) := by decide +kernel
theorem dX7_plain_16 : decode cX7_plain 16 = .ok (.getfield 10, 3) := by decide +kernel
theorem dX7_plain_19 : decode cX7_plain 19 = .ok (.bipush 127, 2) := by decide +kernel
theorem dX7_plain_21 : decode cX7_plain 21 = .ok (.invokevirtual 113, 3) := by decide +kernel
theorem dX7_plain_24 : decode cX7_plain 24 = .ok (.aload_n 0, 1) := by decide +kernel
theorem dX7_plain_25 : decode cX7_plain 25 = .ok (.getfield 41, 3) := by decide +kernel
theorem dX7_plain_28 : decode cX7_plain 28 = .ok (.aload_n 0, 1) := by decide +kernel
theorem dX7_plain_29 : decode cX7_plain 29 = .ok (.getfield 10, 3) := by decide +kernel
theorem dX7_plain_32 : decode cX7_plain 32 = .ok (.invokevirtual 117, 3) := by decide +kernel
theorem dX7_plain_35 : decode cX7_plain 35 = .ok (.aload_n 0, 1) := by decide +kernel
theorem dX7_plain_36 : decode cX7_plain 36 = .ok (.getfield 41, 3) := by decide +kernel
theorem dX7_plain_39 : decode cX7_plain 39 = .ok (.aload_n 0, 1) := by decide +kernel
theorem dX7_plain_40 : decode cX7_plain 40 = .ok (.getfield 10, 3) := by decide +kernel
theorem dX7_plain_43 : decode cX7_plain 43 = .ok (.iload_n 1, 1) := by decide +kernel
theorem dX7_plain_44 : decode cX7_plain 44 = .ok (.invokevirtual 154, 3) := by decide +kernel
theorem dX7_plain_47 : decode cX7_plain 47 = .ok (.ireturn, 1) := by decide +kernel
theorem dX7_order_0 : decode cX7_order 0 = .ok (.aload_n 0, 1) := by decide +kernel
theorem dX7_order_1 : decode cX7_order 1 = .ok (.getfield 57, 3) := by decide +kernel
theorem dX7_order_4 : decode cX7_order 4 = .ok (.iload_n 1, 1) := by decide +kernel
theorem dX7_order_5 : decode cX7_order 5 = .ok (.invokevirtual 158, 3) := by decide +kernel
theorem dX7_order_8 : decode cX7_order 8 = .ok (.ifCond .eq 11, 3) := by decide +kernel
theorem dX7_order_11 : decode cX7_order 11 = .ok (.aload_n 0, 1) := by decide +kernel
theorem dX7_order_12 : decode cX7_order 12 = .ok (.iload_n 2, 1) := by decide +kernel
theorem dX7_order_13 : decode cX7_order 13 = .ok (.invokevirtual 151, 3) := by decide +kernel
theorem dX7_order_16 : decode cX7_order 16 = .ok (.ifCond .ne 6, 3) := by decide +kernel
theorem dX7_order_19 : decode cX7_order 19 = .ok (.bipush (-2), 2) := by decide +kernel
theorem dX7_order_21 : decode cX7_order 21 = .ok (.ireturn, 1) := by decide +kernel
theorem dX7_order_22 : decode cX7_order 22 = .ok (.aload_n 0, 1) := by decide +kernel
theorem dX7_order_23 : decode cX7_order 23 = .ok (.getfield 57, 3) := by decide +kernel
theorem dX7_order_26 : decode cX7_order 26 = .ok (.iload_n 1, 1) := by decide +kernel
theorem dX7_order_27 : decode cX7_order 27 = .ok (.invokevirtual 159, 3) := by decide +kernel
theorem dX7_order_30 : decode cX7_order 30 = .ok (.ifCond .eq 6, 3) := by decide +kernel
theorem dX7_order_33 : decode cX7_order 33 = .ok (.bipush (-11), 2) := by decide +kernel
theorem dX7_order_35 : decode cX7_order 35 = .ok (.ireturn, 1) := by decide +kernel
theorem dX7_order_36 : decode cX7_order 36 = .ok (.aload_n 0, 1) := by decide +kernel
theorem dX7_order_37 : decode cX7_order 37 = .ok (.iload_n 1, 1) := by decide +kernel
theorem dX7_order_38 : decode cX7_order 38 = .ok (.invokevirtual 162, 3) := by decide +kernel
theorem dX7_order_41 : decode cX7_order 41 = .ok (.ifCond .ne 6, 3) := by decide +kernel
theorem dX7_order_44 : decode cX7_order 44 = .ok (.bipush (-2), 2) := by decide +kernel
theorem dX7_order_46 : decode cX7_order 46 = .ok (.ireturn, 1) := by decide +kernel
theorem dX7_order_47 : decode cX7_order 47 = .ok (.aload_n 0, 1) := by decide +kernel
theorem dX7_order_48 : decode cX7_order 48 = .ok (.getfield 41, 3) := by decide +kernel
theorem dX7_order_51 : decode cX7_order 51 = .ok (.aload_n 0, 1) := by decide +kernel
theorem dX7_order_52 : decode cX7_order 52 = .ok (.getfield 10, 3) := by decide +kernel
theorem dX7_order_55 : decode cX7_order 55 = .ok (.invokevirtual 117, 3) := by decide +kernel
theorem dX7_order_58 : decode cX7_order 58 = .ok (.aload_n 0, 1) := by decide +kernel
theorem dX7_order_59 : decode cX7_order 59 = .ok (.getfield 41, 3) := by decide +kernel
theorem dX7_order_62 : decode cX7_order 62 = .ok (.aload_n 0, 1) := by decide +kernel
theorem dX7_order_63 : decode cX7_order 63 = .ok (.getfield 10, 3) := by decide +kernel
theorem dX7_order_66 : decode cX7_order 66 = .ok (.iload_n 2, 1) := by decide +kernel
theorem dX7_order_67 : decode cX7_order 67 = .ok (.invokevirtual 154, 3) := by decide +kernel
theorem dX7_order_70 : decode cX7_order 70 = .ok (.ireturn, 1) := by decide +kernel
theorem dX7_best_0 : decode cX7_best 0 = .ok (.iload_n 1, 1) := by decide +kernel
theorem dX7_best_1 : decode cX7_best 1 = .ok (.ifCond .lt 8, 3) := by decide +kernel
theorem dX7_best_4 : decode cX7_best 4 = .ok (.iload_n 1, 1) := by decide +kernel
theorem dX7_best_5 : decode cX7_best 5 = .ok (.iconst 1, 1) := by decide +kernel
theorem dX7_best_6 : decode cX7_best 6 = .ok (.if_icmp .le 6, 3) := by decide +kernel
theorem dX7_best_9 : decode cX7_best 9 = .ok (.bipush (-2), 2) := by decide +kernel
theorem dX7_best_11 : decode cX7_best 11 = .ok (.ireturn, 1) := by decide +kernel
theorem dX7_best_12 : decode cX7_best 12 = .ok (.aload_n 0, 1) := by decide +kernel
theorem dX7_best_13 : decode cX7_best 13 = .ok (.getfield 50, 3) := by decide +kernel
theorem dX7_best_16 : decode cX7_best 16 = .ok (.aload_n 0, 1) := by decide +kernel
theorem dX7_best_17 : decode cX7_best 17 = .ok (.getfield 10, 3) := by decide +kernel
theorem dX7_best_20 : decode cX7_best 20 = .ok (.invokevirtual 165, 3) := by decide +kernel
theorem dX7_best_23 : decode cX7_best 23 = .ok (.iload_n 1, 1) := by decide +kernel
theorem dX7_best_24 : decode cX7_best 24 = .ok (.ifCond .ne 13, 3) := by decide +kernel
theorem dX7_best_27 : decode cX7_best 27 = .ok (.aload_n 0, 1) := by decide +kernel
theorem dX7_best_28 : decode cX7_best 28 = .ok (.getfield 50, 3) := by decide +kernel
theorem dX7_best_31 : decode cX7_best 31 = .ok (.getfield 168, 3) := by decide +kernel
theorem dX7_best_34 : decode cX7_best 34 = .ok (.goto 10, 3) := by decide +kernel
theorem dX7_best_37 : decode cX7_best 37 = .ok (.aload_n 0, 1) := by decide +kernel
theorem dX7_best_38 : decode cX7_best 38 = .ok (.getfield 50, 3) := by decide +kernel
theorem dX7_best_41 : decode cX7_best 41 = .ok (.getfield 171, 3) := by decide +kernel
theorem dX7_best_44 : decode cX7_best 44 = .ok (.ireturn, 1) := by decide +kernel
theorem dX7_worst_0 : decode cX7_worst 0 = .ok (.iload_n 1, 1) := by decide +kernel
theorem dX7_worst_1 : decode cX7_worst 1 = .ok (.ifCond .lt 8, 3) := by decide +kernel
theorem dX7_worst_4 : decode cX7_worst 4 = .ok (.iload_n 1, 1) := by decide +kernel
theorem dX7_worst_5 : decode cX7_worst 5 = .ok (.iconst 1, 1) := by decide +kernel
theorem dX7_worst_6 : decode cX7_worst 6 = .ok (.if_icmp .le 6, 3) := by decide +kernel
theorem dX7_worst_9 : decode cX7_worst 9 = .ok (.bipush (-2), 2) := by decide +kernel
theorem dX7_worst_11 : decode cX7_worst 11 = .ok (.ireturn, 1) := by decide +kernel
theorem dX7_worst_12 : decode cX7_worst 12 = .ok (.aload_n 0, 1) := by decide +kernel
theorem dX7_worst_13 : decode cX7_worst 13 = .ok (.getfield 41, 3) := by decide +kernel
theorem dX7_worst_16 : decode cX7_worst 16 = .ok (.aload_n 0, 1) := by decide +kernel
theorem dX7_worst_17 : decode cX7_worst 17 = .ok (.getfield 10, 3) := by decide +kernel
theorem dX7_worst_20 : decode cX7_worst 20 = .ok (.invokevirtual 174, 3) := by decide +kernel
theorem dX7_worst_23 : decode cX7_worst 23 = .ok (.aload_n 0, 1) := by decide +kernel
theorem dX7_worst_24 : decode cX7_worst 24 = .ok (.getfield 41, 3) := by decide +kernel
theorem dX7_worst_27 : decode cX7_worst 27 = .ok (.aload_n 0, 1) := by decide +kernel
theorem dX7_worst_28 : decode cX7_worst 28 = .ok (.getfield 10, 3) := by decide +kernel
theorem dX7_worst_31 : decode cX7_worst 31 = .ok (.invokevirtual 117, 3) := by decide +kernel
theorem dX7_worst_34 : decode cX7_worst 34 = .ok (.iload_n 1, 1) := by decide +kernel
theorem dX7_worst_35 : decode cX7_worst 35 = .ok (.ifCond .ne 17, 3) := by decide +kernel
theorem dX7_worst_38 : decode cX7_worst 38 = .ok (.aload_n 0, 1) := by decide +kernel
theorem dX7_worst_39 : decode cX7_worst 39 = .ok (.getfield 41, 3) := by decide +kernel
theorem dX7_worst_42 : decode cX7_worst 42 = .ok (.aload_n 0, 1) := by decide +kernel
theorem dX7_worst_43 : decode cX7_worst 43 = .ok (.getfield 10, 3) := by decide +kernel
theorem dX7_worst_46 : decode cX7_worst 46 = .ok (.invokevirtual 177, 3) := by decide +kernel
theorem dX7_worst_49 : decode cX7_worst 49 = .ok (.goto 10, 3) := by decide +kernel
theorem dX7_worst_52 : decode cX7_worst 52 = .ok (.aload_n 0, 1) := by decide +kernel
theorem dX7_worst_53 : decode cX7_worst 53 = .ok (.getfield 41, 3) := by decide +kernel
theorem dX7_worst_56 : decode cX7_worst 56 = .ok (.invokevirtual 181, 3) := by decide +kernel
theorem dX7_worst_59 : decode cX7_worst 59 = .ok (.ireturn, 1) := by decide +kernel
theorem dX7_change_0 : decode cX7_change 0 = .ok (.iload_n 1, 1) := by decide +kernel
theorem dX7_change_1 : decode cX7_change 1 = .ok (.ifCond .lt 8, 3) := by decide +kernel
theorem dX7_change_4 : decode cX7_change 4 = .ok (.iload_n 1, 1) := by decide +kernel
theorem dX7_change_5 : decode cX7_change 5 = .ok (.iconst 1, 1) := by decide +kernel
theorem dX7_change_6 : decode cX7_change 6 = .ok (.if_icmp .le 6, 3) := by decide +kernel
theorem dX7_change_9 : decode cX7_change 9 = .ok (.bipush (-2), 2) := by decide +kernel
theorem dX7_change_11 : decode cX7_change 11 = .ok (.ireturn, 1) := by decide +kernel
theorem dX7_change_12 : decode cX7_change 12 = .ok (.aload_n 0, 1) := by decide +kernel
theorem dX7_change_13 : decode cX7_change 13 = .ok (.getfield 50, 3) := by decide +kernel
theorem dX7_change_16 : decode cX7_change 16 = .ok (.aload_n 0, 1) := by decide +kernel
theorem dX7_change_17 : decode cX7_change 17 = .ok (.getfield 10, 3) := by decide +kernel
theorem dX7_change_20 : decode cX7_change 20 = .ok (.invokevirtual 185, 3) := by decide +kernel
theorem dX7_change_23 : decode cX7_change 23 = .ok (.iload_n 1, 1) := by decide +kernel
theorem dX7_change_24 : decode cX7_change 24 = .ok (.ifCond .ne 13, 3) := by decide +kernel
theorem dX7_change_27 : decode cX7_change 27 = .ok (.aload_n 0, 1) := by decide +kernel
theorem dX7_change_28 : decode cX7_change 28 = .ok (.getfield 50, 3) := by decide +kernel
theorem dX7_change_31 : decode cX7_change 31 = .ok (.getfield 171, 3) := by decide +kernel
theorem dX7_change_34 : decode cX7_change 34 = .ok (.goto 10, 3) := by decide +kernel
theorem dX7_change_37 : decode cX7_change 37 = .ok (.aload_n 0, 1) := by decide +kernel
theorem dX7_change_38 : decode cX7_change 38 = .ok (.getfield 50, 3) := by decide +kernel
theorem dX7_change_41 : decode cX7_change 41 = .ok (.getfield 168, 3) := by decide +kernel
theorem dX7_change_44 : decode cX7_change 44 = .ok (.ireturn, 1) := by decide +kernel
theorem dX7_leave_0 : decode cX7_leave 0 = .ok (.iload_n 1, 1) := by decide +kernel
theorem dX7_leave_1 : decode cX7_leave 1 = .ok (.ifCond .lt 8, 3) := by decide +kernel
theorem dX7_leave_4 : decode cX7_leave 4 = .ok (.iload_n 1, 1) := by decide +kernel
theorem dX7_leave_5 : decode cX7_leave 5 = .ok (.iconst 1, 1) := by decide +kernel
theorem dX7_leave_6 : decode cX7_leave 6 = .ok (.if_icmp .le 6, 3) := by decide +kernel
theorem dX7_leave_9 : decode cX7_leave 9 = .ok (.bipush (-2), 2) := by decide +kernel
theorem dX7_leave_11 : decode cX7_leave 11 = .ok (.ireturn, 1) := by decide +kernel
theorem dX7_leave_12 : decode cX7_leave 12 = .ok (.aload_n 0, 1) := by decide +kernel
theorem dX7_leave_13 : decode cX7_leave 13 = .ok (.getfield 50, 3) := by decide +kernel
theorem dX7_leave_16 : decode cX7_leave 16 = .ok (.aload_n 0, 1) := by decide +kernel
theorem dX7_leave_17 : decode cX7_leave 17 = .ok (.getfield 10, 3) := by decide +kernel
theorem dX7_leave_20 : decode cX7_leave 20 = .ok (.invokevirtual 188, 3) := by decide +kernel
theorem dX7_leave_23 : decode cX7_leave 23 = .ok (.iload_n 1, 1) := by decide +kernel
theorem dX7_leave_24 : decode cX7_leave 24 = .ok (.ifCond .ne 13, 3) := by decide +kernel
theorem dX7_leave_27 : decode cX7_leave 27 = .ok (.aload_n 0, 1) := by decide +kernel
theorem dX7_leave_28 : decode cX7_leave 28 = .ok (.getfield 50, 3) := by decide +kernel
theorem dX7_leave_31 : decode cX7_leave 31 = .ok (.getfield 171, 3) := by decide +kernel
theorem dX7_leave_34 : decode cX7_leave 34 = .ok (.goto 10, 3) := by decide +kernel
theorem dX7_leave_37 : decode cX7_leave 37 = .ok (.aload_n 0, 1) := by decide +kernel
theorem dX7_leave_38 : decode cX7_leave 38 = .ok (.getfield 50, 3) := by decide +kernel
theorem dX7_leave_41 : decode cX7_leave 41 = .ok (.getfield 168, 3) := by decide +kernel
theorem dX7_leave_44 : decode cX7_leave 44 = .ok (.ireturn, 1) := by decide +kernel
theorem dX7_spray_0 : decode cX7_spray 0 = .ok (.iload_n 1, 1) := by decide +kernel
theorem dX7_spray_1 : decode cX7_spray 1 = .ok (.ifCond .lt 8, 3) := by decide +kernel
theorem dX7_spray_4 : decode cX7_spray 4 = .ok (.iload_n 1, 1) := by decide +kernel
theorem dX7_spray_5 : decode cX7_spray 5 = .ok (.iconst 1, 1) := by decide +kernel
theorem dX7_spray_6 : decode cX7_spray 6 = .ok (.if_icmp .le 6, 3) := by decide +kernel
theorem dX7_spray_9 : decode cX7_spray 9 = .ok (.bipush (-2), 2) := by decide +kernel
theorem dX7_spray_11 : decode cX7_spray 11 = .ok (.ireturn, 1) := by decide +kernel
theorem dX7_spray_12 : decode cX7_spray 12 = .ok (.aload_n 0, 1) := by decide +kernel
theorem dX7_spray_13 : decode cX7_spray 13 = .ok (.getfield 50, 3) := by decide +kernel
theorem dX7_spray_16 : decode cX7_spray 16 = .ok (.aload_n 0, 1) := by decide +kernel
theorem dX7_spray_17 : decode cX7_spray 17 = .ok (.getfield 10, 3) := by decide +kernel
theorem dX7_spray_20 : decode cX7_spray 20 = .ok (.invokevirtual 191, 3) := by decide +kernel
theorem dX7_spray_23 : decode cX7_spray 23 = .ok (.iload_n 1, 1) := by decide +kernel
theorem dX7_spray_24 : decode cX7_spray 24 = .ok (.ifCond .ne 13, 3) := by decide +kernel
theorem dX7_spray_27 : decode cX7_spray 27 = .ok (.aload_n 0, 1) := by decide +kernel
theorem dX7_spray_28 : decode cX7_spray 28 = .ok (.getfield 50, 3) := by decide +kernel
theorem dX7_spray_31 : decode cX7_spray 31 = .ok (.getfield 171, 3) := by decide +kernel
theorem dX7_spray_34 : decode cX7_spray 34 = .ok (.goto 10, 3) := by decide +kernel
theorem dX7_spray_37 : decode cX7_spray 37 = .ok (.aload_n 0, 1) := by decide +kernel
theorem dX7_spray_38 : decode cX7_spray 38 = .ok (.getfield 50, 3) := by decide +kernel
theorem dX7_spray_41 : decode cX7_spray 41 = .ok (.getfield 168, 3) := by decide +kernel
theorem dX7_spray_44 : decode cX7_spray 44 = .ok (.ireturn, 1) := by decide +kernel
theorem dX7_how_0 : decode cX7_how 0 = .ok (.iload_n 1, 1) := by decide +kernel
theorem dX7_how_1 : decode cX7_how 1 = .ok (.ifCond .lt 8, 3) := by decide +kernel
theorem dX7_how_4 : decode cX7_how 4 = .ok (.iload_n 1, 1) := by decide +kernel
theorem dX7_how_5 : decode cX7_how 5 = .ok (.iconst 3, 1) := by decide +kernel
theorem dX7_how_6 : decode cX7_how 6 = .ok (.if_icmp .le 6, 3) := by decide +kernel
theorem dX7_how_9 : decode cX7_how 9 = .ok (.bipush (-2), 2) := by decide +kernel
theorem dX7_how_11 : decode cX7_how 11 = .ok (.ireturn, 1) := by decide +kernel
theorem dX7_how_12 : decode cX7_how 12 = .ok (.aload_n 0, 1) := by decide +kernel
theorem dX7_how_13 : decode cX7_how 13 = .ok (.getfield 50, 3) := by decide +kernel
theorem dX7_how_16 : decode cX7_how 16 = .ok (.aload_n 0, 1) := by decide +kernel
theorem dX7_how_17 : decode cX7_how 17 = .ok (.getfield 10, 3) := by decide +kernel
theorem dX7_how_20 : decode cX7_how 20 = .ok (.iload_n 1, 1) := by decide +kernel
theorem dX7_how_21 : decode cX7_how 21 = .ok (.iconst 2, 1) := by decide +kernel
theorem dX7_how_22 : decode cX7_how 22 = .ok (.if_icmp .ge 7, 3) := by decide +kernel
theorem dX7_how_25 : decode cX7_how 25 = .ok (.iconst 1, 1) := by decide +kernel
theorem dX7_how_26 : decode cX7_how 26 = .ok (.goto 4, 3) := by decide +kernel
theorem dX7_how_29 : decode cX7_how 29 = .ok (.iconst 0, 1) := by decide +kernel
theorem dX7_how_30 : decode cX7_how 30 = .ok (.invokevirtual 194, 3) := by decide +kernel
theorem dX7_how_33 : decode cX7_how 33 = .ok (.iload_n 1, 1) := by decide +kernel
theorem dX7_how_34 : decode cX7_how 34 = .ok (.iconst 2, 1) := by decide +kernel
theorem dX7_how_35 : decode cX7_how 35 = .ok (.irem, 1) := by decide +kernel
theorem dX7_how_36 : decode cX7_how 36 = .ok (.ifCond .ne 13, 3) := by decide +kernel
theorem dX7_how_39 : decode cX7_how 39 = .ok (.aload_n 0, 1) := by decide +kernel
theorem dX7_how_40 : decode cX7_how 40 = .ok (.getfield 50, 3) := by decide +kernel
theorem dX7_how_43 : decode cX7_how 43 = .ok (.getfield 171, 3) := by decide +kernel
theorem dX7_how_46 : decode cX7_how 46 = .ok (.goto 10, 3) := by decide +kernel
theorem dX7_how_49 : decode cX7_how 49 = .ok (.aload_n 0, 1) := by decide +kernel
theorem dX7_how_50 : decode cX7_how 50 = .ok (.getfield 50, 3) := by decide +kernel
theorem dX7_how_53 : decode cX7_how 53 = .ok (.getfield 168, 3) := by decide +kernel
theorem dX7_how_56 : decode cX7_how 56 = .ok (.ireturn, 1) := by decide +kernel
theorem dX7_enough_0 : decode cX7_enough 0 = .ok (.iload_n 1, 1) := by decide +kernel
theorem dX7_enough_1 : decode cX7_enough 1 = .ok (.ifCond .lt 10, 3) := by decide +kernel
theorem dX7_enough_4 : decode cX7_enough 4 = .ok (.iload_n 1, 1) := by decide +kernel
theorem dX7_enough_5 : decode cX7_enough 5 = .ok (.sipush 9999, 3) := by decide +kernel
theorem dX7_enough_8 : decode cX7_enough 8 = .ok (.if_icmp .le 6, 3) := by decide +kernel
theorem dX7_enough_11 : decode cX7_enough 11 = .ok (.bipush (-2), 2) := by decide +kernel
theorem dX7_enough_13 : decode cX7_enough 13 = .ok (.ireturn, 1) := by decide +kernel
theorem dX7_enough_14 : decode cX7_enough 14 = .ok (.aload_n 0, 1) := by decide +kernel
theorem dX7_enough_15 : decode cX7_enough 15 = .ok (.getfield 50, 3) := by decide +kernel
theorem dX7_enough_18 : decode cX7_enough 18 = .ok (.aload_n 0, 1) := by decide +kernel
theorem dX7_enough_19 : decode cX7_enough 19 = .ok (.getfield 10, 3) := by decide +kernel
theorem dX7_enough_22 : decode cX7_enough 22 = .ok (.iload_n 1, 1) := by decide +kernel
theorem dX7_enough_23 : decode cX7_enough 23 = .ok (.invokevirtual 197, 3) := by decide +kernel
theorem dX7_enough_26 : decode cX7_enough 26 = .ok (.ireturn, 1) := by decide +kernel
theorem dX7_tells_0 : decode cX7_tells 0 = .ok (.aload_n 0, 1) := by decide +kernel
theorem dX7_tells_1 : decode cX7_tells 1 = .ok (.getfield 57, 3) := by decide +kernel
theorem dX7_tells_4 : decode cX7_tells 4 = .ok (.iload_n 1, 1) := by decide +kernel
theorem dX7_tells_5 : decode cX7_tells 5 = .ok (.invokevirtual 158, 3) := by decide +kernel
theorem dX7_tells_8 : decode cX7_tells 8 = .ok (.ifCond .eq 43, 3) := by decide +kernel
theorem dX7_tells_11 : decode cX7_tells 11 = .ok (.iload_n 2, 1) := by decide +kernel
theorem dX7_tells_12 : decode cX7_tells 12 = .ok (.ifCond .lt 39, 3) := by decide +kernel
theorem dX7_tells_15 : decode cX7_tells 15 = .ok (.iload_n 2, 1) := by decide +kernel
theorem dX7_tells_16 : decode cX7_tells 16 = .ok (.bipush 49, 2) := by decide +kernel
theorem dX7_tells_18 : decode cX7_tells 18 = .ok (.if_icmp .gt 33, 3) := by decide +kernel
theorem dX7_tells_21 : decode cX7_tells 21 = .ok (.iload_n 2, 1) := by decide +kernel
theorem dX7_tells_22 : decode cX7_tells 22 = .ok (.iconst 2, 1) := by decide +kernel
theorem dX7_tells_23 : decode cX7_tells 23 = .ok (.if_icmp .le 9, 3) := by decide +kernel
theorem dX7_tells_26 : decode cX7_tells 26 = .ok (.iload_n 2, 1) := by decide +kernel
theorem dX7_tells_27 : decode cX7_tells 27 = .ok (.bipush 10, 2) := by decide +kernel
theorem dX7_tells_29 : decode cX7_tells 29 = .ok (.if_icmp .lt 22, 3) := by decide +kernel
theorem dX7_tells_32 : decode cX7_tells 32 = .ok (.iload_n 2, 1) := by decide +kernel
theorem dX7_tells_33 : decode cX7_tells 33 = .ok (.iconst 2, 1) := by decide +kernel
theorem dX7_tells_34 : decode cX7_tells 34 = .ok (.if_icmp .le 20, 3) := by decide +kernel
theorem dX7_tells_37 : decode cX7_tells 37 = .ok (.aload_n 0, 1) := by decide +kernel
theorem dX7_tells_38 : decode cX7_tells 38 = .ok (.getfield 10, 3) := by decide +kernel
theorem dX7_tells_41 : decode cX7_tells 41 = .ok (.iload_n 2, 1) := by decide +kernel
theorem dX7_tells_42 : decode cX7_tells 42 = .ok (.bipush 10, 2) := by decide +kernel
theorem dX7_tells_44 : decode cX7_tells 44 = .ok (.irem, 1) := by decide +kernel
theorem dX7_tells_45 : decode cX7_tells 45 = .ok (.invokevirtual 109, 3) := by decide +kernel
theorem dX7_tells_48 : decode cX7_tells 48 = .ok (.ifCond .ne 6, 3) := by decide +kernel
theorem dX7_tells_51 : decode cX7_tells 51 = .ok (.bipush (-2), 2) := by decide +kernel
theorem dX7_tells_53 : decode cX7_tells 53 = .ok (.ireturn, 1) := by decide +kernel
theorem dX7_tells_54 : decode cX7_tells 54 = .ok (.aload_n 0, 1) := by decide +kernel
theorem dX7_tells_55 : decode cX7_tells 55 = .ok (.getfield 57, 3) := by decide +kernel
theorem dX7_tells_58 : decode cX7_tells 58 = .ok (.iload_n 1, 1) := by decide +kernel
theorem dX7_tells_59 : decode cX7_tells 59 = .ok (.invokevirtual 159, 3) := by decide +kernel
theorem dX7_tells_62 : decode cX7_tells 62 = .ok (.ifCond .eq 6, 3) := by decide +kernel
theorem dX7_tells_65 : decode cX7_tells 65 = .ok (.bipush (-11), 2) := by decide +kernel
theorem dX7_tells_67 : decode cX7_tells 67 = .ok (.ireturn, 1) := by decide +kernel
theorem dX7_tells_68 : decode cX7_tells 68 = .ok (.aload_n 0, 1) := by decide +kernel
theorem dX7_tells_69 : decode cX7_tells 69 = .ok (.getfield 57, 3) := by decide +kernel
theorem dX7_tells_72 : decode cX7_tells 72 = .ok (.getfield 200, 3) := by decide +kernel
theorem dX7_tells_75 : decode cX7_tells 75 = .ok (.iload_n 1, 1) := by decide +kernel
theorem dX7_tells_76 : decode cX7_tells 76 = .ok (.iaload, 1) := by decide +kernel
theorem dX7_tells_77 : decode cX7_tells 77 = .ok (.aload_n 0, 1) := by decide +kernel
theorem dX7_tells_78 : decode cX7_tells 78 = .ok (.getfield 10, 3) := by decide +kernel
theorem dX7_tells_81 : decode cX7_tells 81 = .ok (.getfield 82, 3) := by decide +kernel
theorem dX7_tells_84 : decode cX7_tells 84 = .ok (.if_icmp .eq 6, 3) := by decide +kernel
theorem dX7_tells_87 : decode cX7_tells 87 = .ok (.bipush (-2), 2) := by decide +kernel
theorem dX7_tells_89 : decode cX7_tells 89 = .ok (.ireturn, 1) := by decide +kernel
theorem dX7_tells_90 : decode cX7_tells 90 = .ok (.iload_n 2, 1) := by decide +kernel
theorem dX7_tells_91 : decode cX7_tells 91 = .ok (.ifCond .ne 13, 3) := by decide +kernel
theorem dX7_tells_94 : decode cX7_tells 94 = .ok (.aload_n 0, 1) := by decide +kernel
theorem dX7_tells_95 : decode cX7_tells 95 = .ok (.aload_n 0, 1) := by decide +kernel
theorem dX7_tells_96 : decode cX7_tells 96 = .ok (.getfield 10, 3) := by decide +kernel
theorem dX7_tells_99 : decode cX7_tells 99 = .ok (.iload_n 1, 1) := by decide +kernel
theorem dX7_tells_100 : decode cX7_tells 100 = .ok (.invokevirtual 202, 3) := by decide +kernel
theorem dX7_tells_103 : decode cX7_tells 103 = .ok (.ireturn, 1) := by decide +kernel
theorem dX7_tells_104 : decode cX7_tells 104 = .ok (.aload_n 0, 1) := by decide +kernel
theorem dX7_tells_105 : decode cX7_tells 105 = .ok (.iload_n 1, 1) := by decide +kernel
theorem dX7_tells_106 : decode cX7_tells 106 = .ok (.iload_n 2, 1) := by decide +kernel
theorem dX7_tells_107 : decode cX7_tells 107 = .ok (.invokevirtual 205, 3) := by decide +kernel
theorem dX7_tells_110 : decode cX7_tells 110 = .ok (.ireturn, 1) := by decide +kernel
theorem dX7_film_0 : decode cX7_film 0 = .ok (.aload_n 0, 1) := by decide +kernel
theorem dX7_film_1 : decode cX7_film 1 = .ok (.getfield 57, 3) := by decide +kernel
theorem dX7_film_4 : decode cX7_film 4 = .ok (.iload_n 1, 1) := by decide +kernel
theorem dX7_film_5 : decode cX7_film 5 = .ok (.invokevirtual 158, 3) := by decide +kernel
theorem dX7_film_8 : decode cX7_film 8 = .ok (.ifCond .ne 6, 3) := by decide +kernel
theorem dX7_film_11 : decode cX7_film 11 = .ok (.bipush (-2), 2) := by decide +kernel
theorem dX7_film_13 : decode cX7_film 13 = .ok (.ireturn, 1) := by decide +kernel
theorem dX7_film_14 : decode cX7_film 14 = .ok (.aload_n 0, 1) := by decide +kernel
theorem dX7_film_15 : decode cX7_film 15 = .ok (.getfield 41, 3) := by decide +kernel
theorem dX7_film_18 : decode cX7_film 18 = .ok (.aload_n 0, 1) := by decide +kernel
theorem dX7_film_19 : decode cX7_film 19 = .ok (.getfield 10, 3) := by decide +kernel
theorem dX7_film_22 : decode cX7_film 22 = .ok (.bipush 127, 2) := by decide +kernel
theorem dX7_film_24 : decode cX7_film 24 = .ok (.invokevirtual 113, 3) := by decide +kernel
theorem dX7_film_27 : decode cX7_film 27 = .ok (.aload_n 0, 1) := by decide +kernel
theorem dX7_film_28 : decode cX7_film 28 = .ok (.getfield 41, 3) := by decide +kernel
theorem dX7_film_31 : decode cX7_film 31 = .ok (.aload_n 0, 1) := by decide +kernel
theorem dX7_film_32 : decode cX7_film 32 = .ok (.getfield 10, 3) := by decide +kernel
theorem dX7_film_35 : decode cX7_film 35 = .ok (.invokevirtual 117, 3) := by decide +kernel
theorem dX7_film_38 : decode cX7_film 38 = .ok (.aload_n 0, 1) := by decide +kernel
theorem dX7_film_39 : decode cX7_film 39 = .ok (.getfield 57, 3) := by decide +kernel
theorem dX7_film_42 : decode cX7_film 42 = .ok (.iload_n 1, 1) := by decide +kernel
theorem dX7_film_43 : decode cX7_film 43 = .ok (.iconst 0, 1) := by decide +kernel
theorem dX7_film_44 : decode cX7_film 44 = .ok (.aload_n 0, 1) := by decide +kernel
theorem dX7_film_45 : decode cX7_film 45 = .ok (.getfield 10, 3) := by decide +kernel
theorem dX7_film_48 : decode cX7_film 48 = .ok (.getfield 82, 3) := by decide +kernel
theorem dX7_film_51 : decode cX7_film 51 = .ok (.invokevirtual 208, 3) := by decide +kernel
theorem dX7_film_54 : decode cX7_film 54 = .ok (.aload_n 0, 1) := by decide +kernel
theorem dX7_film_55 : decode cX7_film 55 = .ok (.getfield 41, 3) := by decide +kernel
theorem dX7_film_58 : decode cX7_film 58 = .ok (.invokevirtual 120, 3) := by decide +kernel
theorem dX7_film_61 : decode cX7_film 61 = .ok (.iconst 0, 1) := by decide +kernel
theorem dX7_film_62 : decode cX7_film 62 = .ok (.aload_n 0, 1) := by decide +kernel
theorem dX7_film_63 : decode cX7_film 63 = .ok (.getfield 57, 3) := by decide +kernel
theorem dX7_film_66 : decode cX7_film 66 = .ok (.getfield 211, 3) := by decide +kernel
theorem dX7_film_69 : decode cX7_film 69 = .ok (.iload_n 1, 1) := by decide +kernel
theorem dX7_film_70 : decode cX7_film 70 = .ok (.aaload, 1) := by decide +kernel
theorem dX7_film_71 : decode cX7_film 71 = .ok (.iconst 0, 1) := by decide +kernel
theorem dX7_film_72 : decode cX7_film 72 = .ok (.aload_n 0, 1) := by decide +kernel
theorem dX7_film_73 : decode cX7_film 73 = .ok (.getfield 10, 3) := by decide +kernel
theorem dX7_film_76 : decode cX7_film 76 = .ok (.getfield 82, 3) := by decide +kernel
theorem dX7_film_79 : decode cX7_film 79 = .ok (.invokestatic 124, 3) := by decide +kernel
theorem dX7_film_82 : decode cX7_film 82 = .ok (.aload_n 0, 1) := by decide +kernel
theorem dX7_film_83 : decode cX7_film 83 = .ok (.getfield 10, 3) := by decide +kernel
theorem dX7_film_86 : decode cX7_film 86 = .ok (.getfield 82, 3) := by decide +kernel
theorem dX7_film_89 : decode cX7_film 89 = .ok (.ireturn, 1) := by decide +kernel
theorem dX7_drawn_0 : decode cX7_drawn 0 = .ok (.aload_n 0, 1) := by decide +kernel
theorem dX7_drawn_1 : decode cX7_drawn 1 = .ok (.getfield 19, 3) := by decide +kernel
theorem dX7_drawn_4 : decode cX7_drawn 4 = .ok (.aload_n 0, 1) := by decide +kernel
theorem dX7_drawn_5 : decode cX7_drawn 5 = .ok (.getfield 10, 3) := by decide +kernel
theorem dX7_drawn_8 : decode cX7_drawn 8 = .ok (.invokevirtual 214, 3) := by decide +kernel
theorem dX7_drawn_11 : decode cX7_drawn 11 = .ok (.aload_n 0, 1) := by decide +kernel
theorem dX7_drawn_12 : decode cX7_drawn 12 = .ok (.getfield 19, 3) := by decide +kernel
theorem dX7_drawn_15 : decode cX7_drawn 15 = .ok (.iload_n 1, 1) := by decide +kernel
theorem dX7_drawn_16 : decode cX7_drawn 16 = .ok (.invokevirtual 216, 3) := by decide +kernel
theorem dX7_drawn_19 : decode cX7_drawn 19 = .ok (.aload_n 0, 1) := by decide +kernel
theorem dX7_drawn_20 : decode cX7_drawn 20 = .ok (.getfield 41, 3) := by decide +kernel
theorem dX7_drawn_23 : decode cX7_drawn 23 = .ok (.aload_n 0, 1) := by decide +kernel
theorem dX7_drawn_24 : decode cX7_drawn 24 = .ok (.getfield 19, 3) := by decide +kernel
theorem dX7_drawn_27 : decode cX7_drawn 27 = .ok (.bipush 127, 2) := by decide +kernel
theorem dX7_drawn_29 : decode cX7_drawn 29 = .ok (.invokevirtual 113, 3) := by decide +kernel
theorem dX7_drawn_32 : decode cX7_drawn 32 = .ok (.aload_n 0, 1) := by decide +kernel
theorem dX7_drawn_33 : decode cX7_drawn 33 = .ok (.getfield 41, 3) := by decide +kernel
theorem dX7_drawn_36 : decode cX7_drawn 36 = .ok (.aload_n 0, 1) := by decide +kernel
theorem dX7_drawn_37 : decode cX7_drawn 37 = .ok (.getfield 19, 3) := by decide +kernel
theorem dX7_drawn_40 : decode cX7_drawn 40 = .ok (.invokevirtual 117, 3) := by decide +kernel
theorem dX7_drawn_43 : decode cX7_drawn 43 = .ok (.aload_n 0, 1) := by decide +kernel
theorem dX7_drawn_44 : decode cX7_drawn 44 = .ok (.getfield 41, 3) := by decide +kernel
theorem dX7_drawn_47 : decode cX7_drawn 47 = .ok (.aload_n 0, 1) := by decide +kernel
theorem dX7_drawn_48 : decode cX7_drawn 48 = .ok (.getfield 19, 3) := by decide +kernel
theorem dX7_drawn_51 : decode cX7_drawn 51 = .ok (.invokevirtual 177, 3) := by decide +kernel
theorem dX7_drawn_54 : decode cX7_drawn 54 = .ok (.ireturn, 1) := by decide +kernel
theorem dX7_chance_0 : decode cX7_chance 0 = .ok (.iload_n 2, 1) := by decide +kernel
theorem dX7_chance_1 : decode cX7_chance 1 = .ok (.iconst 1, 1) := by decide +kernel
theorem dX7_chance_2 : decode cX7_chance 2 = .ok (.if_icmp .lt 18, 3) := by decide +kernel
theorem dX7_chance_5 : decode cX7_chance 5 = .ok (.iload_n 2, 1) := by decide +kernel
theorem dX7_chance_6 : decode cX7_chance 6 = .ok (.bipush 20, 2) := by decide +kernel
theorem dX7_chance_8 : decode cX7_chance 8 = .ok (.if_icmp .gt 12, 3) := by decide +kernel
theorem dX7_chance_11 : decode cX7_chance 11 = .ok (.iload_n 3, 1) := by decide +kernel
theorem dX7_chance_12 : decode cX7_chance 12 = .ok (.ifCond .lt 8, 3) := by decide +kernel
theorem dX7_chance_15 : decode cX7_chance 15 = .ok (.iload_n 3, 1) := by decide +kernel
theorem dX7_chance_16 : decode cX7_chance 16 = .ok (.iconst 1, 1) := by decide +kernel
theorem dX7_chance_17 : decode cX7_chance 17 = .ok (.if_icmp .le 7, 3) := by decide +kernel
theorem dX7_chance_20 : decode cX7_chance 20 = .ok (.ldc2_w 220, 3) := by decide +kernel
theorem dX7_chance_23 : decode cX7_chance 23 = .ok (.lreturn, 1) := by decide +kernel
theorem dX7_chance_24 : decode cX7_chance 24 = .ok (.iconst 0, 1) := by decide +kernel
theorem dX7_chance_25 : decode cX7_chance 25 = .ok (.istore 4, 2) := by decide +kernel
theorem dX7_chance_27 : decode cX7_chance 27 = .ok (.iconst 0, 1) := by decide +kernel
theorem dX7_chance_28 : decode cX7_chance 28 = .ok (.istore 5, 2) := by decide +kernel
theorem dX7_chance_30 : decode cX7_chance 30 = .ok (.iload 5, 2) := by decide +kernel
theorem dX7_chance_32 : decode cX7_chance 32 = .ok (.iload_n 2, 1) := by decide +kernel
theorem dX7_chance_33 : decode cX7_chance 33 = .ok (.if_icmp .ge 60, 3) := by decide +kernel
theorem dX7_chance_36 : decode cX7_chance 36 = .ok (.aload_n 0, 1) := by decide +kernel
theorem dX7_chance_37 : decode cX7_chance 37 = .ok (.iload_n 1, 1) := by decide +kernel
theorem dX7_chance_38 : decode cX7_chance 38 = .ok (.iload 5, 2) := by decide +kernel
theorem dX7_chance_40 : decode cX7_chance 40 = .ok (.iadd, 1) := by decide +kernel
theorem dX7_chance_41 : decode cX7_chance 41 = .ok (.invokevirtual 222, 3) := by decide +kernel
theorem dX7_chance_44 : decode cX7_chance 44 = .ok (.istore 6, 2) := by decide +kernel
theorem dX7_chance_46 : decode cX7_chance 46 = .ok (.aload_n 0, 1) := by decide +kernel
theorem dX7_chance_47 : decode cX7_chance 47 = .ok (.getfield 41, 3) := by decide +kernel
theorem dX7_chance_50 : decode cX7_chance 50 = .ok (.aload_n 0, 1) := by decide +kernel
theorem dX7_chance_51 : decode cX7_chance 51 = .ok (.getfield 19, 3) := by decide +kernel
theorem dX7_chance_54 : decode cX7_chance 54 = .ok (.invokevirtual 174, 3) := by decide +kernel
theorem dX7_chance_57 : decode cX7_chance 57 = .ok (.aload_n 0, 1) := by decide +kernel
theorem dX7_chance_58 : decode cX7_chance 58 = .ok (.getfield 41, 3) := by decide +kernel
theorem dX7_chance_61 : decode cX7_chance 61 = .ok (.aload_n 0, 1) := by decide +kernel
theorem dX7_chance_62 : decode cX7_chance 62 = .ok (.getfield 19, 3) := by decide +kernel
theorem dX7_chance_65 : decode cX7_chance 65 = .ok (.invokevirtual 117, 3) := by decide +kernel
theorem dX7_chance_68 : decode cX7_chance 68 = .ok (.aload_n 0, 1) := by decide +kernel
theorem dX7_chance_69 : decode cX7_chance 69 = .ok (.getfield 41, 3) := by decide +kernel
theorem dX7_chance_72 : decode cX7_chance 72 = .ok (.aload_n 0, 1) := by decide +kernel
theorem dX7_chance_73 : decode cX7_chance 73 = .ok (.getfield 19, 3) := by decide +kernel
theorem dX7_chance_76 : decode cX7_chance 76 = .ok (.invokevirtual 177, 3) := by decide +kernel
theorem dX7_chance_79 : decode cX7_chance 79 = .ok (.iload 6, 2) := by decide +kernel
theorem dX7_chance_81 : decode cX7_chance 81 = .ok (.if_icmp .gt 6, 3) := by decide +kernel
theorem dX7_chance_84 : decode cX7_chance 84 = .ok (.iinc 4 1, 3) := by decide +kernel
theorem dX7_chance_87 : decode cX7_chance 87 = .ok (.iinc 5 1, 3) := by decide +kernel
theorem dX7_chance_90 : decode cX7_chance 90 = .ok (.goto (-60), 3) := by decide +kernel
theorem dX7_chance_93 : decode cX7_chance 93 = .ok (.iload 4, 2) := by decide +kernel
theorem dX7_chance_95 : decode cX7_chance 95 = .ok (.iload_n 2, 1) := by decide +kernel
theorem dX7_chance_96 : decode cX7_chance 96 = .ok (.invokestatic 225, 3) := by decide +kernel
theorem dX7_chance_99 : decode cX7_chance 99 = .ok (.istore 5, 2) := by decide +kernel
theorem dX7_chance_101 : decode cX7_chance 101 = .ok (.iload 5, 2) := by decide +kernel
theorem dX7_chance_103 : decode cX7_chance 103 = .ok (.iconst 1, 1) := by decide +kernel
theorem dX7_chance_104 : decode cX7_chance 104 = .ok (.if_icmp .ge 7, 3) := by decide +kernel
theorem dX7_chance_107 : decode cX7_chance 107 = .ok (.ldc2_w 220, 3) := by decide +kernel
theorem dX7_chance_110 : decode cX7_chance 110 = .ok (.lreturn, 1) := by decide +kernel
theorem dX7_chance_111 : decode cX7_chance 111 = .ok (.iload_n 3, 1) := by decide +kernel
theorem dX7_chance_112 : decode cX7_chance 112 = .ok (.ifCond .ne 12, 3) := by decide +kernel
theorem dX7_chance_115 : decode cX7_chance 115 = .ok (.iload 4, 2) := by decide +kernel
theorem dX7_chance_117 : decode cX7_chance 117 = .ok (.iload 5, 2) := by decide +kernel
theorem dX7_chance_119 : decode cX7_chance 119 = .ok (.idiv, 1) := by decide +kernel
theorem dX7_chance_120 : decode cX7_chance 120 = .ok (.i2l, 1) := by decide +kernel
theorem dX7_chance_121 : decode cX7_chance 121 = .ok (.goto 8, 3) := by decide +kernel
theorem dX7_chance_124 : decode cX7_chance 124 = .ok (.iload_n 2, 1) := by decide +kernel
theorem dX7_chance_125 : decode cX7_chance 125 = .ok (.iload 5, 2) := by decide +kernel
theorem dX7_chance_127 : decode cX7_chance 127 = .ok (.idiv, 1) := by decide +kernel
theorem dX7_chance_128 : decode cX7_chance 128 = .ok (.i2l, 1) := by decide +kernel
theorem dX7_chance_129 : decode cX7_chance 129 = .ok (.lreturn, 1) := by decide +kernel
theorem dX7_image_0 : decode cX7_image 0 = .ok (.aload_n 0, 1) := by decide +kernel
theorem dX7_image_1 : decode cX7_image 1 = .ok (.getfield 16, 3) := by decide +kernel
theorem dX7_image_4 : decode cX7_image 4 = .ok (.aload_n 0, 1) := by decide +kernel
theorem dX7_image_5 : decode cX7_image 5 = .ok (.getfield 10, 3) := by decide +kernel
theorem dX7_image_8 : decode cX7_image 8 = .ok (.invokevirtual 214, 3) := by decide +kernel
theorem dX7_image_11 : decode cX7_image 11 = .ok (.aload_n 0, 1) := by decide +kernel
theorem dX7_image_12 : decode cX7_image 12 = .ok (.iconst 1, 1) := by decide +kernel
theorem dX7_image_13 : decode cX7_image 13 = .ok (.putfield 228, 3) := by decide +kernel
theorem dX7_image_16 : decode cX7_image 16 = .ok (.aload_n 0, 1) := by decide +kernel
theorem dX7_image_17 : decode cX7_image 17 = .ok (.getfield 16, 3) := by decide +kernel
theorem dX7_image_20 : decode cX7_image 20 = .ok (.getfield 82, 3) := by decide +kernel
theorem dX7_image_23 : decode cX7_image 23 = .ok (.ireturn, 1) := by decide +kernel
theorem dX7_back_0 : decode cX7_back 0 = .ok (.aload_n 0, 1) := by decide +kernel
theorem dX7_back_1 : decode cX7_back 1 = .ok (.getfield 228, 3) := by decide +kernel
theorem dX7_back_4 : decode cX7_back 4 = .ok (.ifCond .ne 6, 3) := by decide +kernel
theorem dX7_back_7 : decode cX7_back 7 = .ok (.bipush (-3), 2) := by decide +kernel
theorem dX7_back_9 : decode cX7_back 9 = .ok (.ireturn, 1) := by decide +kernel
theorem dX7_back_10 : decode cX7_back 10 = .ok (.aload_n 0, 1) := by decide +kernel
theorem dX7_back_11 : decode cX7_back 11 = .ok (.getfield 10, 3) := by decide +kernel
theorem dX7_back_14 : decode cX7_back 14 = .ok (.aload_n 0, 1) := by decide +kernel
theorem dX7_back_15 : decode cX7_back 15 = .ok (.getfield 16, 3) := by decide +kernel
theorem dX7_back_18 : decode cX7_back 18 = .ok (.invokevirtual 214, 3) := by decide +kernel
theorem dX7_back_21 : decode cX7_back 21 = .ok (.aload_n 0, 1) := by decide +kernel
theorem dX7_back_22 : decode cX7_back 22 = .ok (.getfield 10, 3) := by decide +kernel
theorem dX7_back_25 : decode cX7_back 25 = .ok (.getfield 82, 3) := by decide +kernel
theorem dX7_back_28 : decode cX7_back 28 = .ok (.ireturn, 1) := by decide +kernel
theorem dX7_count_0 : decode cX7_count 0 = .ok (.iload_n 1, 1) := by decide +kernel
theorem dX7_count_1 : decode cX7_count 1 = .ok (.tableswitch 82 0 4 #[35, 43, 51, 59, 67], 35) := by decide +kernel
theorem dX7_count_36 : decode cX7_count 36 = .ok (.aload_n 0, 1) := by decide +kernel
theorem dX7_count_37 : decode cX7_count 37 = .ok (.getfield 10, 3) := by decide +kernel
theorem dX7_count_40 : decode cX7_count 40 = .ok (.getfield 82, 3) := by decide +kernel
theorem dX7_count_43 : decode cX7_count 43 = .ok (.ireturn, 1) := by decide +kernel
theorem dX7_count_44 : decode cX7_count 44 = .ok (.aload_n 0, 1) := by decide +kernel
theorem dX7_count_45 : decode cX7_count 45 = .ok (.getfield 25, 3) := by decide +kernel
theorem dX7_count_48 : decode cX7_count 48 = .ok (.getfield 136, 3) := by decide +kernel
theorem dX7_count_51 : decode cX7_count 51 = .ok (.ireturn, 1) := by decide +kernel
theorem dX7_count_52 : decode cX7_count 52 = .ok (.aload_n 0, 1) := by decide +kernel
theorem dX7_count_53 : decode cX7_count 53 = .ok (.getfield 32, 3) := by decide +kernel
theorem dX7_count_56 : decode cX7_count 56 = .ok (.getfield 133, 3) := by decide +kernel
theorem dX7_count_59 : decode cX7_count 59 = .ok (.ireturn, 1) := by decide +kernel
theorem dX7_count_60 : decode cX7_count 60 = .ok (.aload_n 0, 1) := by decide +kernel
theorem dX7_count_61 : decode cX7_count 61 = .ok (.getfield 10, 3) := by decide +kernel
theorem dX7_count_64 : decode cX7_count 64 = .ok (.getfield 148, 3) := by decide +kernel
theorem dX7_count_67 : decode cX7_count 67 = .ok (.ireturn, 1) := by decide +kernel
theorem dX7_count_68 : decode cX7_count 68 = .ok (.aload_n 0, 1) := by decide +kernel
theorem dX7_count_69 : decode cX7_count 69 = .ok (.getfield 10, 3) := by decide +kernel
theorem dX7_count_72 : decode cX7_count 72 = .ok (.aload_n 0, 1) := by decide +kernel
theorem dX7_count_73 : decode cX7_count 73 = .ok (.getfield 10, 3) := by decide +kernel
theorem dX7_count_76 : decode cX7_count 76 = .ok (.getfield 97, 3) := by decide +kernel
theorem dX7_count_79 : decode cX7_count 79 = .ok (.invokevirtual 232, 3) := by decide +kernel
theorem dX7_count_82 : decode cX7_count 82 = .ok (.ireturn, 1) := by decide +kernel
theorem dX7_count_83 : decode cX7_count 83 = .ok (.bipush (-2), 2) := by decide +kernel
theorem dX7_count_85 : decode cX7_count 85 = .ok (.ireturn, 1) := by decide +kernel
theorem dX7_sheet_0 : decode cX7_sheet 0 = .ok (.aload_n 0, 1) := by decide +kernel
theorem dX7_sheet_1 : decode cX7_sheet 1 = .ok (.getfield 57, 3) := by decide +kernel
theorem dX7_sheet_4 : decode cX7_sheet 4 = .ok (.iload_n 1, 1) := by decide +kernel
theorem dX7_sheet_5 : decode cX7_sheet 5 = .ok (.invokevirtual 158, 3) := by decide +kernel
theorem dX7_sheet_8 : decode cX7_sheet 8 = .ok (.ifCond .eq 13, 3) := by decide +kernel
theorem dX7_sheet_11 : decode cX7_sheet 11 = .ok (.iload_n 2, 1) := by decide +kernel
theorem dX7_sheet_12 : decode cX7_sheet 12 = .ok (.iconst (-1), 1) := by decide +kernel
theorem dX7_sheet_13 : decode cX7_sheet 13 = .ok (.if_icmp .lt 8, 3) := by decide +kernel
theorem dX7_sheet_16 : decode cX7_sheet 16 = .ok (.iload_n 2, 1) := by decide +kernel
theorem dX7_sheet_17 : decode cX7_sheet 17 = .ok (.iconst 2, 1) := by decide +kernel
theorem dX7_sheet_18 : decode cX7_sheet 18 = .ok (.if_icmp .le 6, 3) := by decide +kernel
theorem dX7_sheet_21 : decode cX7_sheet 21 = .ok (.bipush (-2), 2) := by decide +kernel
theorem dX7_sheet_23 : decode cX7_sheet 23 = .ok (.ireturn, 1) := by decide +kernel
theorem dX7_sheet_24 : decode cX7_sheet 24 = .ok (.iload_n 2, 1) := by decide +kernel
theorem dX7_sheet_25 : decode cX7_sheet 25 = .ok (.iconst (-1), 1) := by decide +kernel
theorem dX7_sheet_26 : decode cX7_sheet 26 = .ok (.if_icmp .ne 15, 3) := by decide +kernel
theorem dX7_sheet_29 : decode cX7_sheet 29 = .ok (.aload_n 0, 1) := by decide +kernel
theorem dX7_sheet_30 : decode cX7_sheet 30 = .ok (.getfield 57, 3) := by decide +kernel
theorem dX7_sheet_33 : decode cX7_sheet 33 = .ok (.getfield 236, 3) := by decide +kernel
theorem dX7_sheet_36 : decode cX7_sheet 36 = .ok (.iload_n 1, 1) := by decide +kernel
theorem dX7_sheet_37 : decode cX7_sheet 37 = .ok (.iconst (-1), 1) := by decide +kernel
theorem dX7_sheet_38 : decode cX7_sheet 38 = .ok (.iastore, 1) := by decide +kernel
theorem dX7_sheet_39 : decode cX7_sheet 39 = .ok (.iconst 1, 1) := by decide +kernel
theorem dX7_sheet_40 : decode cX7_sheet 40 = .ok (.ireturn, 1) := by decide +kernel
theorem dX7_sheet_41 : decode cX7_sheet 41 = .ok (.iload_n 3, 1) := by decide +kernel
theorem dX7_sheet_42 : decode cX7_sheet 42 = .ok (.bipush 40, 2) := by decide +kernel
theorem dX7_sheet_44 : decode cX7_sheet 44 = .ok (.if_icmp .le 6, 3) := by decide +kernel
theorem dX7_sheet_47 : decode cX7_sheet 47 = .ok (.bipush (-2), 2) := by decide +kernel
theorem dX7_sheet_49 : decode cX7_sheet 49 = .ok (.ireturn, 1) := by decide +kernel
theorem dX7_sheet_50 : decode cX7_sheet 50 = .ok (.iload_n 3, 1) := by decide +kernel
theorem dX7_sheet_51 : decode cX7_sheet 51 = .ok (.ifCond .ge 6, 3) := by decide +kernel
theorem dX7_sheet_54 : decode cX7_sheet 54 = .ok (.bipush (-14), 2) := by decide +kernel
theorem dX7_sheet_56 : decode cX7_sheet 56 = .ok (.ireturn, 1) := by decide +kernel
theorem dX7_sheet_57 : decode cX7_sheet 57 = .ok (.aload_n 0, 1) := by decide +kernel
theorem dX7_sheet_58 : decode cX7_sheet 58 = .ok (.getfield 57, 3) := by decide +kernel
theorem dX7_sheet_61 : decode cX7_sheet 61 = .ok (.iload_n 1, 1) := by decide +kernel
theorem dX7_sheet_62 : decode cX7_sheet 62 = .ok (.iload_n 2, 1) := by decide +kernel
theorem dX7_sheet_63 : decode cX7_sheet 63 = .ok (.iload_n 3, 1) := by decide +kernel
theorem dX7_sheet_64 : decode cX7_sheet 64 = .ok (.invokevirtual 208, 3) := by decide +kernel
theorem dX7_sheet_67 : decode cX7_sheet 67 = .ok (.iconst 1, 1) := by decide +kernel
theorem dX7_sheet_68 : decode cX7_sheet 68 = .ok (.ireturn, 1) := by decide +kernel
theorem dX7_cell_0 : decode cX7_cell 0 = .ok (.aload_n 0, 1) := by decide +kernel
theorem dX7_cell_1 : decode cX7_cell 1 = .ok (.getfield 57, 3) := by decide +kernel
theorem dX7_cell_4 : decode cX7_cell 4 = .ok (.iload_n 1, 1) := by decide +kernel
theorem dX7_cell_5 : decode cX7_cell 5 = .ok (.invokevirtual 158, 3) := by decide +kernel
theorem dX7_cell_8 : decode cX7_cell 8 = .ok (.ifCond .ne 6, 3) := by decide +kernel
theorem dX7_cell_11 : decode cX7_cell 11 = .ok (.bipush (-2), 2) := by decide +kernel
theorem dX7_cell_13 : decode cX7_cell 13 = .ok (.ireturn, 1) := by decide +kernel
theorem dX7_cell_14 : decode cX7_cell 14 = .ok (.aload_n 0, 1) := by decide +kernel
theorem dX7_cell_15 : decode cX7_cell 15 = .ok (.getfield 57, 3) := by decide +kernel
theorem dX7_cell_18 : decode cX7_cell 18 = .ok (.iload_n 1, 1) := by decide +kernel
theorem dX7_cell_19 : decode cX7_cell 19 = .ok (.invokevirtual 159, 3) := by decide +kernel
theorem dX7_cell_22 : decode cX7_cell 22 = .ok (.ifCond .eq 6, 3) := by decide +kernel
theorem dX7_cell_25 : decode cX7_cell 25 = .ok (.bipush (-11), 2) := by decide +kernel
theorem dX7_cell_27 : decode cX7_cell 27 = .ok (.ireturn, 1) := by decide +kernel
theorem dX7_cell_28 : decode cX7_cell 28 = .ok (.aload_n 0, 1) := by decide +kernel
theorem dX7_cell_29 : decode cX7_cell 29 = .ok (.getfield 57, 3) := by decide +kernel
theorem dX7_cell_32 : decode cX7_cell 32 = .ok (.iload_n 1, 1) := by decide +kernel
theorem dX7_cell_33 : decode cX7_cell 33 = .ok (.iload_n 2, 1) := by decide +kernel
theorem dX7_cell_34 : decode cX7_cell 34 = .ok (.invokevirtual 239, 3) := by decide +kernel
theorem dX7_cell_37 : decode cX7_cell 37 = .ok (.ifCond .ne 6, 3) := by decide +kernel
theorem dX7_cell_40 : decode cX7_cell 40 = .ok (.bipush (-12), 2) := by decide +kernel
theorem dX7_cell_42 : decode cX7_cell 42 = .ok (.ireturn, 1) := by decide +kernel
theorem dX7_cell_43 : decode cX7_cell 43 = .ok (.aload_n 0, 1) := by decide +kernel
theorem dX7_cell_44 : decode cX7_cell 44 = .ok (.getfield 57, 3) := by decide +kernel
theorem dX7_cell_47 : decode cX7_cell 47 = .ok (.iload_n 1, 1) := by decide +kernel
theorem dX7_cell_48 : decode cX7_cell 48 = .ok (.iload_n 2, 1) := by decide +kernel
theorem dX7_cell_49 : decode cX7_cell 49 = .ok (.iload_n 3, 1) := by decide +kernel
theorem dX7_cell_50 : decode cX7_cell 50 = .ok (.invokevirtual 242, 3) := by decide +kernel
theorem dX7_cell_53 : decode cX7_cell 53 = .ok (.iconst 1, 1) := by decide +kernel
theorem dX7_cell_54 : decode cX7_cell 54 = .ok (.ireturn, 1) := by decide +kernel
theorem dX7_copy_0 : decode cX7_copy 0 = .ok (.aload_n 0, 1) := by decide +kernel
theorem dX7_copy_1 : decode cX7_copy 1 = .ok (.getfield 57, 3) := by decide +kernel
theorem dX7_copy_4 : decode cX7_copy 4 = .ok (.iload_n 1, 1) := by decide +kernel
theorem dX7_copy_5 : decode cX7_copy 5 = .ok (.invokevirtual 158, 3) := by decide +kernel
theorem dX7_copy_8 : decode cX7_copy 8 = .ok (.ifCond .eq 14, 3) := by decide +kernel
theorem dX7_copy_11 : decode cX7_copy 11 = .ok (.aload_n 0, 1) := by decide +kernel
theorem dX7_copy_12 : decode cX7_copy 12 = .ok (.getfield 57, 3) := by decide +kernel
theorem dX7_copy_15 : decode cX7_copy 15 = .ok (.iload_n 3, 1) := by decide +kernel
theorem dX7_copy_16 : decode cX7_copy 16 = .ok (.invokevirtual 158, 3) := by decide +kernel
theorem dX7_copy_19 : decode cX7_copy 19 = .ok (.ifCond .ne 6, 3) := by decide +kernel
theorem dX7_copy_22 : decode cX7_copy 22 = .ok (.bipush (-2), 2) := by decide +kernel
theorem dX7_copy_24 : decode cX7_copy 24 = .ok (.ireturn, 1) := by decide +kernel
theorem dX7_copy_25 : decode cX7_copy 25 = .ok (.aload_n 0, 1) := by decide +kernel
theorem dX7_copy_26 : decode cX7_copy 26 = .ok (.getfield 57, 3) := by decide +kernel
theorem dX7_copy_29 : decode cX7_copy 29 = .ok (.iload_n 1, 1) := by decide +kernel
theorem dX7_copy_30 : decode cX7_copy 30 = .ok (.invokevirtual 159, 3) := by decide +kernel
theorem dX7_copy_33 : decode cX7_copy 33 = .ok (.ifCond .ne 14, 3) := by decide +kernel
theorem dX7_copy_36 : decode cX7_copy 36 = .ok (.aload_n 0, 1) := by decide +kernel
theorem dX7_copy_37 : decode cX7_copy 37 = .ok (.getfield 57, 3) := by decide +kernel
theorem dX7_copy_40 : decode cX7_copy 40 = .ok (.iload_n 3, 1) := by decide +kernel
theorem dX7_copy_41 : decode cX7_copy 41 = .ok (.invokevirtual 159, 3) := by decide +kernel
theorem dX7_copy_44 : decode cX7_copy 44 = .ok (.ifCond .eq 6, 3) := by decide +kernel
theorem dX7_copy_47 : decode cX7_copy 47 = .ok (.bipush (-11), 2) := by decide +kernel
theorem dX7_copy_49 : decode cX7_copy 49 = .ok (.ireturn, 1) := by decide +kernel
theorem dX7_copy_50 : decode cX7_copy 50 = .ok (.aload_n 0, 1) := by decide +kernel
theorem dX7_copy_51 : decode cX7_copy 51 = .ok (.getfield 57, 3) := by decide +kernel
theorem dX7_copy_54 : decode cX7_copy 54 = .ok (.getfield 236, 3) := by decide +kernel
theorem dX7_copy_57 : decode cX7_copy 57 = .ok (.iload_n 1, 1) := by decide +kernel
theorem dX7_copy_58 : decode cX7_copy 58 = .ok (.iaload, 1) := by decide +kernel
theorem dX7_copy_59 : decode cX7_copy 59 = .ok (.aload_n 0, 1) := by decide +kernel
theorem dX7_copy_60 : decode cX7_copy 60 = .ok (.getfield 57, 3) := by decide +kernel
theorem dX7_copy_63 : decode cX7_copy 63 = .ok (.getfield 236, 3) := by decide +kernel
theorem dX7_copy_66 : decode cX7_copy 66 = .ok (.iload_n 3, 1) := by decide +kernel
theorem dX7_copy_67 : decode cX7_copy 67 = .ok (.iaload, 1) := by decide +kernel
theorem dX7_copy_68 : decode cX7_copy 68 = .ok (.if_icmp .eq 6, 3) := by decide +kernel
theorem dX7_copy_71 : decode cX7_copy 71 = .ok (.bipush (-13), 2) := by decide +kernel
theorem dX7_copy_73 : decode cX7_copy 73 = .ok (.ireturn, 1) := by decide +kernel
theorem dX7_copy_74 : decode cX7_copy 74 = .ok (.aload_n 0, 1) := by decide +kernel
theorem dX7_copy_75 : decode cX7_copy 75 = .ok (.getfield 57, 3) := by decide +kernel
theorem dX7_copy_78 : decode cX7_copy 78 = .ok (.iload_n 1, 1) := by decide +kernel
theorem dX7_copy_79 : decode cX7_copy 79 = .ok (.iload_n 2, 1) := by decide +kernel
theorem dX7_copy_80 : decode cX7_copy 80 = .ok (.iload 5, 2) := by decide +kernel
theorem dX7_copy_82 : decode cX7_copy 82 = .ok (.invokevirtual 243, 3) := by decide +kernel
theorem dX7_copy_85 : decode cX7_copy 85 = .ok (.ifCond .eq 18, 3) := by decide +kernel
theorem dX7_copy_88 : decode cX7_copy 88 = .ok (.aload_n 0, 1) := by decide +kernel
theorem dX7_copy_89 : decode cX7_copy 89 = .ok (.getfield 57, 3) := by decide +kernel
theorem dX7_copy_92 : decode cX7_copy 92 = .ok (.iload_n 3, 1) := by decide +kernel
theorem dX7_copy_93 : decode cX7_copy 93 = .ok (.iload 4, 2) := by decide +kernel
theorem dX7_copy_95 : decode cX7_copy 95 = .ok (.iload 5, 2) := by decide +kernel
theorem dX7_copy_97 : decode cX7_copy 97 = .ok (.invokevirtual 243, 3) := by decide +kernel
theorem dX7_copy_100 : decode cX7_copy 100 = .ok (.ifCond .ne 6, 3) := by decide +kernel
theorem dX7_copy_103 : decode cX7_copy 103 = .ok (.bipush (-12), 2) := by decide +kernel
theorem dX7_copy_105 : decode cX7_copy 105 = .ok (.ireturn, 1) := by decide +kernel
theorem dX7_copy_106 : decode cX7_copy 106 = .ok (.aload_n 0, 1) := by decide +kernel
theorem dX7_copy_107 : decode cX7_copy 107 = .ok (.getfield 57, 3) := by decide +kernel
theorem dX7_copy_110 : decode cX7_copy 110 = .ok (.getfield 211, 3) := by decide +kernel
theorem dX7_copy_113 : decode cX7_copy 113 = .ok (.iload_n 1, 1) := by decide +kernel
theorem dX7_copy_114 : decode cX7_copy 114 = .ok (.aaload, 1) := by decide +kernel
theorem dX7_copy_115 : decode cX7_copy 115 = .ok (.iload_n 2, 1) := by decide +kernel
theorem dX7_copy_116 : decode cX7_copy 116 = .ok (.aload_n 0, 1) := by decide +kernel
theorem dX7_copy_117 : decode cX7_copy 117 = .ok (.getfield 57, 3) := by decide +kernel
theorem dX7_copy_120 : decode cX7_copy 120 = .ok (.getfield 211, 3) := by decide +kernel
theorem dX7_copy_123 : decode cX7_copy 123 = .ok (.iload_n 3, 1) := by decide +kernel
theorem dX7_copy_124 : decode cX7_copy 124 = .ok (.aaload, 1) := by decide +kernel
theorem dX7_copy_125 : decode cX7_copy 125 = .ok (.iload 4, 2) := by decide +kernel
theorem dX7_copy_127 : decode cX7_copy 127 = .ok (.iload 5, 2) := by decide +kernel
theorem dX7_copy_129 : decode cX7_copy 129 = .ok (.invokestatic 124, 3) := by decide +kernel
theorem dX7_copy_132 : decode cX7_copy 132 = .ok (.iload 5, 2) := by decide +kernel
theorem dX7_copy_134 : decode cX7_copy 134 = .ok (.ireturn, 1) := by decide +kernel
theorem dX7_parts_0 : decode cX7_parts 0 = .ok (.aload_n 0, 1) := by decide +kernel
theorem dX7_parts_1 : decode cX7_parts 1 = .ok (.getfield 57, 3) := by decide +kernel
theorem dX7_parts_4 : decode cX7_parts 4 = .ok (.iload_n 1, 1) := by decide +kernel
theorem dX7_parts_5 : decode cX7_parts 5 = .ok (.invokevirtual 158, 3) := by decide +kernel
theorem dX7_parts_8 : decode cX7_parts 8 = .ok (.ifCond .eq 24, 3) := by decide +kernel
theorem dX7_parts_11 : decode cX7_parts 11 = .ok (.iload_n 2, 1) := by decide +kernel
theorem dX7_parts_12 : decode cX7_parts 12 = .ok (.ifCond .lt 20, 3) := by decide +kernel
theorem dX7_parts_15 : decode cX7_parts 15 = .ok (.iload_n 2, 1) := by decide +kernel
theorem dX7_parts_16 : decode cX7_parts 16 = .ok (.iconst 2, 1) := by decide +kernel
theorem dX7_parts_17 : decode cX7_parts 17 = .ok (.if_icmp .gt 15, 3) := by decide +kernel
theorem dX7_parts_20 : decode cX7_parts 20 = .ok (.iload 4, 2) := by decide +kernel
theorem dX7_parts_22 : decode cX7_parts 22 = .ok (.ifCond .lt 10, 3) := by decide +kernel
theorem dX7_parts_25 : decode cX7_parts 25 = .ok (.iload 4, 2) := by decide +kernel
theorem dX7_parts_27 : decode cX7_parts 27 = .ok (.bipush 7, 2) := by decide +kernel
theorem dX7_parts_29 : decode cX7_parts 29 = .ok (.if_icmp .le 6, 3) := by decide +kernel
theorem dX7_parts_32 : decode cX7_parts 32 = .ok (.bipush (-2), 2) := by decide +kernel
theorem dX7_parts_34 : decode cX7_parts 34 = .ok (.ireturn, 1) := by decide +kernel
theorem dX7_parts_35 : decode cX7_parts 35 = .ok (.aload_n 0, 1) := by decide +kernel
theorem dX7_parts_36 : decode cX7_parts 36 = .ok (.getfield 57, 3) := by decide +kernel
theorem dX7_parts_39 : decode cX7_parts 39 = .ok (.iload_n 1, 1) := by decide +kernel
theorem dX7_parts_40 : decode cX7_parts 40 = .ok (.invokevirtual 159, 3) := by decide +kernel
theorem dX7_parts_43 : decode cX7_parts 43 = .ok (.ifCond .eq 6, 3) := by decide +kernel
theorem dX7_parts_46 : decode cX7_parts 46 = .ok (.bipush (-11), 2) := by decide +kernel
theorem dX7_parts_48 : decode cX7_parts 48 = .ok (.ireturn, 1) := by decide +kernel
theorem dX7_parts_49 : decode cX7_parts 49 = .ok (.aload_n 0, 1) := by decide +kernel
theorem dX7_parts_50 : decode cX7_parts 50 = .ok (.getfield 57, 3) := by decide +kernel
theorem dX7_parts_53 : decode cX7_parts 53 = .ok (.getfield 236, 3) := by decide +kernel
theorem dX7_parts_56 : decode cX7_parts 56 = .ok (.iload_n 1, 1) := by decide +kernel
theorem dX7_parts_57 : decode cX7_parts 57 = .ok (.iaload, 1) := by decide +kernel
theorem dX7_parts_58 : decode cX7_parts 58 = .ok (.iload_n 2, 1) := by decide +kernel
theorem dX7_parts_59 : decode cX7_parts 59 = .ok (.if_icmp .eq 6, 3) := by decide +kernel
theorem dX7_parts_62 : decode cX7_parts 62 = .ok (.bipush (-13), 2) := by decide +kernel
theorem dX7_parts_64 : decode cX7_parts 64 = .ok (.ireturn, 1) := by decide +kernel
theorem dX7_parts_65 : decode cX7_parts 65 = .ok (.iconst 0, 1) := by decide +kernel
theorem dX7_parts_66 : decode cX7_parts 66 = .ok (.istore 5, 2) := by decide +kernel
theorem dX7_parts_68 : decode cX7_parts 68 = .ok (.iconst 0, 1) := by decide +kernel
theorem dX7_parts_69 : decode cX7_parts 69 = .ok (.istore 6, 2) := by decide +kernel
theorem dX7_parts_71 : decode cX7_parts 71 = .ok (.iload 6, 2) := by decide +kernel
theorem dX7_parts_73 : decode cX7_parts 73 = .ok (.iload 4, 2) := by decide +kernel
theorem dX7_parts_75 : decode cX7_parts 75 = .ok (.if_icmp .ge 84, 3) := by decide +kernel
theorem dX7_parts_78 : decode cX7_parts 78 = .ok (.iload_n 3, 1) := by decide +kernel
theorem dX7_parts_79 : decode cX7_parts 79 = .ok (.iconst 2, 1) := by decide +kernel
theorem dX7_parts_80 : decode cX7_parts 80 = .ok (.iload 6, 2) := by decide +kernel
theorem dX7_parts_82 : decode cX7_parts 82 = .ok (.imul, 1) := by decide +kernel
theorem dX7_parts_83 : decode cX7_parts 83 = .ok (.iadd, 1) := by decide +kernel
theorem dX7_parts_84 : decode cX7_parts 84 = .ok (.istore 7, 2) := by decide +kernel
theorem dX7_parts_86 : decode cX7_parts 86 = .ok (.aload_n 0, 1) := by decide +kernel
theorem dX7_parts_87 : decode cX7_parts 87 = .ok (.getfield 57, 3) := by decide +kernel
theorem dX7_parts_90 : decode cX7_parts 90 = .ok (.iload_n 1, 1) := by decide +kernel
theorem dX7_parts_91 : decode cX7_parts 91 = .ok (.iload 7, 2) := by decide +kernel
theorem dX7_parts_93 : decode cX7_parts 93 = .ok (.invokevirtual 239, 3) := by decide +kernel
theorem dX7_parts_96 : decode cX7_parts 96 = .ok (.ifCond .eq 18, 3) := by decide +kernel
theorem dX7_parts_99 : decode cX7_parts 99 = .ok (.aload_n 0, 1) := by decide +kernel
theorem dX7_parts_100 : decode cX7_parts 100 = .ok (.getfield 57, 3) := by decide +kernel
theorem dX7_parts_103 : decode cX7_parts 103 = .ok (.iload_n 1, 1) := by decide +kernel
theorem dX7_parts_104 : decode cX7_parts 104 = .ok (.iload 7, 2) := by decide +kernel
theorem dX7_parts_106 : decode cX7_parts 106 = .ok (.iconst 1, 1) := by decide +kernel
theorem dX7_parts_107 : decode cX7_parts 107 = .ok (.iadd, 1) := by decide +kernel
theorem dX7_parts_108 : decode cX7_parts 108 = .ok (.invokevirtual 239, 3) := by decide +kernel
theorem dX7_parts_111 : decode cX7_parts 111 = .ok (.ifCond .ne 6, 3) := by decide +kernel
theorem dX7_parts_114 : decode cX7_parts 114 = .ok (.bipush (-12), 2) := by decide +kernel
theorem dX7_parts_116 : decode cX7_parts 116 = .ok (.ireturn, 1) := by decide +kernel
theorem dX7_parts_117 : decode cX7_parts 117 = .ok (.aload_n 0, 1) := by decide +kernel
theorem dX7_parts_118 : decode cX7_parts 118 = .ok (.aload_n 0, 1) := by decide +kernel
theorem dX7_parts_119 : decode cX7_parts 119 = .ok (.getfield 57, 3) := by decide +kernel
theorem dX7_parts_122 : decode cX7_parts 122 = .ok (.getfield 211, 3) := by decide +kernel
theorem dX7_parts_125 : decode cX7_parts 125 = .ok (.iload_n 1, 1) := by decide +kernel
theorem dX7_parts_126 : decode cX7_parts 126 = .ok (.aaload, 1) := by decide +kernel
theorem dX7_parts_127 : decode cX7_parts 127 = .ok (.iload 7, 2) := by decide +kernel
theorem dX7_parts_129 : decode cX7_parts 129 = .ok (.iaload, 1) := by decide +kernel
theorem dX7_parts_130 : decode cX7_parts 130 = .ok (.aload_n 0, 1) := by decide +kernel
theorem dX7_parts_131 : decode cX7_parts 131 = .ok (.getfield 57, 3) := by decide +kernel
theorem dX7_parts_134 : decode cX7_parts 134 = .ok (.getfield 211, 3) := by decide +kernel
theorem dX7_parts_137 : decode cX7_parts 137 = .ok (.iload_n 1, 1) := by decide +kernel
theorem dX7_parts_138 : decode cX7_parts 138 = .ok (.aaload, 1) := by decide +kernel
theorem dX7_parts_139 : decode cX7_parts 139 = .ok (.iload 7, 2) := by decide +kernel
theorem dX7_parts_141 : decode cX7_parts 141 = .ok (.iconst 1, 1) := by decide +kernel
theorem dX7_parts_142 : decode cX7_parts 142 = .ok (.iadd, 1) := by decide +kernel
theorem dX7_parts_143 : decode cX7_parts 143 = .ok (.iaload, 1) := by decide +kernel
theorem dX7_parts_144 : decode cX7_parts 144 = .ok (.invokevirtual 247, 3) := by decide +kernel
theorem dX7_parts_147 : decode cX7_parts 147 = .ok (.ifCond .lt 6, 3) := by decide +kernel
theorem dX7_parts_150 : decode cX7_parts 150 = .ok (.iinc 5 1, 3) := by decide +kernel
theorem dX7_parts_153 : decode cX7_parts 153 = .ok (.iinc 6 1, 3) := by decide +kernel
theorem dX7_parts_156 : decode cX7_parts 156 = .ok (.goto (-85), 3) := by decide +kernel
theorem dX7_parts_159 : decode cX7_parts 159 = .ok (.iload 5, 2) := by decide +kernel
theorem dX7_parts_161 : decode cX7_parts 161 = .ok (.ireturn, 1) := by decide +kernel
theorem dX7_taken_0 : decode cX7_taken 0 = .ok (.iload_n 2, 1) := by decide +kernel
theorem dX7_taken_1 : decode cX7_taken 1 = .ok (.ifCond .lt 9, 3) := by decide +kernel
theorem dX7_taken_4 : decode cX7_taken 4 = .ok (.iload_n 2, 1) := by decide +kernel
theorem dX7_taken_5 : decode cX7_taken 5 = .ok (.bipush 6, 2) := by decide +kernel
theorem dX7_taken_7 : decode cX7_taken 7 = .ok (.if_icmp .lt 6, 3) := by decide +kernel
theorem dX7_taken_10 : decode cX7_taken 10 = .ok (.bipush (-2), 2) := by decide +kernel
theorem dX7_taken_12 : decode cX7_taken 12 = .ok (.ireturn, 1) := by decide +kernel
theorem dX7_taken_13 : decode cX7_taken 13 = .ok (.aload_n 0, 1) := by decide +kernel
theorem dX7_taken_14 : decode cX7_taken 14 = .ok (.getfield 10, 3) := by decide +kernel
theorem dX7_taken_17 : decode cX7_taken 17 = .ok (.iload_n 1, 1) := by decide +kernel
theorem dX7_taken_18 : decode cX7_taken 18 = .ok (.invokevirtual 109, 3) := by decide +kernel
theorem dX7_taken_21 : decode cX7_taken 21 = .ok (.ifCond .ne 6, 3) := by decide +kernel
theorem dX7_taken_24 : decode cX7_taken 24 = .ok (.bipush (-11), 2) := by decide +kernel
theorem dX7_taken_26 : decode cX7_taken 26 = .ok (.ireturn, 1) := by decide +kernel
theorem dX7_taken_27 : decode cX7_taken 27 = .ok (.aload_n 0, 1) := by decide +kernel
theorem dX7_taken_28 : decode cX7_taken 28 = .ok (.getfield 10, 3) := by decide +kernel
theorem dX7_taken_31 : decode cX7_taken 31 = .ok (.getfield 86, 3) := by decide +kernel
theorem dX7_taken_34 : decode cX7_taken 34 = .ok (.iload_n 1, 1) := by decide +kernel
theorem dX7_taken_35 : decode cX7_taken 35 = .ok (.iaload, 1) := by decide +kernel
theorem dX7_taken_36 : decode cX7_taken 36 = .ok (.iload_n 2, 1) := by decide +kernel
theorem dX7_taken_37 : decode cX7_taken 37 = .ok (.invokestatic 250, 3) := by decide +kernel
theorem dX7_taken_40 : decode cX7_taken 40 = .ok (.ifCond .eq 15, 3) := by decide +kernel
theorem dX7_taken_43 : decode cX7_taken 43 = .ok (.aload_n 0, 1) := by decide +kernel
theorem dX7_taken_44 : decode cX7_taken 44 = .ok (.getfield 10, 3) := by decide +kernel
theorem dX7_taken_47 : decode cX7_taken 47 = .ok (.getfield 253, 3) := by decide +kernel
theorem dX7_taken_50 : decode cX7_taken 50 = .ok (.iload_n 1, 1) := by decide +kernel
theorem dX7_taken_51 : decode cX7_taken 51 = .ok (.iaload, 1) := by decide +kernel
theorem dX7_taken_52 : decode cX7_taken 52 = .ok (.goto 5, 3) := by decide +kernel
theorem dX7_taken_55 : decode cX7_taken 55 = .ok (.bipush (-13), 2) := by decide +kernel
theorem dX7_taken_57 : decode cX7_taken 57 = .ok (.ireturn, 1) := by decide +kernel
theorem dX7_isNoPart_0 : decode cX7_isNoPart 0 = .ok (.iload_n 1, 1) := by decide +kernel
theorem dX7_isNoPart_1 : decode cX7_isNoPart 1 = .ok (.iconst 1, 1) := by decide +kernel
theorem dX7_isNoPart_2 : decode cX7_isNoPart 2 = .ok (.if_icmp .le 18, 3) := by decide +kernel
theorem dX7_isNoPart_5 : decode cX7_isNoPart 5 = .ok (.aload_n 0, 1) := by decide +kernel
theorem dX7_isNoPart_6 : decode cX7_isNoPart 6 = .ok (.getfield 10, 3) := by decide +kernel
theorem dX7_isNoPart_9 : decode cX7_isNoPart 9 = .ok (.iload_n 2, 1) := by decide +kernel
theorem dX7_isNoPart_10 : decode cX7_isNoPart 10 = .ok (.invokevirtual 109, 3) := by decide +kernel
theorem dX7_isNoPart_13 : decode cX7_isNoPart 13 = .ok (.ifCond .ne 7, 3) := by decide +kernel
theorem dX7_isNoPart_16 : decode cX7_isNoPart 16 = .ok (.iconst 1, 1) := by decide +kernel
theorem dX7_isNoPart_17 : decode cX7_isNoPart 17 = .ok (.goto 4, 3) := by decide +kernel
theorem dX7_isNoPart_20 : decode cX7_isNoPart 20 = .ok (.iconst 0, 1) := by decide +kernel
theorem dX7_isNoPart_21 : decode cX7_isNoPart 21 = .ok (.ireturn, 1) := by decide +kernel
theorem dX7_isOfOrder_0 : decode cX7_isOfOrder 0 = .ok (.iload_n 1, 1) := by decide +kernel
theorem dX7_isOfOrder_1 : decode cX7_isOfOrder 1 = .ok (.ifCond .eq 34, 3) := by decide +kernel
theorem dX7_isOfOrder_4 : decode cX7_isOfOrder 4 = .ok (.iload_n 1, 1) := by decide +kernel
theorem dX7_isOfOrder_5 : decode cX7_isOfOrder 5 = .ok (.iconst 1, 1) := by decide +kernel
theorem dX7_isOfOrder_6 : decode cX7_isOfOrder 6 = .ok (.if_icmp .eq 29, 3) := by decide +kernel
theorem dX7_isOfOrder_9 : decode cX7_isOfOrder 9 = .ok (.iload_n 1, 1) := by decide +kernel
theorem dX7_isOfOrder_10 : decode cX7_isOfOrder 10 = .ok (.bipush 10, 2) := by decide +kernel
theorem dX7_isOfOrder_12 : decode cX7_isOfOrder 12 = .ok (.if_icmp .lt 27, 3) := by decide +kernel
theorem dX7_isOfOrder_15 : decode cX7_isOfOrder 15 = .ok (.iload_n 1, 1) := by decide +kernel
theorem dX7_isOfOrder_16 : decode cX7_isOfOrder 16 = .ok (.bipush 29, 2) := by decide +kernel
theorem dX7_isOfOrder_18 : decode cX7_isOfOrder 18 = .ok (.if_icmp .gt 21, 3) := by decide +kernel
theorem dX7_isOfOrder_21 : decode cX7_isOfOrder 21 = .ok (.aload_n 0, 1) := by decide +kernel
theorem dX7_isOfOrder_22 : decode cX7_isOfOrder 22 = .ok (.getfield 10, 3) := by decide +kernel
theorem dX7_isOfOrder_25 : decode cX7_isOfOrder 25 = .ok (.iload_n 1, 1) := by decide +kernel
theorem dX7_isOfOrder_26 : decode cX7_isOfOrder 26 = .ok (.bipush 10, 2) := by decide +kernel
theorem dX7_isOfOrder_28 : decode cX7_isOfOrder 28 = .ok (.irem, 1) := by decide +kernel
theorem dX7_isOfOrder_29 : decode cX7_isOfOrder 29 = .ok (.invokevirtual 109, 3) := by decide +kernel
theorem dX7_isOfOrder_32 : decode cX7_isOfOrder 32 = .ok (.ifCond .eq 7, 3) := by decide +kernel
theorem dX7_isOfOrder_35 : decode cX7_isOfOrder 35 = .ok (.iconst 1, 1) := by decide +kernel
theorem dX7_isOfOrder_36 : decode cX7_isOfOrder 36 = .ok (.goto 4, 3) := by decide +kernel
theorem dX7_isOfOrder_39 : decode cX7_isOfOrder 39 = .ok (.iconst 0, 1) := by decide +kernel
theorem dX7_isOfOrder_40 : decode cX7_isOfOrder 40 = .ok (.ireturn, 1) := by decide +kernel
theorem dX7_takesOrder_0 : decode cX7_takesOrder 0 = .ok (.iconst 0, 1) := by decide +kernel
theorem dX7_takesOrder_1 : decode cX7_takesOrder 1 = .ok (.istore_n 2, 1) := by decide +kernel
theorem dX7_takesOrder_2 : decode cX7_takesOrder 2 = .ok (.aload_n 0, 1) := by decide +kernel
theorem dX7_takesOrder_3 : decode cX7_takesOrder 3 = .ok (.getfield 41, 3) := by decide +kernel
theorem dX7_takesOrder_6 : decode cX7_takesOrder 6 = .ok (.invokevirtual 256, 3) := by decide +kernel
theorem dX7_takesOrder_9 : decode cX7_takesOrder 9 = .ok (.iconst 0, 1) := by decide +kernel
theorem dX7_takesOrder_10 : decode cX7_takesOrder 10 = .ok (.istore_n 3, 1) := by decide +kernel
theorem dX7_takesOrder_11 : decode cX7_takesOrder 11 = .ok (.iload_n 3, 1) := by decide +kernel
theorem dX7_takesOrder_12 : decode cX7_takesOrder 12 = .ok (.aload_n 0, 1) := by decide +kernel
theorem dX7_takesOrder_13 : decode cX7_takesOrder 13 = .ok (.getfield 57, 3) := by decide +kernel
theorem dX7_takesOrder_16 : decode cX7_takesOrder 16 = .ok (.getfield 200, 3) := by decide +kernel
theorem dX7_takesOrder_19 : decode cX7_takesOrder 19 = .ok (.iload_n 1, 1) := by decide +kernel
theorem dX7_takesOrder_20 : decode cX7_takesOrder 20 = .ok (.iaload, 1) := by decide +kernel
theorem dX7_takesOrder_21 : decode cX7_takesOrder 21 = .ok (.if_icmp .ge 61, 3) := by decide +kernel
theorem dX7_takesOrder_24 : decode cX7_takesOrder 24 = .ok (.aload_n 0, 1) := by decide +kernel
theorem dX7_takesOrder_25 : decode cX7_takesOrder 25 = .ok (.getfield 57, 3) := by decide +kernel
theorem dX7_takesOrder_28 : decode cX7_takesOrder 28 = .ok (.getfield 211, 3) := by decide +kernel
theorem dX7_takesOrder_31 : decode cX7_takesOrder 31 = .ok (.iload_n 1, 1) := by decide +kernel
theorem dX7_takesOrder_32 : decode cX7_takesOrder 32 = .ok (.aaload, 1) := by decide +kernel
theorem dX7_takesOrder_33 : decode cX7_takesOrder 33 = .ok (.iload_n 3, 1) := by decide +kernel
theorem dX7_takesOrder_34 : decode cX7_takesOrder 34 = .ok (.iaload, 1) := by decide +kernel
theorem dX7_takesOrder_35 : decode cX7_takesOrder 35 = .ok (.istore 4, 2) := by decide +kernel
theorem dX7_takesOrder_37 : decode cX7_takesOrder 37 = .ok (.aload_n 0, 1) := by decide +kernel
theorem dX7_takesOrder_38 : decode cX7_takesOrder 38 = .ok (.getfield 10, 3) := by decide +kernel
theorem dX7_takesOrder_41 : decode cX7_takesOrder 41 = .ok (.iload 4, 2) := by decide +kernel
theorem dX7_takesOrder_43 : decode cX7_takesOrder 43 = .ok (.invokevirtual 109, 3) := by decide +kernel
theorem dX7_takesOrder_46 : decode cX7_takesOrder 46 = .ok (.ifCond .eq 12, 3) := by decide +kernel
theorem dX7_takesOrder_49 : decode cX7_takesOrder 49 = .ok (.iload_n 2, 1) := by decide +kernel
theorem dX7_takesOrder_50 : decode cX7_takesOrder 50 = .ok (.iload 4, 2) := by decide +kernel
theorem dX7_takesOrder_52 : decode cX7_takesOrder 52 = .ok (.ishr, 1) := by decide +kernel
theorem dX7_takesOrder_53 : decode cX7_takesOrder 53 = .ok (.iconst 1, 1) := by decide +kernel
theorem dX7_takesOrder_54 : decode cX7_takesOrder 54 = .ok (.iand, 1) := by decide +kernel
theorem dX7_takesOrder_55 : decode cX7_takesOrder 55 = .ok (.ifCond .eq 5, 3) := by decide +kernel
theorem dX7_takesOrder_58 : decode cX7_takesOrder 58 = .ok (.iconst 0, 1) := by decide +kernel
theorem dX7_takesOrder_59 : decode cX7_takesOrder 59 = .ok (.ireturn, 1) := by decide +kernel
theorem dX7_takesOrder_60 : decode cX7_takesOrder 60 = .ok (.iload_n 2, 1) := by decide +kernel
theorem dX7_takesOrder_61 : decode cX7_takesOrder 61 = .ok (.iconst 1, 1) := by decide +kernel
theorem dX7_takesOrder_62 : decode cX7_takesOrder 62 = .ok (.iload 4, 2) := by decide +kernel
theorem dX7_takesOrder_64 : decode cX7_takesOrder 64 = .ok (.ishl, 1) := by decide +kernel
theorem dX7_takesOrder_65 : decode cX7_takesOrder 65 = .ok (.ior, 1) := by decide +kernel
theorem dX7_takesOrder_66 : decode cX7_takesOrder 66 = .ok (.istore_n 2, 1) := by decide +kernel
theorem dX7_takesOrder_67 : decode cX7_takesOrder 67 = .ok (.aload_n 0, 1) := by decide +kernel
theorem dX7_takesOrder_68 : decode cX7_takesOrder 68 = .ok (.getfield 41, 3) := by decide +kernel
theorem dX7_takesOrder_71 : decode cX7_takesOrder 71 = .ok (.iload 4, 2) := by decide +kernel
theorem dX7_takesOrder_73 : decode cX7_takesOrder 73 = .ok (.invokevirtual 259, 3) := by decide +kernel
theorem dX7_takesOrder_76 : decode cX7_takesOrder 76 = .ok (.iinc 3 1, 3) := by decide +kernel
theorem dX7_takesOrder_79 : decode cX7_takesOrder 79 = .ok (.goto (-68), 3) := by decide +kernel
theorem dX7_takesOrder_82 : decode cX7_takesOrder 82 = .ok (.iconst 1, 1) := by decide +kernel
theorem dX7_takesOrder_83 : decode cX7_takesOrder 83 = .ok (.ireturn, 1) := by decide +kernel
theorem dX7_otherwise_0 : decode cX7_otherwise 0 = .ok (.aload_n 0, 1) := by decide +kernel
theorem dX7_otherwise_1 : decode cX7_otherwise 1 = .ok (.getfield 41, 3) := by decide +kernel
theorem dX7_otherwise_4 : decode cX7_otherwise 4 = .ok (.aload_n 1, 1) := by decide +kernel
theorem dX7_otherwise_5 : decode cX7_otherwise 5 = .ok (.bipush 127, 2) := by decide +kernel
theorem dX7_otherwise_7 : decode cX7_otherwise 7 = .ok (.invokevirtual 113, 3) := by decide +kernel
theorem dX7_otherwise_10 : decode cX7_otherwise 10 = .ok (.aload_n 0, 1) := by decide +kernel
theorem dX7_otherwise_11 : decode cX7_otherwise 11 = .ok (.getfield 41, 3) := by decide +kernel
theorem dX7_otherwise_14 : decode cX7_otherwise 14 = .ok (.aload_n 1, 1) := by decide +kernel
theorem dX7_otherwise_15 : decode cX7_otherwise 15 = .ok (.invokevirtual 117, 3) := by decide +kernel
theorem dX7_otherwise_18 : decode cX7_otherwise 18 = .ok (.aload_n 0, 1) := by decide +kernel
theorem dX7_otherwise_19 : decode cX7_otherwise 19 = .ok (.getfield 41, 3) := by decide +kernel
theorem dX7_otherwise_22 : decode cX7_otherwise 22 = .ok (.invokevirtual 120, 3) := by decide +kernel
theorem dX7_otherwise_25 : decode cX7_otherwise 25 = .ok (.astore_n 3, 1) := by decide +kernel
theorem dX7_otherwise_26 : decode cX7_otherwise 26 = .ok (.iconst 0, 1) := by decide +kernel
theorem dX7_otherwise_27 : decode cX7_otherwise 27 = .ok (.istore 4, 2) := by decide +kernel
theorem dX7_otherwise_29 : decode cX7_otherwise 29 = .ok (.iconst 0, 1) := by decide +kernel
theorem dX7_otherwise_30 : decode cX7_otherwise 30 = .ok (.istore 5, 2) := by decide +kernel
theorem dX7_otherwise_32 : decode cX7_otherwise 32 = .ok (.iload 5, 2) := by decide +kernel
theorem dX7_otherwise_34 : decode cX7_otherwise 34 = .ok (.aload_n 1, 1) := by decide +kernel
theorem dX7_otherwise_35 : decode cX7_otherwise 35 = .ok (.getfield 82, 3) := by decide +kernel
theorem dX7_otherwise_38 : decode cX7_otherwise 38 = .ok (.if_icmp .ge 37, 3) := by decide +kernel
theorem dX7_otherwise_41 : decode cX7_otherwise 41 = .ok (.aload_n 3, 1) := by decide +kernel
theorem dX7_otherwise_42 : decode cX7_otherwise 42 = .ok (.iload 5, 2) := by decide +kernel
theorem dX7_otherwise_44 : decode cX7_otherwise 44 = .ok (.iaload, 1) := by decide +kernel
theorem dX7_otherwise_45 : decode cX7_otherwise 45 = .ok (.aload_n 0, 1) := by decide +kernel
theorem dX7_otherwise_46 : decode cX7_otherwise 46 = .ok (.getfield 57, 3) := by decide +kernel
theorem dX7_otherwise_49 : decode cX7_otherwise 49 = .ok (.getfield 211, 3) := by decide +kernel
theorem dX7_otherwise_52 : decode cX7_otherwise 52 = .ok (.iload_n 2, 1) := by decide +kernel
theorem dX7_otherwise_53 : decode cX7_otherwise 53 = .ok (.aaload, 1) := by decide +kernel
theorem dX7_otherwise_54 : decode cX7_otherwise 54 = .ok (.iload 5, 2) := by decide +kernel
theorem dX7_otherwise_56 : decode cX7_otherwise 56 = .ok (.iaload, 1) := by decide +kernel
theorem dX7_otherwise_57 : decode cX7_otherwise 57 = .ok (.if_icmp .eq 12, 3) := by decide +kernel
theorem dX7_otherwise_60 : decode cX7_otherwise 60 = .ok (.iload 4, 2) := by decide +kernel
theorem dX7_otherwise_62 : decode cX7_otherwise 62 = .ok (.iconst 1, 1) := by decide +kernel
theorem dX7_otherwise_63 : decode cX7_otherwise 63 = .ok (.iload 5, 2) := by decide +kernel
theorem dX7_otherwise_65 : decode cX7_otherwise 65 = .ok (.ishl, 1) := by decide +kernel
theorem dX7_otherwise_66 : decode cX7_otherwise 66 = .ok (.ior, 1) := by decide +kernel
theorem dX7_otherwise_67 : decode cX7_otherwise 67 = .ok (.istore 4, 2) := by decide +kernel
theorem dX7_otherwise_69 : decode cX7_otherwise 69 = .ok (.iinc 5 1, 3) := by decide +kernel
theorem dX7_otherwise_72 : decode cX7_otherwise 72 = .ok (.goto (-40), 3) := by decide +kernel
theorem dX7_otherwise_75 : decode cX7_otherwise 75 = .ok (.iload 4, 2) := by decide +kernel
theorem dX7_otherwise_77 : decode cX7_otherwise 77 = .ok (.ireturn, 1) := by decide +kernel
theorem dX7_readBack_0 : decode cX7_readBack 0 = .ok (.iload_n 2, 1) := by decide +kernel
theorem dX7_readBack_1 : decode cX7_readBack 1 = .ok (.invokestatic 262, 3) := by decide +kernel
theorem dX7_readBack_4 : decode cX7_readBack 4 = .ok (.istore_n 3, 1) := by decide +kernel
theorem dX7_readBack_5 : decode cX7_readBack 5 = .ok (.iload_n 3, 1) := by decide +kernel
theorem dX7_readBack_6 : decode cX7_readBack 6 = .ok (.bipush 10, 2) := by decide +kernel
theorem dX7_readBack_8 : decode cX7_readBack 8 = .ok (.if_icmp .ne 15, 3) := by decide +kernel
theorem dX7_readBack_11 : decode cX7_readBack 11 = .ok (.aload_n 0, 1) := by decide +kernel
theorem dX7_readBack_12 : decode cX7_readBack 12 = .ok (.getfield 25, 3) := by decide +kernel
theorem dX7_readBack_15 : decode cX7_readBack 15 = .ok (.getfield 136, 3) := by decide +kernel
theorem dX7_readBack_18 : decode cX7_readBack 18 = .ok (.iconst 1, 1) := by decide +kernel
theorem dX7_readBack_19 : decode cX7_readBack 19 = .ok (.isub, 1) := by decide +kernel
theorem dX7_readBack_20 : decode cX7_readBack 20 = .ok (.goto 8, 3) := by decide +kernel
theorem dX7_readBack_23 : decode cX7_readBack 23 = .ok (.getstatic 65, 3) := by decide +kernel
theorem dX7_readBack_26 : decode cX7_readBack 26 = .ok (.iload_n 3, 1) := by decide +kernel
theorem dX7_readBack_27 : decode cX7_readBack 27 = .ok (.iaload, 1) := by decide +kernel
theorem dX7_readBack_28 : decode cX7_readBack 28 = .ok (.istore 4, 2) := by decide +kernel
theorem dX7_readBack_30 : decode cX7_readBack 30 = .ok (.iconst 0, 1) := by decide +kernel
theorem dX7_readBack_31 : decode cX7_readBack 31 = .ok (.istore 5, 2) := by decide +kernel
theorem dX7_readBack_33 : decode cX7_readBack 33 = .ok (.iconst 0, 1) := by decide +kernel
theorem dX7_readBack_34 : decode cX7_readBack 34 = .ok (.istore 6, 2) := by decide +kernel
theorem dX7_readBack_36 : decode cX7_readBack 36 = .ok (.iconst (-1), 1) := by decide +kernel
theorem dX7_readBack_37 : decode cX7_readBack 37 = .ok (.istore 7, 2) := by decide +kernel
theorem dX7_readBack_39 : decode cX7_readBack 39 = .ok (.aload_n 0, 1) := by decide +kernel
theorem dX7_readBack_40 : decode cX7_readBack 40 = .ok (.getfield 19, 3) := by decide +kernel
theorem dX7_readBack_43 : decode cX7_readBack 43 = .ok (.aload_n 0, 1) := by decide +kernel
theorem dX7_readBack_44 : decode cX7_readBack 44 = .ok (.getfield 10, 3) := by decide +kernel
theorem dX7_readBack_47 : decode cX7_readBack 47 = .ok (.invokevirtual 214, 3) := by decide +kernel
theorem dX7_readBack_50 : decode cX7_readBack 50 = .ok (.iconst 0, 1) := by decide +kernel
theorem dX7_readBack_51 : decode cX7_readBack 51 = .ok (.istore 8, 2) := by decide +kernel
theorem dX7_readBack_53 : decode cX7_readBack 53 = .ok (.iload 8, 2) := by decide +kernel
theorem dX7_readBack_55 : decode cX7_readBack 55 = .ok (.iload 4, 2) := by decide +kernel
theorem dX7_readBack_57 : decode cX7_readBack 57 = .ok (.if_icmp .gt 62, 3) := by decide +kernel
theorem dX7_readBack_60 : decode cX7_readBack 60 = .ok (.aload_n 0, 1) := by decide +kernel
theorem dX7_readBack_61 : decode cX7_readBack 61 = .ok (.getfield 19, 3) := by decide +kernel
theorem dX7_readBack_64 : decode cX7_readBack 64 = .ok (.iload_n 3, 1) := by decide +kernel
theorem dX7_readBack_65 : decode cX7_readBack 65 = .ok (.iload_n 2, 1) := by decide +kernel
theorem dX7_readBack_66 : decode cX7_readBack 66 = .ok (.bipush 10, 2) := by decide +kernel
theorem dX7_readBack_68 : decode cX7_readBack 68 = .ok (.irem, 1) := by decide +kernel
theorem dX7_readBack_69 : decode cX7_readBack 69 = .ok (.iload 8, 2) := by decide +kernel
theorem dX7_readBack_71 : decode cX7_readBack 71 = .ok (.invokevirtual 73, 3) := by decide +kernel
theorem dX7_readBack_74 : decode cX7_readBack 74 = .ok (.aload_n 0, 1) := by decide +kernel
theorem dX7_readBack_75 : decode cX7_readBack 75 = .ok (.aload_n 0, 1) := by decide +kernel
theorem dX7_readBack_76 : decode cX7_readBack 76 = .ok (.getfield 19, 3) := by decide +kernel
theorem dX7_readBack_79 : decode cX7_readBack 79 = .ok (.iload_n 1, 1) := by decide +kernel
theorem dX7_readBack_80 : decode cX7_readBack 80 = .ok (.invokevirtual 202, 3) := by decide +kernel
theorem dX7_readBack_83 : decode cX7_readBack 83 = .ok (.ifCond .ne 30, 3) := by decide +kernel
theorem dX7_readBack_86 : decode cX7_readBack 86 = .ok (.iload 5, 2) := by decide +kernel
theorem dX7_readBack_88 : decode cX7_readBack 88 = .ok (.iconst 1, 1) := by decide +kernel
theorem dX7_readBack_89 : decode cX7_readBack 89 = .ok (.iload 8, 2) := by decide +kernel
theorem dX7_readBack_91 : decode cX7_readBack 91 = .ok (.ishl, 1) := by decide +kernel
theorem dX7_readBack_92 : decode cX7_readBack 92 = .ok (.ior, 1) := by decide +kernel
theorem dX7_readBack_93 : decode cX7_readBack 93 = .ok (.istore 5, 2) := by decide +kernel
theorem dX7_readBack_95 : decode cX7_readBack 95 = .ok (.iinc 6 1, 3) := by decide +kernel
theorem dX7_readBack_98 : decode cX7_readBack 98 = .ok (.iload 7, 2) := by decide +kernel
theorem dX7_readBack_100 : decode cX7_readBack 100 = .ok (.iconst (-1), 1) := by decide +kernel
theorem dX7_readBack_101 : decode cX7_readBack 101 = .ok (.if_icmp .ne 8, 3) := by decide +kernel
theorem dX7_readBack_104 : decode cX7_readBack 104 = .ok (.iload 8, 2) := by decide +kernel
theorem dX7_readBack_106 : decode cX7_readBack 106 = .ok (.goto 5, 3) := by decide +kernel
theorem dX7_readBack_109 : decode cX7_readBack 109 = .ok (.iload 7, 2) := by decide +kernel
theorem dX7_readBack_111 : decode cX7_readBack 111 = .ok (.istore 7, 2) := by decide +kernel
theorem dX7_readBack_113 : decode cX7_readBack 113 = .ok (.iinc 8 1, 3) := by decide +kernel
theorem dX7_readBack_116 : decode cX7_readBack 116 = .ok (.goto (-63), 3) := by decide +kernel
theorem dX7_readBack_119 : decode cX7_readBack 119 = .ok (.iload_n 3, 1) := by decide +kernel
theorem dX7_readBack_120 : decode cX7_readBack 120 = .ok (.iconst 3, 1) := by decide +kernel
theorem dX7_readBack_121 : decode cX7_readBack 121 = .ok (.if_icmp .eq 6, 3) := by decide +kernel
theorem dX7_readBack_124 : decode cX7_readBack 124 = .ok (.iload 5, 2) := by decide +kernel
theorem dX7_readBack_126 : decode cX7_readBack 126 = .ok (.ireturn, 1) := by decide +kernel
theorem dX7_readBack_127 : decode cX7_readBack 127 = .ok (.iload_n 2, 1) := by decide +kernel
theorem dX7_readBack_128 : decode cX7_readBack 128 = .ok (.bipush 40, 2) := by decide +kernel
theorem dX7_readBack_130 : decode cX7_readBack 130 = .ok (.if_icmp .ge 8, 3) := by decide +kernel
theorem dX7_readBack_133 : decode cX7_readBack 133 = .ok (.iload 6, 2) := by decide +kernel
theorem dX7_readBack_135 : decode cX7_readBack 135 = .ok (.goto 5, 3) := by decide +kernel
theorem dX7_readBack_138 : decode cX7_readBack 138 = .ok (.iload 7, 2) := by decide +kernel
theorem dX7_readBack_140 : decode cX7_readBack 140 = .ok (.ireturn, 1) := by decide +kernel
theorem dX7_itemReadBack_0 : decode cX7_itemReadBack 0 = .ok (.iload_n 0, 1) := by decide +kernel
theorem dX7_itemReadBack_1 : decode cX7_itemReadBack 1 = .ok (.bipush 10, 2) := by decide +kernel
theorem dX7_itemReadBack_3 : decode cX7_itemReadBack 3 = .ok (.idiv, 1) := by decide +kernel
theorem dX7_itemReadBack_4 : decode cX7_itemReadBack 4 = .ok (.tableswitch 44 0 2 #[28, 40, 42], 28) := by decide +kernel
theorem dX7_itemReadBack_32 : decode cX7_itemReadBack 32 = .ok (.iload_n 0, 1) := by decide +kernel
theorem dX7_itemReadBack_33 : decode cX7_itemReadBack 33 = .ok (.iconst 1, 1) := by decide +kernel
theorem dX7_itemReadBack_34 : decode cX7_itemReadBack 34 = .ok (.if_icmp .ne 7, 3) := by decide +kernel
theorem dX7_itemReadBack_37 : decode cX7_itemReadBack 37 = .ok (.iconst 0, 1) := by decide +kernel
theorem dX7_itemReadBack_38 : decode cX7_itemReadBack 38 = .ok (.goto 5, 3) := by decide +kernel
theorem dX7_itemReadBack_41 : decode cX7_itemReadBack 41 = .ok (.bipush 10, 2) := by decide +kernel
theorem dX7_itemReadBack_43 : decode cX7_itemReadBack 43 = .ok (.ireturn, 1) := by decide +kernel
theorem dX7_itemReadBack_44 : decode cX7_itemReadBack 44 = .ok (.iconst 5, 1) := by decide +kernel
theorem dX7_itemReadBack_45 : decode cX7_itemReadBack 45 = .ok (.ireturn, 1) := by decide +kernel
theorem dX7_itemReadBack_46 : decode cX7_itemReadBack 46 = .ok (.iconst 2, 1) := by decide +kernel
theorem dX7_itemReadBack_47 : decode cX7_itemReadBack 47 = .ok (.ireturn, 1) := by decide +kernel
theorem dX7_itemReadBack_48 : decode cX7_itemReadBack 48 = .ok (.iconst 3, 1) := by decide +kernel
theorem dX7_itemReadBack_49 : decode cX7_itemReadBack 49 = .ok (.ireturn, 1) := by decide +kernel
theorem dX7_common_0 : decode cX7_common 0 = .ok (.iload_n 0, 1) := by decide +kernel
theorem dX7_common_1 : decode cX7_common 1 = .ok (.istore_n 2, 1) := by decide +kernel
theorem dX7_common_2 : decode cX7_common 2 = .ok (.iload_n 1, 1) := by decide +kernel
theorem dX7_common_3 : decode cX7_common 3 = .ok (.istore_n 3, 1) := by decide +kernel
theorem dX7_common_4 : decode cX7_common 4 = .ok (.iconst 0, 1) := by decide +kernel
theorem dX7_common_5 : decode cX7_common 5 = .ok (.istore 4, 2) := by decide +kernel
theorem dX7_common_7 : decode cX7_common 7 = .ok (.iload 4, 2) := by decide +kernel
theorem dX7_common_9 : decode cX7_common 9 = .ok (.bipush 100, 2) := by decide +kernel
theorem dX7_common_11 : decode cX7_common 11 = .ok (.if_icmp .ge 23, 3) := by decide +kernel
theorem dX7_common_14 : decode cX7_common 14 = .ok (.iload_n 3, 1) := by decide +kernel
theorem dX7_common_15 : decode cX7_common 15 = .ok (.ifCond .eq 19, 3) := by decide +kernel
theorem dX7_common_18 : decode cX7_common 18 = .ok (.iload_n 2, 1) := by decide +kernel
theorem dX7_common_19 : decode cX7_common 19 = .ok (.iload_n 3, 1) := by decide +kernel
theorem dX7_common_20 : decode cX7_common 20 = .ok (.irem, 1) := by decide +kernel
theorem dX7_common_21 : decode cX7_common 21 = .ok (.istore 5, 2) := by decide +kernel
theorem dX7_common_23 : decode cX7_common 23 = .ok (.iload_n 3, 1) := by decide +kernel
theorem dX7_common_24 : decode cX7_common 24 = .ok (.istore_n 2, 1) := by decide +kernel
theorem dX7_common_25 : decode cX7_common 25 = .ok (.iload 5, 2) := by decide +kernel
theorem dX7_common_27 : decode cX7_common 27 = .ok (.istore_n 3, 1) := by decide +kernel
theorem dX7_common_28 : decode cX7_common 28 = .ok (.iinc 4 1, 3) := by decide +kernel
theorem dX7_common_31 : decode cX7_common 31 = .ok (.goto (-24), 3) := by decide +kernel
theorem dX7_common_34 : decode cX7_common 34 = .ok (.iload_n 2, 1) := by decide +kernel
theorem dX7_common_35 : decode cX7_common 35 = .ok (.ireturn, 1) := by decide +kernel
theorem dL_law_0 : decode cL_law 0 = .ok (.new 7, 3) := by decide +kernel
theorem dL_law_3 : decode cL_law 3 = .ok (.dup, 1) := by decide +kernel
theorem dL_law_4 : decode cL_law 4 = .ok (.invokespecial 9, 3) := by decide +kernel
theorem dL_law_7 : decode cL_law 7 = .ok (.astore_n 1, 1) := by decide +kernel
theorem dL_law_8 : decode cL_law 8 = .ok (.new 10, 3) := by decide +kernel
theorem dL_law_11 : decode cL_law 11 = .ok (.dup, 1) := by decide +kernel
theorem dL_law_12 : decode cL_law 12 = .ok (.invokespecial 12, 3) := by decide +kernel
theorem dL_law_15 : decode cL_law 15 = .ok (.astore_n 2, 1) := by decide +kernel
theorem dL_law_16 : decode cL_law 16 = .ok (.iconst 0, 1) := by decide +kernel
theorem dL_law_17 : decode cL_law 17 = .ok (.istore_n 3, 1) := by decide +kernel
theorem dL_law_18 : decode cL_law 18 = .ok (.iload_n 3, 1) := by decide +kernel
theorem dL_law_19 : decode cL_law 19 = .ok (.aload_n 0, 1) := by decide +kernel
theorem dL_law_20 : decode cL_law 20 = .ok (.arraylength, 1) := by decide +kernel
theorem dL_law_21 : decode cL_law 21 = .ok (.bipush 6, 2) := by decide +kernel
theorem dL_law_23 : decode cL_law 23 = .ok (.isub, 1) := by decide +kernel
theorem dL_law_24 : decode cL_law 24 = .ok (.if_icmp .gt 957, 3) := by decide +kernel
theorem dL_law_27 : decode cL_law 27 = .ok (.aload_n 0, 1) := by decide +kernel
theorem dL_law_28 : decode cL_law 28 = .ok (.iload_n 3, 1) := by decide +kernel
theorem dL_law_29 : decode cL_law 29 = .ok (.iaload, 1) := by decide +kernel
theorem dL_law_30 : decode cL_law 30 = .ok (.bipush 31, 2) := by decide +kernel
theorem dL_law_32 : decode cL_law 32 = .ok (.iand, 1) := by decide +kernel
theorem dL_law_33 : decode cL_law 33 = .ok (.tableswitch 942 0 27 #[127, 170, 203, 236, 259, 282, 295, 318, 341, 374, 397, 420, 443, 466, 489, 512, 535, 568, 591, 614, 658, 671, 684, 707, 750, 793, 856, 909], 127) := by decide +kernel
theorem dL_law_160 : decode cL_law 160 = .ok (.aload_n 1, 1) := by decide +kernel
theorem dL_law_161 : decode cL_law 161 = .ok (.aload_n 0, 1) := by decide +kernel
theorem dL_law_162 : decode cL_law 162 = .ok (.iload_n 3, 1) := by decide +kernel
theorem dL_law_163 : decode cL_law 163 = .ok (.iconst 1, 1) := by decide +kernel
theorem dL_law_164 : decode cL_law 164 = .ok (.iadd, 1) := by decide +kernel
theorem dL_law_165 : decode cL_law 165 = .ok (.iaload, 1) := by decide +kernel
theorem dL_law_166 : decode cL_law 166 = .ok (.aload_n 0, 1) := by decide +kernel
theorem dL_law_167 : decode cL_law 167 = .ok (.iload_n 3, 1) := by decide +kernel
theorem dL_law_168 : decode cL_law 168 = .ok (.iconst 2, 1) := by decide +kernel
theorem dL_law_169 : decode cL_law 169 = .ok (.iadd, 1) := by decide +kernel
theorem dL_law_170 : decode cL_law 170 = .ok (.iaload, 1) := by decide +kernel
theorem dL_law_171 : decode cL_law 171 = .ok (.aload_n 0, 1) := by decide +kernel
theorem dL_law_172 : decode cL_law 172 = .ok (.iload_n 3, 1) := by decide +kernel
theorem dL_law_173 : decode cL_law 173 = .ok (.iconst 3, 1) := by decide +kernel
theorem dL_law_174 : decode cL_law 174 = .ok (.iadd, 1) := by decide +kernel
theorem dL_law_175 : decode cL_law 175 = .ok (.iaload, 1) := by decide +kernel
theorem dL_law_176 : decode cL_law 176 = .ok (.invokevirtual 13, 3) := by decide +kernel
theorem dL_law_179 : decode cL_law 179 = .ok (.aload_n 2, 1) := by decide +kernel
theorem dL_law_180 : decode cL_law 180 = .ok (.aload_n 0, 1) := by decide +kernel
theorem dL_law_181 : decode cL_law 181 = .ok (.iload_n 3, 1) := by decide +kernel
theorem dL_law_182 : decode cL_law 182 = .ok (.iconst 1, 1) := by decide +kernel
theorem dL_law_183 : decode cL_law 183 = .ok (.iadd, 1) := by decide +kernel
theorem dL_law_184 : decode cL_law 184 = .ok (.iaload, 1) := by decide +kernel
theorem dL_law_185 : decode cL_law 185 = .ok (.aload_n 0, 1) := by decide +kernel
theorem dL_law_186 : decode cL_law 186 = .ok (.iload_n 3, 1) := by decide +kernel
theorem dL_law_187 : decode cL_law 187 = .ok (.iconst 2, 1) := by decide +kernel
theorem dL_law_188 : decode cL_law 188 = .ok (.iadd, 1) := by decide +kernel
theorem dL_law_189 : decode cL_law 189 = .ok (.iaload, 1) := by decide +kernel
theorem dL_law_190 : decode cL_law 190 = .ok (.aload_n 0, 1) := by decide +kernel
theorem dL_law_191 : decode cL_law 191 = .ok (.iload_n 3, 1) := by decide +kernel
theorem dL_law_192 : decode cL_law 192 = .ok (.iconst 3, 1) := by decide +kernel
theorem dL_law_193 : decode cL_law 193 = .ok (.iadd, 1) := by decide +kernel
theorem dL_law_194 : decode cL_law 194 = .ok (.iaload, 1) := by decide +kernel
theorem dL_law_195 : decode cL_law 195 = .ok (.invokevirtual 17, 3) := by decide +kernel
theorem dL_law_198 : decode cL_law 198 = .ok (.if_icmp .eq 777, 3) := by decide +kernel
theorem dL_law_201 : decode cL_law 201 = .ok (.iconst 0, 1) := by decide +kernel
theorem dL_law_202 : decode cL_law 202 = .ok (.ireturn, 1) := by decide +kernel
theorem dL_law_203 : decode cL_law 203 = .ok (.aload_n 1, 1) := by decide +kernel
theorem dL_law_204 : decode cL_law 204 = .ok (.aload_n 0, 1) := by decide +kernel
theorem dL_law_205 : decode cL_law 205 = .ok (.iload_n 3, 1) := by decide +kernel
theorem dL_law_206 : decode cL_law 206 = .ok (.iconst 1, 1) := by decide +kernel
theorem dL_law_207 : decode cL_law 207 = .ok (.iadd, 1) := by decide +kernel
theorem dL_law_208 : decode cL_law 208 = .ok (.iaload, 1) := by decide +kernel
theorem dL_law_209 : decode cL_law 209 = .ok (.aload_n 0, 1) := by decide +kernel
theorem dL_law_210 : decode cL_law 210 = .ok (.iload_n 3, 1) := by decide +kernel
theorem dL_law_211 : decode cL_law 211 = .ok (.iconst 2, 1) := by decide +kernel
theorem dL_law_212 : decode cL_law 212 = .ok (.iadd, 1) := by decide +kernel
theorem dL_law_213 : decode cL_law 213 = .ok (.iaload, 1) := by decide +kernel
theorem dL_law_214 : decode cL_law 214 = .ok (.invokevirtual 18, 3) := by decide +kernel
theorem dL_law_217 : decode cL_law 217 = .ok (.aload_n 2, 1) := by decide +kernel
theorem dL_law_218 : decode cL_law 218 = .ok (.aload_n 0, 1) := by decide +kernel
theorem dL_law_219 : decode cL_law 219 = .ok (.iload_n 3, 1) := by decide +kernel
theorem dL_law_220 : decode cL_law 220 = .ok (.iconst 1, 1) := by decide +kernel
theorem dL_law_221 : decode cL_law 221 = .ok (.iadd, 1) := by decide +kernel
theorem dL_law_222 : decode cL_law 222 = .ok (.iaload, 1) := by decide +kernel
theorem dL_law_223 : decode cL_law 223 = .ok (.aload_n 0, 1) := by decide +kernel
theorem dL_law_224 : decode cL_law 224 = .ok (.iload_n 3, 1) := by decide +kernel
theorem dL_law_225 : decode cL_law 225 = .ok (.iconst 2, 1) := by decide +kernel
theorem dL_law_226 : decode cL_law 226 = .ok (.iadd, 1) := by decide +kernel
theorem dL_law_227 : decode cL_law 227 = .ok (.iaload, 1) := by decide +kernel
theorem dL_law_228 : decode cL_law 228 = .ok (.invokevirtual 22, 3) := by decide +kernel
theorem dL_law_231 : decode cL_law 231 = .ok (.if_icmp .eq 744, 3) := by decide +kernel
theorem dL_law_234 : decode cL_law 234 = .ok (.iconst 0, 1) := by decide +kernel
theorem dL_law_235 : decode cL_law 235 = .ok (.ireturn, 1) := by decide +kernel
theorem dL_law_236 : decode cL_law 236 = .ok (.aload_n 1, 1) := by decide +kernel
theorem dL_law_237 : decode cL_law 237 = .ok (.aload_n 0, 1) := by decide +kernel
theorem dL_law_238 : decode cL_law 238 = .ok (.iload_n 3, 1) := by decide +kernel
theorem dL_law_239 : decode cL_law 239 = .ok (.iconst 1, 1) := by decide +kernel
theorem dL_law_240 : decode cL_law 240 = .ok (.iadd, 1) := by decide +kernel
theorem dL_law_241 : decode cL_law 241 = .ok (.iaload, 1) := by decide +kernel
theorem dL_law_242 : decode cL_law 242 = .ok (.aload_n 0, 1) := by decide +kernel
theorem dL_law_243 : decode cL_law 243 = .ok (.iload_n 3, 1) := by decide +kernel
theorem dL_law_244 : decode cL_law 244 = .ok (.iconst 2, 1) := by decide +kernel
theorem dL_law_245 : decode cL_law 245 = .ok (.iadd, 1) := by decide +kernel
theorem dL_law_246 : decode cL_law 246 = .ok (.iaload, 1) := by decide +kernel
theorem dL_law_247 : decode cL_law 247 = .ok (.invokevirtual 23, 3) := by decide +kernel
theorem dL_law_250 : decode cL_law 250 = .ok (.aload_n 2, 1) := by decide +kernel
theorem dL_law_251 : decode cL_law 251 = .ok (.aload_n 0, 1) := by decide +kernel
theorem dL_law_252 : decode cL_law 252 = .ok (.iload_n 3, 1) := by decide +kernel
theorem dL_law_253 : decode cL_law 253 = .ok (.iconst 1, 1) := by decide +kernel
theorem dL_law_254 : decode cL_law 254 = .ok (.iadd, 1) := by decide +kernel
theorem dL_law_255 : decode cL_law 255 = .ok (.iaload, 1) := by decide +kernel
theorem dL_law_256 : decode cL_law 256 = .ok (.aload_n 0, 1) := by decide +kernel
theorem dL_law_257 : decode cL_law 257 = .ok (.iload_n 3, 1) := by decide +kernel
theorem dL_law_258 : decode cL_law 258 = .ok (.iconst 2, 1) := by decide +kernel
theorem dL_law_259 : decode cL_law 259 = .ok (.iadd, 1) := by decide +kernel
theorem dL_law_260 : decode cL_law 260 = .ok (.iaload, 1) := by decide +kernel
theorem dL_law_261 : decode cL_law 261 = .ok (.invokevirtual 26, 3) := by decide +kernel
theorem dL_law_264 : decode cL_law 264 = .ok (.if_icmp .eq 711, 3) := by decide +kernel
theorem dL_law_267 : decode cL_law 267 = .ok (.iconst 0, 1) := by decide +kernel
theorem dL_law_268 : decode cL_law 268 = .ok (.ireturn, 1) := by decide +kernel
theorem dL_law_269 : decode cL_law 269 = .ok (.aload_n 1, 1) := by decide +kernel
theorem dL_law_270 : decode cL_law 270 = .ok (.aload_n 0, 1) := by decide +kernel
theorem dL_law_271 : decode cL_law 271 = .ok (.iload_n 3, 1) := by decide +kernel
theorem dL_law_272 : decode cL_law 272 = .ok (.iconst 1, 1) := by decide +kernel
theorem dL_law_273 : decode cL_law 273 = .ok (.iadd, 1) := by decide +kernel
theorem dL_law_274 : decode cL_law 274 = .ok (.iaload, 1) := by decide +kernel
theorem dL_law_275 : decode cL_law 275 = .ok (.invokevirtual 27, 3) := by decide +kernel
theorem dL_law_278 : decode cL_law 278 = .ok (.aload_n 2, 1) := by decide +kernel
theorem dL_law_279 : decode cL_law 279 = .ok (.aload_n 0, 1) := by decide +kernel
theorem dL_law_280 : decode cL_law 280 = .ok (.iload_n 3, 1) := by decide +kernel
theorem dL_law_281 : decode cL_law 281 = .ok (.iconst 1, 1) := by decide +kernel
theorem dL_law_282 : decode cL_law 282 = .ok (.iadd, 1) := by decide +kernel
theorem dL_law_283 : decode cL_law 283 = .ok (.iaload, 1) := by decide +kernel
theorem dL_law_284 : decode cL_law 284 = .ok (.invokevirtual 31, 3) := by decide +kernel
theorem dL_law_287 : decode cL_law 287 = .ok (.if_icmp .eq 688, 3) := by decide +kernel
theorem dL_law_290 : decode cL_law 290 = .ok (.iconst 0, 1) := by decide +kernel
theorem dL_law_291 : decode cL_law 291 = .ok (.ireturn, 1) := by decide +kernel
theorem dL_law_292 : decode cL_law 292 = .ok (.aload_n 1, 1) := by decide +kernel
theorem dL_law_293 : decode cL_law 293 = .ok (.aload_n 0, 1) := by decide +kernel
theorem dL_law_294 : decode cL_law 294 = .ok (.iload_n 3, 1) := by decide +kernel
theorem dL_law_295 : decode cL_law 295 = .ok (.iconst 1, 1) := by decide +kernel
theorem dL_law_296 : decode cL_law 296 = .ok (.iadd, 1) := by decide +kernel
theorem dL_law_297 : decode cL_law 297 = .ok (.iaload, 1) := by decide +kernel
theorem dL_law_298 : decode cL_law 298 = .ok (.invokevirtual 32, 3) := by decide +kernel
theorem dL_law_301 : decode cL_law 301 = .ok (.aload_n 2, 1) := by decide +kernel
theorem dL_law_302 : decode cL_law 302 = .ok (.aload_n 0, 1) := by decide +kernel
theorem dL_law_303 : decode cL_law 303 = .ok (.iload_n 3, 1) := by decide +kernel
theorem dL_law_304 : decode cL_law 304 = .ok (.iconst 1, 1) := by decide +kernel
theorem dL_law_305 : decode cL_law 305 = .ok (.iadd, 1) := by decide +kernel
theorem dL_law_306 : decode cL_law 306 = .ok (.iaload, 1) := by decide +kernel
theorem dL_law_307 : decode cL_law 307 = .ok (.invokevirtual 35, 3) := by decide +kernel
theorem dL_law_310 : decode cL_law 310 = .ok (.if_icmp .eq 665, 3) := by decide +kernel
theorem dL_law_313 : decode cL_law 313 = .ok (.iconst 0, 1) := by decide +kernel
theorem dL_law_314 : decode cL_law 314 = .ok (.ireturn, 1) := by decide +kernel
theorem dL_law_315 : decode cL_law 315 = .ok (.aload_n 1, 1) := by decide +kernel
theorem dL_law_316 : decode cL_law 316 = .ok (.invokevirtual 36, 3) := by decide +kernel
theorem dL_law_319 : decode cL_law 319 = .ok (.aload_n 2, 1) := by decide +kernel
theorem dL_law_320 : decode cL_law 320 = .ok (.invokevirtual 40, 3) := by decide +kernel
theorem dL_law_323 : decode cL_law 323 = .ok (.if_icmp .eq 652, 3) := by decide +kernel
theorem dL_law_326 : decode cL_law 326 = .ok (.iconst 0, 1) := by decide +kernel
theorem dL_law_327 : decode cL_law 327 = .ok (.ireturn, 1) := by decide +kernel
theorem dL_law_328 : decode cL_law 328 = .ok (.aload_n 1, 1) := by decide +kernel
theorem dL_law_329 : decode cL_law 329 = .ok (.aload_n 0, 1) := by decide +kernel
theorem dL_law_330 : decode cL_law 330 = .ok (.iload_n 3, 1) := by decide +kernel
theorem dL_law_331 : decode cL_law 331 = .ok (.iconst 1, 1) := by decide +kernel
theorem dL_law_332 : decode cL_law 332 = .ok (.iadd, 1) := by decide +kernel
theorem dL_law_333 : decode cL_law 333 = .ok (.iaload, 1) := by decide +kernel
theorem dL_law_334 : decode cL_law 334 = .ok (.invokevirtual 41, 3) := by decide +kernel
theorem dL_law_337 : decode cL_law 337 = .ok (.aload_n 2, 1) := by decide +kernel
theorem dL_law_338 : decode cL_law 338 = .ok (.aload_n 0, 1) := by decide +kernel
theorem dL_law_339 : decode cL_law 339 = .ok (.iload_n 3, 1) := by decide +kernel
theorem dL_law_340 : decode cL_law 340 = .ok (.iconst 1, 1) := by decide +kernel
theorem dL_law_341 : decode cL_law 341 = .ok (.iadd, 1) := by decide +kernel
theorem dL_law_342 : decode cL_law 342 = .ok (.iaload, 1) := by decide +kernel
theorem dL_law_343 : decode cL_law 343 = .ok (.invokevirtual 44, 3) := by decide +kernel
theorem dL_law_346 : decode cL_law 346 = .ok (.if_icmp .eq 629, 3) := by decide +kernel
theorem dL_law_349 : decode cL_law 349 = .ok (.iconst 0, 1) := by decide +kernel
theorem dL_law_350 : decode cL_law 350 = .ok (.ireturn, 1) := by decide +kernel
theorem dL_law_351 : decode cL_law 351 = .ok (.aload_n 1, 1) := by decide +kernel
theorem dL_law_352 : decode cL_law 352 = .ok (.aload_n 0, 1) := by decide +kernel
theorem dL_law_353 : decode cL_law 353 = .ok (.iload_n 3, 1) := by decide +kernel
theorem dL_law_354 : decode cL_law 354 = .ok (.iconst 1, 1) := by decide +kernel
theorem dL_law_355 : decode cL_law 355 = .ok (.iadd, 1) := by decide +kernel
theorem dL_law_356 : decode cL_law 356 = .ok (.iaload, 1) := by decide +kernel
theorem dL_law_357 : decode cL_law 357 = .ok (.invokevirtual 45, 3) := by decide +kernel
theorem dL_law_360 : decode cL_law 360 = .ok (.aload_n 2, 1) := by decide +kernel
theorem dL_law_361 : decode cL_law 361 = .ok (.aload_n 0, 1) := by decide +kernel
theorem dL_law_362 : decode cL_law 362 = .ok (.iload_n 3, 1) := by decide +kernel
theorem dL_law_363 : decode cL_law 363 = .ok (.iconst 1, 1) := by decide +kernel
theorem dL_law_364 : decode cL_law 364 = .ok (.iadd, 1) := by decide +kernel
theorem dL_law_365 : decode cL_law 365 = .ok (.iaload, 1) := by decide +kernel
theorem dL_law_366 : decode cL_law 366 = .ok (.invokevirtual 48, 3) := by decide +kernel
theorem dL_law_369 : decode cL_law 369 = .ok (.if_icmp .eq 606, 3) := by decide +kernel
theorem dL_law_372 : decode cL_law 372 = .ok (.iconst 0, 1) := by decide +kernel
theorem dL_law_373 : decode cL_law 373 = .ok (.ireturn, 1) := by decide +kernel
theorem dL_law_374 : decode cL_law 374 = .ok (.aload_n 1, 1) := by decide +kernel
theorem dL_law_375 : decode cL_law 375 = .ok (.aload_n 0, 1) := by decide +kernel
theorem dL_law_376 : decode cL_law 376 = .ok (.iload_n 3, 1) := by decide +kernel
theorem dL_law_377 : decode cL_law 377 = .ok (.iconst 1, 1) := by decide +kernel
theorem dL_law_378 : decode cL_law 378 = .ok (.iadd, 1) := by decide +kernel
theorem dL_law_379 : decode cL_law 379 = .ok (.iaload, 1) := by decide +kernel
theorem dL_law_380 : decode cL_law 380 = .ok (.aload_n 0, 1) := by decide +kernel
theorem dL_law_381 : decode cL_law 381 = .ok (.iload_n 3, 1) := by decide +kernel
theorem dL_law_382 : decode cL_law 382 = .ok (.iconst 2, 1) := by decide +kernel
theorem dL_law_383 : decode cL_law 383 = .ok (.iadd, 1) := by decide +kernel
theorem dL_law_384 : decode cL_law 384 = .ok (.iaload, 1) := by decide +kernel
theorem dL_law_385 : decode cL_law 385 = .ok (.invokevirtual 49, 3) := by decide +kernel
theorem dL_law_388 : decode cL_law 388 = .ok (.aload_n 2, 1) := by decide +kernel
theorem dL_law_389 : decode cL_law 389 = .ok (.aload_n 0, 1) := by decide +kernel
theorem dL_law_390 : decode cL_law 390 = .ok (.iload_n 3, 1) := by decide +kernel
theorem dL_law_391 : decode cL_law 391 = .ok (.iconst 1, 1) := by decide +kernel
theorem dL_law_392 : decode cL_law 392 = .ok (.iadd, 1) := by decide +kernel
theorem dL_law_393 : decode cL_law 393 = .ok (.iaload, 1) := by decide +kernel
theorem dL_law_394 : decode cL_law 394 = .ok (.aload_n 0, 1) := by decide +kernel
theorem dL_law_395 : decode cL_law 395 = .ok (.iload_n 3, 1) := by decide +kernel
theorem dL_law_396 : decode cL_law 396 = .ok (.iconst 2, 1) := by decide +kernel
theorem dL_law_397 : decode cL_law 397 = .ok (.iadd, 1) := by decide +kernel
theorem dL_law_398 : decode cL_law 398 = .ok (.iaload, 1) := by decide +kernel
theorem dL_law_399 : decode cL_law 399 = .ok (.invokevirtual 52, 3) := by decide +kernel
theorem dL_law_402 : decode cL_law 402 = .ok (.if_icmp .eq 573, 3) := by decide +kernel
theorem dL_law_405 : decode cL_law 405 = .ok (.iconst 0, 1) := by decide +kernel
theorem dL_law_406 : decode cL_law 406 = .ok (.ireturn, 1) := by decide +kernel
theorem dL_law_407 : decode cL_law 407 = .ok (.aload_n 1, 1) := by decide +kernel
theorem dL_law_408 : decode cL_law 408 = .ok (.aload_n 0, 1) := by decide +kernel
theorem dL_law_409 : decode cL_law 409 = .ok (.iload_n 3, 1) := by decide +kernel
theorem dL_law_410 : decode cL_law 410 = .ok (.iconst 1, 1) := by decide +kernel
theorem dL_law_411 : decode cL_law 411 = .ok (.iadd, 1) := by decide +kernel
theorem dL_law_412 : decode cL_law 412 = .ok (.iaload, 1) := by decide +kernel
theorem dL_law_413 : decode cL_law 413 = .ok (.invokevirtual 53, 3) := by decide +kernel
theorem dL_law_416 : decode cL_law 416 = .ok (.aload_n 2, 1) := by decide +kernel
theorem dL_law_417 : decode cL_law 417 = .ok (.aload_n 0, 1) := by decide +kernel
theorem dL_law_418 : decode cL_law 418 = .ok (.iload_n 3, 1) := by decide +kernel
theorem dL_law_419 : decode cL_law 419 = .ok (.iconst 1, 1) := by decide +kernel
theorem dL_law_420 : decode cL_law 420 = .ok (.iadd, 1) := by decide +kernel
theorem dL_law_421 : decode cL_law 421 = .ok (.iaload, 1) := by decide +kernel
theorem dL_law_422 : decode cL_law 422 = .ok (.invokevirtual 56, 3) := by decide +kernel
theorem dL_law_425 : decode cL_law 425 = .ok (.if_icmp .eq 550, 3) := by decide +kernel
theorem dL_law_428 : decode cL_law 428 = .ok (.iconst 0, 1) := by decide +kernel
theorem dL_law_429 : decode cL_law 429 = .ok (.ireturn, 1) := by decide +kernel
theorem dL_law_430 : decode cL_law 430 = .ok (.aload_n 1, 1) := by decide +kernel
theorem dL_law_431 : decode cL_law 431 = .ok (.aload_n 0, 1) := by decide +kernel
theorem dL_law_432 : decode cL_law 432 = .ok (.iload_n 3, 1) := by decide +kernel
theorem dL_law_433 : decode cL_law 433 = .ok (.iconst 1, 1) := by decide +kernel
theorem dL_law_434 : decode cL_law 434 = .ok (.iadd, 1) := by decide +kernel
theorem dL_law_435 : decode cL_law 435 = .ok (.iaload, 1) := by decide +kernel
theorem dL_law_436 : decode cL_law 436 = .ok (.invokevirtual 57, 3) := by decide +kernel
theorem dL_law_439 : decode cL_law 439 = .ok (.aload_n 2, 1) := by decide +kernel
theorem dL_law_440 : decode cL_law 440 = .ok (.aload_n 0, 1) := by decide +kernel
theorem dL_law_441 : decode cL_law 441 = .ok (.iload_n 3, 1) := by decide +kernel
theorem dL_law_442 : decode cL_law 442 = .ok (.iconst 1, 1) := by decide +kernel
theorem dL_law_443 : decode cL_law 443 = .ok (.iadd, 1) := by decide +kernel
theorem dL_law_444 : decode cL_law 444 = .ok (.iaload, 1) := by decide +kernel
theorem dL_law_445 : decode cL_law 445 = .ok (.invokevirtual 60, 3) := by decide +kernel
theorem dL_law_448 : decode cL_law 448 = .ok (.if_icmp .eq 527, 3) := by decide +kernel
theorem dL_law_451 : decode cL_law 451 = .ok (.iconst 0, 1) := by decide +kernel
theorem dL_law_452 : decode cL_law 452 = .ok (.ireturn, 1) := by decide +kernel
theorem dL_law_453 : decode cL_law 453 = .ok (.aload_n 1, 1) := by decide +kernel
theorem dL_law_454 : decode cL_law 454 = .ok (.aload_n 0, 1) := by decide +kernel
theorem dL_law_455 : decode cL_law 455 = .ok (.iload_n 3, 1) := by decide +kernel
theorem dL_law_456 : decode cL_law 456 = .ok (.iconst 1, 1) := by decide +kernel
theorem dL_law_457 : decode cL_law 457 = .ok (.iadd, 1) := by decide +kernel
theorem dL_law_458 : decode cL_law 458 = .ok (.iaload, 1) := by decide +kernel
theorem dL_law_459 : decode cL_law 459 = .ok (.invokevirtual 61, 3) := by decide +kernel
theorem dL_law_462 : decode cL_law 462 = .ok (.aload_n 2, 1) := by decide +kernel
theorem dL_law_463 : decode cL_law 463 = .ok (.aload_n 0, 1) := by decide +kernel
theorem dL_law_464 : decode cL_law 464 = .ok (.iload_n 3, 1) := by decide +kernel
theorem dL_law_465 : decode cL_law 465 = .ok (.iconst 1, 1) := by decide +kernel
theorem dL_law_466 : decode cL_law 466 = .ok (.iadd, 1) := by decide +kernel
theorem dL_law_467 : decode cL_law 467 = .ok (.iaload, 1) := by decide +kernel
theorem dL_law_468 : decode cL_law 468 = .ok (.invokevirtual 64, 3) := by decide +kernel
theorem dL_law_471 : decode cL_law 471 = .ok (.if_icmp .eq 504, 3) := by decide +kernel
theorem dL_law_474 : decode cL_law 474 = .ok (.iconst 0, 1) := by decide +kernel
theorem dL_law_475 : decode cL_law 475 = .ok (.ireturn, 1) := by decide +kernel
theorem dL_law_476 : decode cL_law 476 = .ok (.aload_n 1, 1) := by decide +kernel
theorem dL_law_477 : decode cL_law 477 = .ok (.aload_n 0, 1) := by decide +kernel
theorem dL_law_478 : decode cL_law 478 = .ok (.iload_n 3, 1) := by decide +kernel
theorem dL_law_479 : decode cL_law 479 = .ok (.iconst 1, 1) := by decide +kernel
theorem dL_law_480 : decode cL_law 480 = .ok (.iadd, 1) := by decide +kernel
theorem dL_law_481 : decode cL_law 481 = .ok (.iaload, 1) := by decide +kernel
theorem dL_law_482 : decode cL_law 482 = .ok (.invokevirtual 65, 3) := by decide +kernel
theorem dL_law_485 : decode cL_law 485 = .ok (.aload_n 2, 1) := by decide +kernel
theorem dL_law_486 : decode cL_law 486 = .ok (.aload_n 0, 1) := by decide +kernel
theorem dL_law_487 : decode cL_law 487 = .ok (.iload_n 3, 1) := by decide +kernel
theorem dL_law_488 : decode cL_law 488 = .ok (.iconst 1, 1) := by decide +kernel
theorem dL_law_489 : decode cL_law 489 = .ok (.iadd, 1) := by decide +kernel
theorem dL_law_490 : decode cL_law 490 = .ok (.iaload, 1) := by decide +kernel
theorem dL_law_491 : decode cL_law 491 = .ok (.invokevirtual 68, 3) := by decide +kernel
theorem dL_law_494 : decode cL_law 494 = .ok (.if_icmp .eq 481, 3) := by decide +kernel
theorem dL_law_497 : decode cL_law 497 = .ok (.iconst 0, 1) := by decide +kernel
theorem dL_law_498 : decode cL_law 498 = .ok (.ireturn, 1) := by decide +kernel
theorem dL_law_499 : decode cL_law 499 = .ok (.aload_n 1, 1) := by decide +kernel
theorem dL_law_500 : decode cL_law 500 = .ok (.aload_n 0, 1) := by decide +kernel
theorem dL_law_501 : decode cL_law 501 = .ok (.iload_n 3, 1) := by decide +kernel
theorem dL_law_502 : decode cL_law 502 = .ok (.iconst 1, 1) := by decide +kernel
theorem dL_law_503 : decode cL_law 503 = .ok (.iadd, 1) := by decide +kernel
theorem dL_law_504 : decode cL_law 504 = .ok (.iaload, 1) := by decide +kernel
theorem dL_law_505 : decode cL_law 505 = .ok (.invokevirtual 69, 3) := by decide +kernel
theorem dL_law_508 : decode cL_law 508 = .ok (.aload_n 2, 1) := by decide +kernel
theorem dL_law_509 : decode cL_law 509 = .ok (.aload_n 0, 1) := by decide +kernel
theorem dL_law_510 : decode cL_law 510 = .ok (.iload_n 3, 1) := by decide +kernel
theorem dL_law_511 : decode cL_law 511 = .ok (.iconst 1, 1) := by decide +kernel
theorem dL_law_512 : decode cL_law 512 = .ok (.iadd, 1) := by decide +kernel
theorem dL_law_513 : decode cL_law 513 = .ok (.iaload, 1) := by decide +kernel
theorem dL_law_514 : decode cL_law 514 = .ok (.invokevirtual 72, 3) := by decide +kernel
theorem dL_law_517 : decode cL_law 517 = .ok (.if_icmp .eq 458, 3) := by decide +kernel
theorem dL_law_520 : decode cL_law 520 = .ok (.iconst 0, 1) := by decide +kernel
theorem dL_law_521 : decode cL_law 521 = .ok (.ireturn, 1) := by decide +kernel
theorem dL_law_522 : decode cL_law 522 = .ok (.aload_n 1, 1) := by decide +kernel
theorem dL_law_523 : decode cL_law 523 = .ok (.aload_n 0, 1) := by decide +kernel
theorem dL_law_524 : decode cL_law 524 = .ok (.iload_n 3, 1) := by decide +kernel
theorem dL_law_525 : decode cL_law 525 = .ok (.iconst 1, 1) := by decide +kernel
theorem dL_law_526 : decode cL_law 526 = .ok (.iadd, 1) := by decide +kernel
theorem dL_law_527 : decode cL_law 527 = .ok (.iaload, 1) := by decide +kernel
theorem dL_law_528 : decode cL_law 528 = .ok (.invokevirtual 73, 3) := by decide +kernel
theorem dL_law_531 : decode cL_law 531 = .ok (.aload_n 2, 1) := by decide +kernel
theorem dL_law_532 : decode cL_law 532 = .ok (.aload_n 0, 1) := by decide +kernel
theorem dL_law_533 : decode cL_law 533 = .ok (.iload_n 3, 1) := by decide +kernel
theorem dL_law_534 : decode cL_law 534 = .ok (.iconst 1, 1) := by decide +kernel
theorem dL_law_535 : decode cL_law 535 = .ok (.iadd, 1) := by decide +kernel
theorem dL_law_536 : decode cL_law 536 = .ok (.iaload, 1) := by decide +kernel
theorem dL_law_537 : decode cL_law 537 = .ok (.invokevirtual 76, 3) := by decide +kernel
theorem dL_law_540 : decode cL_law 540 = .ok (.if_icmp .eq 435, 3) := by decide +kernel
theorem dL_law_543 : decode cL_law 543 = .ok (.iconst 0, 1) := by decide +kernel
theorem dL_law_544 : decode cL_law 544 = .ok (.ireturn, 1) := by decide +kernel
theorem dL_law_545 : decode cL_law 545 = .ok (.aload_n 1, 1) := by decide +kernel
theorem dL_law_546 : decode cL_law 546 = .ok (.aload_n 0, 1) := by decide +kernel
theorem dL_law_547 : decode cL_law 547 = .ok (.iload_n 3, 1) := by decide +kernel
theorem dL_law_548 : decode cL_law 548 = .ok (.iconst 1, 1) := by decide +kernel
theorem dL_law_549 : decode cL_law 549 = .ok (.iadd, 1) := by decide +kernel
theorem dL_law_550 : decode cL_law 550 = .ok (.iaload, 1) := by decide +kernel
theorem dL_law_551 : decode cL_law 551 = .ok (.invokevirtual 77, 3) := by decide +kernel
theorem dL_law_554 : decode cL_law 554 = .ok (.aload_n 2, 1) := by decide +kernel
theorem dL_law_555 : decode cL_law 555 = .ok (.aload_n 0, 1) := by decide +kernel
theorem dL_law_556 : decode cL_law 556 = .ok (.iload_n 3, 1) := by decide +kernel
theorem dL_law_557 : decode cL_law 557 = .ok (.iconst 1, 1) := by decide +kernel
theorem dL_law_558 : decode cL_law 558 = .ok (.iadd, 1) := by decide +kernel
theorem dL_law_559 : decode cL_law 559 = .ok (.iaload, 1) := by decide +kernel
theorem dL_law_560 : decode cL_law 560 = .ok (.invokevirtual 80, 3) := by decide +kernel
theorem dL_law_563 : decode cL_law 563 = .ok (.if_icmp .eq 412, 3) := by decide +kernel
theorem dL_law_566 : decode cL_law 566 = .ok (.iconst 0, 1) := by decide +kernel
theorem dL_law_567 : decode cL_law 567 = .ok (.ireturn, 1) := by decide +kernel
theorem dL_law_568 : decode cL_law 568 = .ok (.aload_n 1, 1) := by decide +kernel
theorem dL_law_569 : decode cL_law 569 = .ok (.aload_n 0, 1) := by decide +kernel
theorem dL_law_570 : decode cL_law 570 = .ok (.iload_n 3, 1) := by decide +kernel
theorem dL_law_571 : decode cL_law 571 = .ok (.iconst 1, 1) := by decide +kernel
theorem dL_law_572 : decode cL_law 572 = .ok (.iadd, 1) := by decide +kernel
theorem dL_law_573 : decode cL_law 573 = .ok (.iaload, 1) := by decide +kernel
theorem dL_law_574 : decode cL_law 574 = .ok (.aload_n 0, 1) := by decide +kernel
theorem dL_law_575 : decode cL_law 575 = .ok (.iload_n 3, 1) := by decide +kernel
theorem dL_law_576 : decode cL_law 576 = .ok (.iconst 2, 1) := by decide +kernel
theorem dL_law_577 : decode cL_law 577 = .ok (.iadd, 1) := by decide +kernel
theorem dL_law_578 : decode cL_law 578 = .ok (.iaload, 1) := by decide +kernel
theorem dL_law_579 : decode cL_law 579 = .ok (.invokevirtual 81, 3) := by decide +kernel
theorem dL_law_582 : decode cL_law 582 = .ok (.aload_n 2, 1) := by decide +kernel
theorem dL_law_583 : decode cL_law 583 = .ok (.aload_n 0, 1) := by decide +kernel
theorem dL_law_584 : decode cL_law 584 = .ok (.iload_n 3, 1) := by decide +kernel
theorem dL_law_585 : decode cL_law 585 = .ok (.iconst 1, 1) := by decide +kernel
theorem dL_law_586 : decode cL_law 586 = .ok (.iadd, 1) := by decide +kernel
theorem dL_law_587 : decode cL_law 587 = .ok (.iaload, 1) := by decide +kernel
theorem dL_law_588 : decode cL_law 588 = .ok (.aload_n 0, 1) := by decide +kernel
theorem dL_law_589 : decode cL_law 589 = .ok (.iload_n 3, 1) := by decide +kernel
theorem dL_law_590 : decode cL_law 590 = .ok (.iconst 2, 1) := by decide +kernel
theorem dL_law_591 : decode cL_law 591 = .ok (.iadd, 1) := by decide +kernel
theorem dL_law_592 : decode cL_law 592 = .ok (.iaload, 1) := by decide +kernel
theorem dL_law_593 : decode cL_law 593 = .ok (.invokevirtual 84, 3) := by decide +kernel
theorem dL_law_596 : decode cL_law 596 = .ok (.if_icmp .eq 379, 3) := by decide +kernel
theorem dL_law_599 : decode cL_law 599 = .ok (.iconst 0, 1) := by decide +kernel
theorem dL_law_600 : decode cL_law 600 = .ok (.ireturn, 1) := by decide +kernel
theorem dL_law_601 : decode cL_law 601 = .ok (.aload_n 1, 1) := by decide +kernel
theorem dL_law_602 : decode cL_law 602 = .ok (.aload_n 0, 1) := by decide +kernel
theorem dL_law_603 : decode cL_law 603 = .ok (.iload_n 3, 1) := by decide +kernel
theorem dL_law_604 : decode cL_law 604 = .ok (.iconst 1, 1) := by decide +kernel
theorem dL_law_605 : decode cL_law 605 = .ok (.iadd, 1) := by decide +kernel
theorem dL_law_606 : decode cL_law 606 = .ok (.iaload, 1) := by decide +kernel
theorem dL_law_607 : decode cL_law 607 = .ok (.invokevirtual 85, 3) := by decide +kernel
theorem dL_law_610 : decode cL_law 610 = .ok (.aload_n 2, 1) := by decide +kernel
theorem dL_law_611 : decode cL_law 611 = .ok (.aload_n 0, 1) := by decide +kernel
theorem dL_law_612 : decode cL_law 612 = .ok (.iload_n 3, 1) := by decide +kernel
theorem dL_law_613 : decode cL_law 613 = .ok (.iconst 1, 1) := by decide +kernel
theorem dL_law_614 : decode cL_law 614 = .ok (.iadd, 1) := by decide +kernel
theorem dL_law_615 : decode cL_law 615 = .ok (.iaload, 1) := by decide +kernel
theorem dL_law_616 : decode cL_law 616 = .ok (.invokevirtual 88, 3) := by decide +kernel
theorem dL_law_619 : decode cL_law 619 = .ok (.if_icmp .eq 356, 3) := by decide +kernel
theorem dL_law_622 : decode cL_law 622 = .ok (.iconst 0, 1) := by decide +kernel
theorem dL_law_623 : decode cL_law 623 = .ok (.ireturn, 1) := by decide +kernel
theorem dL_law_624 : decode cL_law 624 = .ok (.aload_n 1, 1) := by decide +kernel
theorem dL_law_625 : decode cL_law 625 = .ok (.aload_n 0, 1) := by decide +kernel
theorem dL_law_626 : decode cL_law 626 = .ok (.iload_n 3, 1) := by decide +kernel
theorem dL_law_627 : decode cL_law 627 = .ok (.iconst 1, 1) := by decide +kernel
theorem dL_law_628 : decode cL_law 628 = .ok (.iadd, 1) := by decide +kernel
theorem dL_law_629 : decode cL_law 629 = .ok (.iaload, 1) := by decide +kernel
theorem dL_law_630 : decode cL_law 630 = .ok (.invokevirtual 89, 3) := by decide +kernel
theorem dL_law_633 : decode cL_law 633 = .ok (.aload_n 2, 1) := by decide +kernel
theorem dL_law_634 : decode cL_law 634 = .ok (.aload_n 0, 1) := by decide +kernel
theorem dL_law_635 : decode cL_law 635 = .ok (.iload_n 3, 1) := by decide +kernel
theorem dL_law_636 : decode cL_law 636 = .ok (.iconst 1, 1) := by decide +kernel
theorem dL_law_637 : decode cL_law 637 = .ok (.iadd, 1) := by decide +kernel
theorem dL_law_638 : decode cL_law 638 = .ok (.iaload, 1) := by decide +kernel
theorem dL_law_639 : decode cL_law 639 = .ok (.invokevirtual 92, 3) := by decide +kernel
theorem dL_law_642 : decode cL_law 642 = .ok (.if_icmp .eq 333, 3) := by decide +kernel
theorem dL_law_645 : decode cL_law 645 = .ok (.iconst 0, 1) := by decide +kernel
theorem dL_law_646 : decode cL_law 646 = .ok (.ireturn, 1) := by decide +kernel
theorem dL_law_647 : decode cL_law 647 = .ok (.aload_n 1, 1) := by decide +kernel
theorem dL_law_648 : decode cL_law 648 = .ok (.aload_n 0, 1) := by decide +kernel
theorem dL_law_649 : decode cL_law 649 = .ok (.iload_n 3, 1) := by decide +kernel
theorem dL_law_650 : decode cL_law 650 = .ok (.iconst 1, 1) := by decide +kernel
theorem dL_law_651 : decode cL_law 651 = .ok (.iadd, 1) := by decide +kernel
theorem dL_law_652 : decode cL_law 652 = .ok (.iaload, 1) := by decide +kernel
theorem dL_law_653 : decode cL_law 653 = .ok (.aload_n 0, 1) := by decide +kernel
theorem dL_law_654 : decode cL_law 654 = .ok (.iload_n 3, 1) := by decide +kernel
theorem dL_law_655 : decode cL_law 655 = .ok (.iconst 2, 1) := by decide +kernel
theorem dL_law_656 : decode cL_law 656 = .ok (.iadd, 1) := by decide +kernel
theorem dL_law_657 : decode cL_law 657 = .ok (.iaload, 1) := by decide +kernel
theorem dL_law_658 : decode cL_law 658 = .ok (.aload_n 0, 1) := by decide +kernel
theorem dL_law_659 : decode cL_law 659 = .ok (.iload_n 3, 1) := by decide +kernel
theorem dL_law_660 : decode cL_law 660 = .ok (.iconst 3, 1) := by decide +kernel
theorem dL_law_661 : decode cL_law 661 = .ok (.iadd, 1) := by decide +kernel
theorem dL_law_662 : decode cL_law 662 = .ok (.iaload, 1) := by decide +kernel
theorem dL_law_663 : decode cL_law 663 = .ok (.invokevirtual 93, 3) := by decide +kernel
theorem dL_law_666 : decode cL_law 666 = .ok (.aload_n 2, 1) := by decide +kernel
theorem dL_law_667 : decode cL_law 667 = .ok (.aload_n 0, 1) := by decide +kernel
theorem dL_law_668 : decode cL_law 668 = .ok (.iload_n 3, 1) := by decide +kernel
theorem dL_law_669 : decode cL_law 669 = .ok (.iconst 1, 1) := by decide +kernel
theorem dL_law_670 : decode cL_law 670 = .ok (.iadd, 1) := by decide +kernel
theorem dL_law_671 : decode cL_law 671 = .ok (.iaload, 1) := by decide +kernel
theorem dL_law_672 : decode cL_law 672 = .ok (.aload_n 0, 1) := by decide +kernel
theorem dL_law_673 : decode cL_law 673 = .ok (.iload_n 3, 1) := by decide +kernel
theorem dL_law_674 : decode cL_law 674 = .ok (.iconst 2, 1) := by decide +kernel
theorem dL_law_675 : decode cL_law 675 = .ok (.iadd, 1) := by decide +kernel
theorem dL_law_676 : decode cL_law 676 = .ok (.iaload, 1) := by decide +kernel
theorem dL_law_677 : decode cL_law 677 = .ok (.aload_n 0, 1) := by decide +kernel
theorem dL_law_678 : decode cL_law 678 = .ok (.iload_n 3, 1) := by decide +kernel
theorem dL_law_679 : decode cL_law 679 = .ok (.iconst 3, 1) := by decide +kernel
theorem dL_law_680 : decode cL_law 680 = .ok (.iadd, 1) := by decide +kernel
theorem dL_law_681 : decode cL_law 681 = .ok (.iaload, 1) := by decide +kernel
theorem dL_law_682 : decode cL_law 682 = .ok (.invokevirtual 97, 3) := by decide +kernel
theorem dL_law_685 : decode cL_law 685 = .ok (.lcmp, 1) := by decide +kernel
theorem dL_law_686 : decode cL_law 686 = .ok (.ifCond .eq 289, 3) := by decide +kernel
theorem dL_law_689 : decode cL_law 689 = .ok (.iconst 0, 1) := by decide +kernel
theorem dL_law_690 : decode cL_law 690 = .ok (.ireturn, 1) := by decide +kernel
theorem dL_law_691 : decode cL_law 691 = .ok (.aload_n 1, 1) := by decide +kernel
theorem dL_law_692 : decode cL_law 692 = .ok (.invokevirtual 98, 3) := by decide +kernel
theorem dL_law_695 : decode cL_law 695 = .ok (.aload_n 2, 1) := by decide +kernel
theorem dL_law_696 : decode cL_law 696 = .ok (.invokevirtual 101, 3) := by decide +kernel
theorem dL_law_699 : decode cL_law 699 = .ok (.if_icmp .eq 276, 3) := by decide +kernel
theorem dL_law_702 : decode cL_law 702 = .ok (.iconst 0, 1) := by decide +kernel
theorem dL_law_703 : decode cL_law 703 = .ok (.ireturn, 1) := by decide +kernel
theorem dL_law_704 : decode cL_law 704 = .ok (.aload_n 1, 1) := by decide +kernel
theorem dL_law_705 : decode cL_law 705 = .ok (.invokevirtual 102, 3) := by decide +kernel
theorem dL_law_708 : decode cL_law 708 = .ok (.aload_n 2, 1) := by decide +kernel
theorem dL_law_709 : decode cL_law 709 = .ok (.invokevirtual 105, 3) := by decide +kernel
theorem dL_law_712 : decode cL_law 712 = .ok (.if_icmp .eq 263, 3) := by decide +kernel
theorem dL_law_715 : decode cL_law 715 = .ok (.iconst 0, 1) := by decide +kernel
theorem dL_law_716 : decode cL_law 716 = .ok (.ireturn, 1) := by decide +kernel
theorem dL_law_717 : decode cL_law 717 = .ok (.aload_n 1, 1) := by decide +kernel
theorem dL_law_718 : decode cL_law 718 = .ok (.aload_n 0, 1) := by decide +kernel
theorem dL_law_719 : decode cL_law 719 = .ok (.iload_n 3, 1) := by decide +kernel
theorem dL_law_720 : decode cL_law 720 = .ok (.iconst 1, 1) := by decide +kernel
theorem dL_law_721 : decode cL_law 721 = .ok (.iadd, 1) := by decide +kernel
theorem dL_law_722 : decode cL_law 722 = .ok (.iaload, 1) := by decide +kernel
theorem dL_law_723 : decode cL_law 723 = .ok (.invokevirtual 106, 3) := by decide +kernel
theorem dL_law_726 : decode cL_law 726 = .ok (.aload_n 2, 1) := by decide +kernel
theorem dL_law_727 : decode cL_law 727 = .ok (.aload_n 0, 1) := by decide +kernel
theorem dL_law_728 : decode cL_law 728 = .ok (.iload_n 3, 1) := by decide +kernel
theorem dL_law_729 : decode cL_law 729 = .ok (.iconst 1, 1) := by decide +kernel
theorem dL_law_730 : decode cL_law 730 = .ok (.iadd, 1) := by decide +kernel
theorem dL_law_731 : decode cL_law 731 = .ok (.iaload, 1) := by decide +kernel
theorem dL_law_732 : decode cL_law 732 = .ok (.invokevirtual 109, 3) := by decide +kernel
theorem dL_law_735 : decode cL_law 735 = .ok (.if_icmp .eq 240, 3) := by decide +kernel
theorem dL_law_738 : decode cL_law 738 = .ok (.iconst 0, 1) := by decide +kernel
theorem dL_law_739 : decode cL_law 739 = .ok (.ireturn, 1) := by decide +kernel
theorem dL_law_740 : decode cL_law 740 = .ok (.aload_n 1, 1) := by decide +kernel
theorem dL_law_741 : decode cL_law 741 = .ok (.aload_n 0, 1) := by decide +kernel
theorem dL_law_742 : decode cL_law 742 = .ok (.iload_n 3, 1) := by decide +kernel
theorem dL_law_743 : decode cL_law 743 = .ok (.iconst 1, 1) := by decide +kernel
theorem dL_law_744 : decode cL_law 744 = .ok (.iadd, 1) := by decide +kernel
theorem dL_law_745 : decode cL_law 745 = .ok (.iaload, 1) := by decide +kernel
theorem dL_law_746 : decode cL_law 746 = .ok (.aload_n 0, 1) := by decide +kernel
theorem dL_law_747 : decode cL_law 747 = .ok (.iload_n 3, 1) := by decide +kernel
theorem dL_law_748 : decode cL_law 748 = .ok (.iconst 2, 1) := by decide +kernel
theorem dL_law_749 : decode cL_law 749 = .ok (.iadd, 1) := by decide +kernel
theorem dL_law_750 : decode cL_law 750 = .ok (.iaload, 1) := by decide +kernel
theorem dL_law_751 : decode cL_law 751 = .ok (.aload_n 0, 1) := by decide +kernel
theorem dL_law_752 : decode cL_law 752 = .ok (.iload_n 3, 1) := by decide +kernel
theorem dL_law_753 : decode cL_law 753 = .ok (.iconst 3, 1) := by decide +kernel
theorem dL_law_754 : decode cL_law 754 = .ok (.iadd, 1) := by decide +kernel
theorem dL_law_755 : decode cL_law 755 = .ok (.iaload, 1) := by decide +kernel
theorem dL_law_756 : decode cL_law 756 = .ok (.invokevirtual 110, 3) := by decide +kernel
theorem dL_law_759 : decode cL_law 759 = .ok (.aload_n 2, 1) := by decide +kernel
theorem dL_law_760 : decode cL_law 760 = .ok (.aload_n 0, 1) := by decide +kernel
theorem dL_law_761 : decode cL_law 761 = .ok (.iload_n 3, 1) := by decide +kernel
theorem dL_law_762 : decode cL_law 762 = .ok (.iconst 1, 1) := by decide +kernel
theorem dL_law_763 : decode cL_law 763 = .ok (.iadd, 1) := by decide +kernel
theorem dL_law_764 : decode cL_law 764 = .ok (.iaload, 1) := by decide +kernel
theorem dL_law_765 : decode cL_law 765 = .ok (.aload_n 0, 1) := by decide +kernel
theorem dL_law_766 : decode cL_law 766 = .ok (.iload_n 3, 1) := by decide +kernel
theorem dL_law_767 : decode cL_law 767 = .ok (.iconst 2, 1) := by decide +kernel
theorem dL_law_768 : decode cL_law 768 = .ok (.iadd, 1) := by decide +kernel
theorem dL_law_769 : decode cL_law 769 = .ok (.iaload, 1) := by decide +kernel
theorem dL_law_770 : decode cL_law 770 = .ok (.aload_n 0, 1) := by decide +kernel
theorem dL_law_771 : decode cL_law 771 = .ok (.iload_n 3, 1) := by decide +kernel
theorem dL_law_772 : decode cL_law 772 = .ok (.iconst 3, 1) := by decide +kernel
theorem dL_law_773 : decode cL_law 773 = .ok (.iadd, 1) := by decide +kernel
theorem dL_law_774 : decode cL_law 774 = .ok (.iaload, 1) := by decide +kernel
theorem dL_law_775 : decode cL_law 775 = .ok (.invokevirtual 113, 3) := by decide +kernel
theorem dL_law_778 : decode cL_law 778 = .ok (.if_icmp .eq 197, 3) := by decide +kernel
theorem dL_law_781 : decode cL_law 781 = .ok (.iconst 0, 1) := by decide +kernel
theorem dL_law_782 : decode cL_law 782 = .ok (.ireturn, 1) := by decide +kernel
theorem dL_law_783 : decode cL_law 783 = .ok (.aload_n 1, 1) := by decide +kernel
theorem dL_law_784 : decode cL_law 784 = .ok (.aload_n 0, 1) := by decide +kernel
theorem dL_law_785 : decode cL_law 785 = .ok (.iload_n 3, 1) := by decide +kernel
theorem dL_law_786 : decode cL_law 786 = .ok (.iconst 1, 1) := by decide +kernel
theorem dL_law_787 : decode cL_law 787 = .ok (.iadd, 1) := by decide +kernel
theorem dL_law_788 : decode cL_law 788 = .ok (.iaload, 1) := by decide +kernel
theorem dL_law_789 : decode cL_law 789 = .ok (.aload_n 0, 1) := by decide +kernel
theorem dL_law_790 : decode cL_law 790 = .ok (.iload_n 3, 1) := by decide +kernel
theorem dL_law_791 : decode cL_law 791 = .ok (.iconst 2, 1) := by decide +kernel
theorem dL_law_792 : decode cL_law 792 = .ok (.iadd, 1) := by decide +kernel
theorem dL_law_793 : decode cL_law 793 = .ok (.iaload, 1) := by decide +kernel
theorem dL_law_794 : decode cL_law 794 = .ok (.aload_n 0, 1) := by decide +kernel
theorem dL_law_795 : decode cL_law 795 = .ok (.iload_n 3, 1) := by decide +kernel
theorem dL_law_796 : decode cL_law 796 = .ok (.iconst 3, 1) := by decide +kernel
theorem dL_law_797 : decode cL_law 797 = .ok (.iadd, 1) := by decide +kernel
theorem dL_law_798 : decode cL_law 798 = .ok (.iaload, 1) := by decide +kernel
theorem dL_law_799 : decode cL_law 799 = .ok (.invokevirtual 114, 3) := by decide +kernel
theorem dL_law_802 : decode cL_law 802 = .ok (.aload_n 2, 1) := by decide +kernel
theorem dL_law_803 : decode cL_law 803 = .ok (.aload_n 0, 1) := by decide +kernel
theorem dL_law_804 : decode cL_law 804 = .ok (.iload_n 3, 1) := by decide +kernel
theorem dL_law_805 : decode cL_law 805 = .ok (.iconst 1, 1) := by decide +kernel
theorem dL_law_806 : decode cL_law 806 = .ok (.iadd, 1) := by decide +kernel
theorem dL_law_807 : decode cL_law 807 = .ok (.iaload, 1) := by decide +kernel
theorem dL_law_808 : decode cL_law 808 = .ok (.aload_n 0, 1) := by decide +kernel
theorem dL_law_809 : decode cL_law 809 = .ok (.iload_n 3, 1) := by decide +kernel
theorem dL_law_810 : decode cL_law 810 = .ok (.iconst 2, 1) := by decide +kernel
theorem dL_law_811 : decode cL_law 811 = .ok (.iadd, 1) := by decide +kernel
theorem dL_law_812 : decode cL_law 812 = .ok (.iaload, 1) := by decide +kernel
theorem dL_law_813 : decode cL_law 813 = .ok (.aload_n 0, 1) := by decide +kernel
theorem dL_law_814 : decode cL_law 814 = .ok (.iload_n 3, 1) := by decide +kernel
theorem dL_law_815 : decode cL_law 815 = .ok (.iconst 3, 1) := by decide +kernel
theorem dL_law_816 : decode cL_law 816 = .ok (.iadd, 1) := by decide +kernel
theorem dL_law_817 : decode cL_law 817 = .ok (.iaload, 1) := by decide +kernel
theorem dL_law_818 : decode cL_law 818 = .ok (.invokevirtual 117, 3) := by decide +kernel
theorem dL_law_821 : decode cL_law 821 = .ok (.if_icmp .eq 154, 3) := by decide +kernel
theorem dL_law_824 : decode cL_law 824 = .ok (.iconst 0, 1) := by decide +kernel
theorem dL_law_825 : decode cL_law 825 = .ok (.ireturn, 1) := by decide +kernel
theorem dL_law_826 : decode cL_law 826 = .ok (.aload_n 1, 1) := by decide +kernel
theorem dL_law_827 : decode cL_law 827 = .ok (.aload_n 0, 1) := by decide +kernel
theorem dL_law_828 : decode cL_law 828 = .ok (.iload_n 3, 1) := by decide +kernel
theorem dL_law_829 : decode cL_law 829 = .ok (.iconst 1, 1) := by decide +kernel
theorem dL_law_830 : decode cL_law 830 = .ok (.iadd, 1) := by decide +kernel
theorem dL_law_831 : decode cL_law 831 = .ok (.iaload, 1) := by decide +kernel
theorem dL_law_832 : decode cL_law 832 = .ok (.aload_n 0, 1) := by decide +kernel
theorem dL_law_833 : decode cL_law 833 = .ok (.iload_n 3, 1) := by decide +kernel
theorem dL_law_834 : decode cL_law 834 = .ok (.iconst 2, 1) := by decide +kernel
theorem dL_law_835 : decode cL_law 835 = .ok (.iadd, 1) := by decide +kernel
theorem dL_law_836 : decode cL_law 836 = .ok (.iaload, 1) := by decide +kernel
theorem dL_law_837 : decode cL_law 837 = .ok (.aload_n 0, 1) := by decide +kernel
theorem dL_law_838 : decode cL_law 838 = .ok (.iload_n 3, 1) := by decide +kernel
theorem dL_law_839 : decode cL_law 839 = .ok (.iconst 3, 1) := by decide +kernel
theorem dL_law_840 : decode cL_law 840 = .ok (.iadd, 1) := by decide +kernel
theorem dL_law_841 : decode cL_law 841 = .ok (.iaload, 1) := by decide +kernel
theorem dL_law_842 : decode cL_law 842 = .ok (.aload_n 0, 1) := by decide +kernel
theorem dL_law_843 : decode cL_law 843 = .ok (.iload_n 3, 1) := by decide +kernel
theorem dL_law_844 : decode cL_law 844 = .ok (.iconst 4, 1) := by decide +kernel
theorem dL_law_845 : decode cL_law 845 = .ok (.iadd, 1) := by decide +kernel
theorem dL_law_846 : decode cL_law 846 = .ok (.iaload, 1) := by decide +kernel
theorem dL_law_847 : decode cL_law 847 = .ok (.aload_n 0, 1) := by decide +kernel
theorem dL_law_848 : decode cL_law 848 = .ok (.iload_n 3, 1) := by decide +kernel
theorem dL_law_849 : decode cL_law 849 = .ok (.iconst 5, 1) := by decide +kernel
theorem dL_law_850 : decode cL_law 850 = .ok (.iadd, 1) := by decide +kernel
theorem dL_law_851 : decode cL_law 851 = .ok (.iaload, 1) := by decide +kernel
theorem dL_law_852 : decode cL_law 852 = .ok (.invokevirtual 118, 3) := by decide +kernel
theorem dL_law_855 : decode cL_law 855 = .ok (.aload_n 2, 1) := by decide +kernel
theorem dL_law_856 : decode cL_law 856 = .ok (.aload_n 0, 1) := by decide +kernel
theorem dL_law_857 : decode cL_law 857 = .ok (.iload_n 3, 1) := by decide +kernel
theorem dL_law_858 : decode cL_law 858 = .ok (.iconst 1, 1) := by decide +kernel
theorem dL_law_859 : decode cL_law 859 = .ok (.iadd, 1) := by decide +kernel
theorem dL_law_860 : decode cL_law 860 = .ok (.iaload, 1) := by decide +kernel
theorem dL_law_861 : decode cL_law 861 = .ok (.aload_n 0, 1) := by decide +kernel
theorem dL_law_862 : decode cL_law 862 = .ok (.iload_n 3, 1) := by decide +kernel
theorem dL_law_863 : decode cL_law 863 = .ok (.iconst 2, 1) := by decide +kernel
theorem dL_law_864 : decode cL_law 864 = .ok (.iadd, 1) := by decide +kernel
theorem dL_law_865 : decode cL_law 865 = .ok (.iaload, 1) := by decide +kernel
theorem dL_law_866 : decode cL_law 866 = .ok (.aload_n 0, 1) := by decide +kernel
theorem dL_law_867 : decode cL_law 867 = .ok (.iload_n 3, 1) := by decide +kernel
theorem dL_law_868 : decode cL_law 868 = .ok (.iconst 3, 1) := by decide +kernel
theorem dL_law_869 : decode cL_law 869 = .ok (.iadd, 1) := by decide +kernel
theorem dL_law_870 : decode cL_law 870 = .ok (.iaload, 1) := by decide +kernel
theorem dL_law_871 : decode cL_law 871 = .ok (.aload_n 0, 1) := by decide +kernel
theorem dL_law_872 : decode cL_law 872 = .ok (.iload_n 3, 1) := by decide +kernel
theorem dL_law_873 : decode cL_law 873 = .ok (.iconst 4, 1) := by decide +kernel
theorem dL_law_874 : decode cL_law 874 = .ok (.iadd, 1) := by decide +kernel
theorem dL_law_875 : decode cL_law 875 = .ok (.iaload, 1) := by decide +kernel
theorem dL_law_876 : decode cL_law 876 = .ok (.aload_n 0, 1) := by decide +kernel
theorem dL_law_877 : decode cL_law 877 = .ok (.iload_n 3, 1) := by decide +kernel
theorem dL_law_878 : decode cL_law 878 = .ok (.iconst 5, 1) := by decide +kernel
theorem dL_law_879 : decode cL_law 879 = .ok (.iadd, 1) := by decide +kernel
theorem dL_law_880 : decode cL_law 880 = .ok (.iaload, 1) := by decide +kernel
theorem dL_law_881 : decode cL_law 881 = .ok (.invokevirtual 122, 3) := by decide +kernel
theorem dL_law_884 : decode cL_law 884 = .ok (.if_icmp .eq 91, 3) := by decide +kernel
theorem dL_law_887 : decode cL_law 887 = .ok (.iconst 0, 1) := by decide +kernel
theorem dL_law_888 : decode cL_law 888 = .ok (.ireturn, 1) := by decide +kernel
theorem dL_law_889 : decode cL_law 889 = .ok (.aload_n 1, 1) := by decide +kernel
theorem dL_law_890 : decode cL_law 890 = .ok (.aload_n 0, 1) := by decide +kernel
theorem dL_law_891 : decode cL_law 891 = .ok (.iload_n 3, 1) := by decide +kernel
theorem dL_law_892 : decode cL_law 892 = .ok (.iconst 1, 1) := by decide +kernel
theorem dL_law_893 : decode cL_law 893 = .ok (.iadd, 1) := by decide +kernel
theorem dL_law_894 : decode cL_law 894 = .ok (.iaload, 1) := by decide +kernel
theorem dL_law_895 : decode cL_law 895 = .ok (.aload_n 0, 1) := by decide +kernel
theorem dL_law_896 : decode cL_law 896 = .ok (.iload_n 3, 1) := by decide +kernel
theorem dL_law_897 : decode cL_law 897 = .ok (.iconst 2, 1) := by decide +kernel
theorem dL_law_898 : decode cL_law 898 = .ok (.iadd, 1) := by decide +kernel
theorem dL_law_899 : decode cL_law 899 = .ok (.iaload, 1) := by decide +kernel
theorem dL_law_900 : decode cL_law 900 = .ok (.aload_n 0, 1) := by decide +kernel
theorem dL_law_901 : decode cL_law 901 = .ok (.iload_n 3, 1) := by decide +kernel
theorem dL_law_902 : decode cL_law 902 = .ok (.iconst 3, 1) := by decide +kernel
theorem dL_law_903 : decode cL_law 903 = .ok (.iadd, 1) := by decide +kernel
theorem dL_law_904 : decode cL_law 904 = .ok (.iaload, 1) := by decide +kernel
theorem dL_law_905 : decode cL_law 905 = .ok (.aload_n 0, 1) := by decide +kernel
theorem dL_law_906 : decode cL_law 906 = .ok (.iload_n 3, 1) := by decide +kernel
theorem dL_law_907 : decode cL_law 907 = .ok (.iconst 4, 1) := by decide +kernel
theorem dL_law_908 : decode cL_law 908 = .ok (.iadd, 1) := by decide +kernel
theorem dL_law_909 : decode cL_law 909 = .ok (.iaload, 1) := by decide +kernel
theorem dL_law_910 : decode cL_law 910 = .ok (.invokevirtual 123, 3) := by decide +kernel
theorem dL_law_913 : decode cL_law 913 = .ok (.aload_n 2, 1) := by decide +kernel
theorem dL_law_914 : decode cL_law 914 = .ok (.aload_n 0, 1) := by decide +kernel
theorem dL_law_915 : decode cL_law 915 = .ok (.iload_n 3, 1) := by decide +kernel
theorem dL_law_916 : decode cL_law 916 = .ok (.iconst 1, 1) := by decide +kernel
theorem dL_law_917 : decode cL_law 917 = .ok (.iadd, 1) := by decide +kernel
theorem dL_law_918 : decode cL_law 918 = .ok (.iaload, 1) := by decide +kernel
theorem dL_law_919 : decode cL_law 919 = .ok (.aload_n 0, 1) := by decide +kernel
theorem dL_law_920 : decode cL_law 920 = .ok (.iload_n 3, 1) := by decide +kernel
theorem dL_law_921 : decode cL_law 921 = .ok (.iconst 2, 1) := by decide +kernel
theorem dL_law_922 : decode cL_law 922 = .ok (.iadd, 1) := by decide +kernel
theorem dL_law_923 : decode cL_law 923 = .ok (.iaload, 1) := by decide +kernel
theorem dL_law_924 : decode cL_law 924 = .ok (.aload_n 0, 1) := by decide +kernel
theorem dL_law_925 : decode cL_law 925 = .ok (.iload_n 3, 1) := by decide +kernel
theorem dL_law_926 : decode cL_law 926 = .ok (.iconst 3, 1) := by decide +kernel
theorem dL_law_927 : decode cL_law 927 = .ok (.iadd, 1) := by decide +kernel
theorem dL_law_928 : decode cL_law 928 = .ok (.iaload, 1) := by decide +kernel
theorem dL_law_929 : decode cL_law 929 = .ok (.aload_n 0, 1) := by decide +kernel
theorem dL_law_930 : decode cL_law 930 = .ok (.iload_n 3, 1) := by decide +kernel
theorem dL_law_931 : decode cL_law 931 = .ok (.iconst 4, 1) := by decide +kernel
theorem dL_law_932 : decode cL_law 932 = .ok (.iadd, 1) := by decide +kernel
theorem dL_law_933 : decode cL_law 933 = .ok (.iaload, 1) := by decide +kernel
theorem dL_law_934 : decode cL_law 934 = .ok (.invokevirtual 127, 3) := by decide +kernel
theorem dL_law_937 : decode cL_law 937 = .ok (.if_icmp .eq 38, 3) := by decide +kernel
theorem dL_law_940 : decode cL_law 940 = .ok (.iconst 0, 1) := by decide +kernel
theorem dL_law_941 : decode cL_law 941 = .ok (.ireturn, 1) := by decide +kernel
theorem dL_law_942 : decode cL_law 942 = .ok (.aload_n 1, 1) := by decide +kernel
theorem dL_law_943 : decode cL_law 943 = .ok (.aload_n 0, 1) := by decide +kernel
theorem dL_law_944 : decode cL_law 944 = .ok (.iload_n 3, 1) := by decide +kernel
theorem dL_law_945 : decode cL_law 945 = .ok (.iconst 1, 1) := by decide +kernel
theorem dL_law_946 : decode cL_law 946 = .ok (.iadd, 1) := by decide +kernel
theorem dL_law_947 : decode cL_law 947 = .ok (.iaload, 1) := by decide +kernel
theorem dL_law_948 : decode cL_law 948 = .ok (.aload_n 0, 1) := by decide +kernel
theorem dL_law_949 : decode cL_law 949 = .ok (.iload_n 3, 1) := by decide +kernel
theorem dL_law_950 : decode cL_law 950 = .ok (.iconst 2, 1) := by decide +kernel
theorem dL_law_951 : decode cL_law 951 = .ok (.iadd, 1) := by decide +kernel
theorem dL_law_952 : decode cL_law 952 = .ok (.iaload, 1) := by decide +kernel
theorem dL_law_953 : decode cL_law 953 = .ok (.invokevirtual 128, 3) := by decide +kernel
theorem dL_law_956 : decode cL_law 956 = .ok (.aload_n 2, 1) := by decide +kernel
theorem dL_law_957 : decode cL_law 957 = .ok (.aload_n 0, 1) := by decide +kernel
theorem dL_law_958 : decode cL_law 958 = .ok (.iload_n 3, 1) := by decide +kernel
theorem dL_law_959 : decode cL_law 959 = .ok (.iconst 1, 1) := by decide +kernel
theorem dL_law_960 : decode cL_law 960 = .ok (.iadd, 1) := by decide +kernel
theorem dL_law_961 : decode cL_law 961 = .ok (.iaload, 1) := by decide +kernel
theorem dL_law_962 : decode cL_law 962 = .ok (.aload_n 0, 1) := by decide +kernel
theorem dL_law_963 : decode cL_law 963 = .ok (.iload_n 3, 1) := by decide +kernel
theorem dL_law_964 : decode cL_law 964 = .ok (.iconst 2, 1) := by decide +kernel
theorem dL_law_965 : decode cL_law 965 = .ok (.iadd, 1) := by decide +kernel
theorem dL_law_966 : decode cL_law 966 = .ok (.iaload, 1) := by decide +kernel
theorem dL_law_967 : decode cL_law 967 = .ok (.invokevirtual 131, 3) := by decide +kernel
theorem dL_law_970 : decode cL_law 970 = .ok (.if_icmp .eq 5, 3) := by decide +kernel
theorem dL_law_973 : decode cL_law 973 = .ok (.iconst 0, 1) := by decide +kernel
theorem dL_law_974 : decode cL_law 974 = .ok (.ireturn, 1) := by decide +kernel
theorem dL_law_975 : decode cL_law 975 = .ok (.iinc 3 6, 3) := by decide +kernel
theorem dL_law_978 : decode cL_law 978 = .ok (.goto (-960), 3) := by decide +kernel
theorem dL_law_981 : decode cL_law 981 = .ok (.iconst 1, 1) := by decide +kernel
theorem dL_law_982 : decode cL_law 982 = .ok (.ireturn, 1) := by decide +kernel
