theorem dX0_init_0 : decode cX0_init 0 = .ok (.aload_n 0, 1) := by decide +kernel
theorem dX0_init_1 : decode cX0_init 1 = .ok (.invokespecial 3, 3) := by decide +kernel
theorem dX0_init_4 : decode cX0_init 4 = .ok (.aload_n 0, 1) := by decide +kernel
theorem dX0_init_5 : decode cX0_init 5 = .ok (.bipush 7, 2) := by decide +kernel
theorem dX0_init_7 : decode cX0_init 7 = .ok (.newarray .int, 2) := by decide +kernel
theorem dX0_init_9 : decode cX0_init 9 = .ok (.putfield 9, 3) := by decide +kernel
theorem dX0_init_12 : decode cX0_init 12 = .ok (.aload_n 0, 1) := by decide +kernel
theorem dX0_init_13 : decode cX0_init 13 = .ok (.iconst (-1), 1) := by decide +kernel
theorem dX0_init_14 : decode cX0_init 14 = .ok (.putfield 15, 3) := by decide +kernel
theorem dX0_init_17 : decode cX0_init 17 = .ok (.aload_n 0, 1) := by decide +kernel
theorem dX0_init_18 : decode cX0_init 18 = .ok (.bipush 8, 2) := by decide +kernel
theorem dX0_init_20 : decode cX0_init 20 = .ok (.bipush 7, 2) := by decide +kernel
theorem dX0_init_22 : decode cX0_init 22 = .ok (.multianewarray 19 2, 4) := by decide +kernel
theorem dX0_init_26 : decode cX0_init 26 = .ok (.putfield 21, 3) := by decide +kernel
theorem dX0_init_29 : decode cX0_init 29 = .ok (.aload_n 0, 1) := by decide +kernel
theorem dX0_init_30 : decode cX0_init 30 = .ok (.bipush 8, 2) := by decide +kernel
theorem dX0_init_32 : decode cX0_init 32 = .ok (.newarray .int, 2) := by decide +kernel
theorem dX0_init_34 : decode cX0_init 34 = .ok (.putfield 24, 3) := by decide +kernel
theorem dX0_init_37 : decode cX0_init 37 = .ok (.aload_n 0, 1) := by decide +kernel
theorem dX0_init_38 : decode cX0_init 38 = .ok (.bipush 7, 2) := by decide +kernel
theorem dX0_init_40 : decode cX0_init 40 = .ok (.newarray .int, 2) := by decide +kernel
theorem dX0_init_42 : decode cX0_init 42 = .ok (.putfield 27, 3) := by decide +kernel
theorem dX0_init_45 : decode cX0_init 45 = .ok (.aload_n 0, 1) := by decide +kernel
theorem dX0_init_46 : decode cX0_init 46 = .ok (.aload_n 1, 1) := by decide +kernel
theorem dX0_init_47 : decode cX0_init 47 = .ok (.putfield 30, 3) := by decide +kernel
theorem dX0_init_50 : decode cX0_init 50 = .ok (.aload_n 0, 1) := by decide +kernel
theorem dX0_init_51 : decode cX0_init 51 = .ok (.aload_n 2, 1) := by decide +kernel
theorem dX0_init_52 : decode cX0_init 52 = .ok (.putfield 34, 3) := by decide +kernel
theorem dX0_init_55 : decode cX0_init 55 = .ok (.return_, 1) := by decide +kernel
theorem dX0_clear_0 : decode cX0_clear 0 = .ok (.aload_n 0, 1) := by decide +kernel
theorem dX0_clear_1 : decode cX0_clear 1 = .ok (.iconst 0, 1) := by decide +kernel
theorem dX0_clear_2 : decode cX0_clear 2 = .ok (.putfield 38, 3) := by decide +kernel
theorem dX0_clear_5 : decode cX0_clear 5 = .ok (.return_, 1) := by decide +kernel
theorem dX0_append_0 : decode cX0_append 0 = .ok (.aload_n 0, 1) := by decide +kernel
theorem dX0_append_1 : decode cX0_append 1 = .ok (.getfield 38, 3) := by decide +kernel
theorem dX0_append_4 : decode cX0_append 4 = .ok (.bipush 7, 2) := by decide +kernel
theorem dX0_append_6 : decode cX0_append 6 = .ok (.if_icmp .ge 20, 3) := by decide +kernel
theorem dX0_append_9 : decode cX0_append 9 = .ok (.aload_n 0, 1) := by decide +kernel
theorem dX0_append_10 : decode cX0_append 10 = .ok (.getfield 9, 3) := by decide +kernel
theorem dX0_append_13 : decode cX0_append 13 = .ok (.aload_n 0, 1) := by decide +kernel
theorem dX0_append_14 : decode cX0_append 14 = .ok (.dup, 1) := by decide +kernel
theorem dX0_append_15 : decode cX0_append 15 = .ok (.getfield 38, 3) := by decide +kernel
theorem dX0_append_18 : decode cX0_append 18 = .ok (.dup_x1, 1) := by decide +kernel
theorem dX0_append_19 : decode cX0_append 19 = .ok (.iconst 1, 1) := by decide +kernel
theorem dX0_append_20 : decode cX0_append 20 = .ok (.iadd, 1) := by decide +kernel
theorem dX0_append_21 : decode cX0_append 21 = .ok (.putfield 38, 3) := by decide +kernel
theorem dX0_append_24 : decode cX0_append 24 = .ok (.iload_n 1, 1) := by decide +kernel
theorem dX0_append_25 : decode cX0_append 25 = .ok (.iastore, 1) := by decide +kernel
theorem dX0_append_26 : decode cX0_append 26 = .ok (.return_, 1) := by decide +kernel
theorem dX0_choose_0 : decode cX0_choose 0 = .ok (.aload_n 0, 1) := by decide +kernel
theorem dX0_choose_1 : decode cX0_choose 1 = .ok (.invokevirtual 41, 3) := by decide +kernel
theorem dX0_choose_4 : decode cX0_choose 4 = .ok (.iconst 0, 1) := by decide +kernel
theorem dX0_choose_5 : decode cX0_choose 5 = .ok (.istore_n 3, 1) := by decide +kernel
theorem dX0_choose_6 : decode cX0_choose 6 = .ok (.iload_n 3, 1) := by decide +kernel
theorem dX0_choose_7 : decode cX0_choose 7 = .ok (.aload_n 1, 1) := by decide +kernel
theorem dX0_choose_8 : decode cX0_choose 8 = .ok (.getfield 44, 3) := by decide +kernel
theorem dX0_choose_11 : decode cX0_choose 11 = .ok (.if_icmp .ge 22, 3) := by decide +kernel
theorem dX0_choose_14 : decode cX0_choose 14 = .ok (.iload_n 2, 1) := by decide +kernel
theorem dX0_choose_15 : decode cX0_choose 15 = .ok (.iload_n 3, 1) := by decide +kernel
theorem dX0_choose_16 : decode cX0_choose 16 = .ok (.ishr, 1) := by decide +kernel
theorem dX0_choose_17 : decode cX0_choose 17 = .ok (.iconst 1, 1) := by decide +kernel
theorem dX0_choose_18 : decode cX0_choose 18 = .ok (.iand, 1) := by decide +kernel
theorem dX0_choose_19 : decode cX0_choose 19 = .ok (.ifCond .eq 8, 3) := by decide +kernel
theorem dX0_choose_22 : decode cX0_choose 22 = .ok (.aload_n 0, 1) := by decide +kernel
theorem dX0_choose_23 : decode cX0_choose 23 = .ok (.iload_n 3, 1) := by decide +kernel
theorem dX0_choose_24 : decode cX0_choose 24 = .ok (.invokevirtual 49, 3) := by decide +kernel
theorem dX0_choose_27 : decode cX0_choose 27 = .ok (.iinc 3 1, 3) := by decide +kernel
theorem dX0_choose_30 : decode cX0_choose 30 = .ok (.goto (-24), 3) := by decide +kernel
theorem dX0_choose_33 : decode cX0_choose 33 = .ok (.return_, 1) := by decide +kernel
theorem dX0_chooseWorstFirst_0 : decode cX0_chooseWorstFirst 0 = .ok (.aload_n 0, 1) := by decide +kernel
theorem dX0_chooseWorstFirst_1 : decode cX0_chooseWorstFirst 1 = .ok (.invokevirtual 41, 3) := by decide +kernel
theorem dX0_chooseWorstFirst_4 : decode cX0_chooseWorstFirst 4 = .ok (.iconst 0, 1) := by decide +kernel
theorem dX0_chooseWorstFirst_5 : decode cX0_chooseWorstFirst 5 = .ok (.istore_n 2, 1) := by decide +kernel
theorem dX0_chooseWorstFirst_6 : decode cX0_chooseWorstFirst 6 = .ok (.iload_n 2, 1) := by decide +kernel
theorem dX0_chooseWorstFirst_7 : decode cX0_chooseWorstFirst 7 = .ok (.aload_n 1, 1) := by decide +kernel
theorem dX0_chooseWorstFirst_8 : decode cX0_chooseWorstFirst 8 = .ok (.getfield 44, 3) := by decide +kernel
theorem dX0_chooseWorstFirst_11 : decode cX0_chooseWorstFirst 11 = .ok (.if_icmp .ge 94, 3) := by decide +kernel
theorem dX0_chooseWorstFirst_14 : decode cX0_chooseWorstFirst 14 = .ok (.aload_n 0, 1) := by decide +kernel
theorem dX0_chooseWorstFirst_15 : decode cX0_chooseWorstFirst 15 = .ok (.getfield 27, 3) := by decide +kernel
theorem dX0_chooseWorstFirst_18 : decode cX0_chooseWorstFirst 18 = .ok (.iload_n 2, 1) := by decide +kernel
theorem dX0_chooseWorstFirst_19 : decode cX0_chooseWorstFirst 19 = .ok (.aload_n 1, 1) := by decide +kernel
theorem dX0_chooseWorstFirst_20 : decode cX0_chooseWorstFirst 20 = .ok (.getfield 53, 3) := by decide +kernel
theorem dX0_chooseWorstFirst_23 : decode cX0_chooseWorstFirst 23 = .ok (.iload_n 2, 1) := by decide +kernel
theorem dX0_chooseWorstFirst_24 : decode cX0_chooseWorstFirst 24 = .ok (.iaload, 1) := by decide +kernel
theorem dX0_chooseWorstFirst_25 : decode cX0_chooseWorstFirst 25 = .ok (.aload_n 1, 1) := by decide +kernel
theorem dX0_chooseWorstFirst_26 : decode cX0_chooseWorstFirst 26 = .ok (.getfield 56, 3) := by decide +kernel
theorem dX0_chooseWorstFirst_29 : decode cX0_chooseWorstFirst 29 = .ok (.iload_n 2, 1) := by decide +kernel
theorem dX0_chooseWorstFirst_30 : decode cX0_chooseWorstFirst 30 = .ok (.iaload, 1) := by decide +kernel
theorem dX0_chooseWorstFirst_31 : decode cX0_chooseWorstFirst 31 = .ok (.invokestatic 59, 3) := by decide +kernel
theorem dX0_chooseWorstFirst_34 : decode cX0_chooseWorstFirst 34 = .ok (.imul, 1) := by decide +kernel
theorem dX0_chooseWorstFirst_35 : decode cX0_chooseWorstFirst 35 = .ok (.iastore, 1) := by decide +kernel
theorem dX0_chooseWorstFirst_36 : decode cX0_chooseWorstFirst 36 = .ok (.aload_n 0, 1) := by decide +kernel
theorem dX0_chooseWorstFirst_37 : decode cX0_chooseWorstFirst 37 = .ok (.getfield 38, 3) := by decide +kernel
theorem dX0_chooseWorstFirst_40 : decode cX0_chooseWorstFirst 40 = .ok (.istore_n 3, 1) := by decide +kernel
theorem dX0_chooseWorstFirst_41 : decode cX0_chooseWorstFirst 41 = .ok (.aload_n 0, 1) := by decide +kernel
theorem dX0_chooseWorstFirst_42 : decode cX0_chooseWorstFirst 42 = .ok (.iload_n 2, 1) := by decide +kernel
theorem dX0_chooseWorstFirst_43 : decode cX0_chooseWorstFirst 43 = .ok (.invokevirtual 49, 3) := by decide +kernel
theorem dX0_chooseWorstFirst_46 : decode cX0_chooseWorstFirst 46 = .ok (.iload_n 3, 1) := by decide +kernel
theorem dX0_chooseWorstFirst_47 : decode cX0_chooseWorstFirst 47 = .ok (.ifCond .le 45, 3) := by decide +kernel
theorem dX0_chooseWorstFirst_50 : decode cX0_chooseWorstFirst 50 = .ok (.aload_n 0, 1) := by decide +kernel
theorem dX0_chooseWorstFirst_51 : decode cX0_chooseWorstFirst 51 = .ok (.getfield 27, 3) := by decide +kernel
theorem dX0_chooseWorstFirst_54 : decode cX0_chooseWorstFirst 54 = .ok (.aload_n 0, 1) := by decide +kernel
theorem dX0_chooseWorstFirst_55 : decode cX0_chooseWorstFirst 55 = .ok (.getfield 9, 3) := by decide +kernel
theorem dX0_chooseWorstFirst_58 : decode cX0_chooseWorstFirst 58 = .ok (.iload_n 3, 1) := by decide +kernel
theorem dX0_chooseWorstFirst_59 : decode cX0_chooseWorstFirst 59 = .ok (.iconst 1, 1) := by decide +kernel
theorem dX0_chooseWorstFirst_60 : decode cX0_chooseWorstFirst 60 = .ok (.isub, 1) := by decide +kernel
theorem dX0_chooseWorstFirst_61 : decode cX0_chooseWorstFirst 61 = .ok (.iaload, 1) := by decide +kernel
theorem dX0_chooseWorstFirst_62 : decode cX0_chooseWorstFirst 62 = .ok (.iaload, 1) := by decide +kernel
theorem dX0_chooseWorstFirst_63 : decode cX0_chooseWorstFirst 63 = .ok (.aload_n 0, 1) := by decide +kernel
theorem dX0_chooseWorstFirst_64 : decode cX0_chooseWorstFirst 64 = .ok (.getfield 27, 3) := by decide +kernel
theorem dX0_chooseWorstFirst_67 : decode cX0_chooseWorstFirst 67 = .ok (.iload_n 2, 1) := by decide +kernel
theorem dX0_chooseWorstFirst_68 : decode cX0_chooseWorstFirst 68 = .ok (.iaload, 1) := by decide +kernel
theorem dX0_chooseWorstFirst_69 : decode cX0_chooseWorstFirst 69 = .ok (.if_icmp .ge 23, 3) := by decide +kernel
theorem dX0_chooseWorstFirst_72 : decode cX0_chooseWorstFirst 72 = .ok (.aload_n 0, 1) := by decide +kernel
theorem dX0_chooseWorstFirst_73 : decode cX0_chooseWorstFirst 73 = .ok (.getfield 9, 3) := by decide +kernel
theorem dX0_chooseWorstFirst_76 : decode cX0_chooseWorstFirst 76 = .ok (.iload_n 3, 1) := by decide +kernel
theorem dX0_chooseWorstFirst_77 : decode cX0_chooseWorstFirst 77 = .ok (.aload_n 0, 1) := by decide +kernel
theorem dX0_chooseWorstFirst_78 : decode cX0_chooseWorstFirst 78 = .ok (.getfield 9, 3) := by decide +kernel
theorem dX0_chooseWorstFirst_81 : decode cX0_chooseWorstFirst 81 = .ok (.iload_n 3, 1) := by decide +kernel
theorem dX0_chooseWorstFirst_82 : decode cX0_chooseWorstFirst 82 = .ok (.iconst 1, 1) := by decide +kernel
theorem dX0_chooseWorstFirst_83 : decode cX0_chooseWorstFirst 83 = .ok (.isub, 1) := by decide +kernel
theorem dX0_chooseWorstFirst_84 : decode cX0_chooseWorstFirst 84 = .ok (.iaload, 1) := by decide +kernel
theorem dX0_chooseWorstFirst_85 : decode cX0_chooseWorstFirst 85 = .ok (.iastore, 1) := by decide +kernel
theorem dX0_chooseWorstFirst_86 : decode cX0_chooseWorstFirst 86 = .ok (.iinc 3 (-1), 3) := by decide +kernel
theorem dX0_chooseWorstFirst_89 : decode cX0_chooseWorstFirst 89 = .ok (.goto (-43), 3) := by decide +kernel
theorem dX0_chooseWorstFirst_92 : decode cX0_chooseWorstFirst 92 = .ok (.aload_n 0, 1) := by decide +kernel
theorem dX0_chooseWorstFirst_93 : decode cX0_chooseWorstFirst 93 = .ok (.getfield 9, 3) := by decide +kernel
theorem dX0_chooseWorstFirst_96 : decode cX0_chooseWorstFirst 96 = .ok (.iload_n 3, 1) := by decide +kernel
theorem dX0_chooseWorstFirst_97 : decode cX0_chooseWorstFirst 97 = .ok (.iload_n 2, 1) := by decide +kernel
theorem dX0_chooseWorstFirst_98 : decode cX0_chooseWorstFirst 98 = .ok (.iastore, 1) := by decide +kernel
theorem dX0_chooseWorstFirst_99 : decode cX0_chooseWorstFirst 99 = .ok (.iinc 2 1, 3) := by decide +kernel
theorem dX0_chooseWorstFirst_102 : decode cX0_chooseWorstFirst 102 = .ok (.goto (-96), 3) := by decide +kernel
theorem dX0_chooseWorstFirst_105 : decode cX0_chooseWorstFirst 105 = .ok (.return_, 1) := by decide +kernel
theorem dX0_run_0 : decode cX0_run 0 = .ok (.aload_n 0, 1) := by decide +kernel
theorem dX0_run_1 : decode cX0_run 1 = .ok (.aload_n 1, 1) := by decide +kernel
theorem dX0_run_2 : decode cX0_run 2 = .ok (.invokevirtual 65, 3) := by decide +kernel
theorem dX0_run_5 : decode cX0_run 5 = .ok (.aload_n 1, 1) := by decide +kernel
theorem dX0_run_6 : decode cX0_run 6 = .ok (.getfield 53, 3) := by decide +kernel
theorem dX0_run_9 : decode cX0_run 9 = .ok (.iconst 0, 1) := by decide +kernel
theorem dX0_run_10 : decode cX0_run 10 = .ok (.aload_n 0, 1) := by decide +kernel
theorem dX0_run_11 : decode cX0_run 11 = .ok (.getfield 21, 3) := by decide +kernel
theorem dX0_run_14 : decode cX0_run 14 = .ok (.iconst 0, 1) := by decide +kernel
theorem dX0_run_15 : decode cX0_run 15 = .ok (.aaload, 1) := by decide +kernel
theorem dX0_run_16 : decode cX0_run 16 = .ok (.iconst 0, 1) := by decide +kernel
theorem dX0_run_17 : decode cX0_run 17 = .ok (.bipush 7, 2) := by decide +kernel
theorem dX0_run_19 : decode cX0_run 19 = .ok (.invokestatic 69, 3) := by decide +kernel
theorem dX0_run_22 : decode cX0_run 22 = .ok (.iconst 0, 1) := by decide +kernel
theorem dX0_run_23 : decode cX0_run 23 = .ok (.istore_n 2, 1) := by decide +kernel
theorem dX0_run_24 : decode cX0_run 24 = .ok (.iload_n 2, 1) := by decide +kernel
theorem dX0_run_25 : decode cX0_run 25 = .ok (.aload_n 0, 1) := by decide +kernel
theorem dX0_run_26 : decode cX0_run 26 = .ok (.getfield 38, 3) := by decide +kernel
theorem dX0_run_29 : decode cX0_run 29 = .ok (.if_icmp .ge 14, 3) := by decide +kernel
theorem dX0_run_32 : decode cX0_run 32 = .ok (.aload_n 0, 1) := by decide +kernel
theorem dX0_run_33 : decode cX0_run 33 = .ok (.iload_n 2, 1) := by decide +kernel
theorem dX0_run_34 : decode cX0_run 34 = .ok (.invokevirtual 75, 3) := by decide +kernel
theorem dX0_run_37 : decode cX0_run 37 = .ok (.iinc 2 1, 3) := by decide +kernel
theorem dX0_run_40 : decode cX0_run 40 = .ok (.goto (-16), 3) := by decide +kernel
theorem dX0_run_43 : decode cX0_run 43 = .ok (.return_, 1) := by decide +kernel
theorem dX0_runFrom_0 : decode cX0_runFrom 0 = .ok (.iconst 0, 1) := by decide +kernel
theorem dX0_runFrom_1 : decode cX0_runFrom 1 = .ok (.iload_n 1, 1) := by decide +kernel
theorem dX0_runFrom_2 : decode cX0_runFrom 2 = .ok (.invokestatic 78, 3) := by decide +kernel
theorem dX0_runFrom_5 : decode cX0_runFrom 5 = .ok (.istore_n 2, 1) := by decide +kernel
theorem dX0_runFrom_6 : decode cX0_runFrom 6 = .ok (.iload_n 2, 1) := by decide +kernel
theorem dX0_runFrom_7 : decode cX0_runFrom 7 = .ok (.aload_n 0, 1) := by decide +kernel
theorem dX0_runFrom_8 : decode cX0_runFrom 8 = .ok (.getfield 38, 3) := by decide +kernel
theorem dX0_runFrom_11 : decode cX0_runFrom 11 = .ok (.if_icmp .ge 14, 3) := by decide +kernel
theorem dX0_runFrom_14 : decode cX0_runFrom 14 = .ok (.aload_n 0, 1) := by decide +kernel
theorem dX0_runFrom_15 : decode cX0_runFrom 15 = .ok (.iload_n 2, 1) := by decide +kernel
theorem dX0_runFrom_16 : decode cX0_runFrom 16 = .ok (.invokevirtual 75, 3) := by decide +kernel
theorem dX0_runFrom_19 : decode cX0_runFrom 19 = .ok (.iinc 2 1, 3) := by decide +kernel
theorem dX0_runFrom_22 : decode cX0_runFrom 22 = .ok (.goto (-16), 3) := by decide +kernel
theorem dX0_runFrom_25 : decode cX0_runFrom 25 = .ok (.return_, 1) := by decide +kernel
theorem dX0_begin_0 : decode cX0_begin 0 = .ok (.aload_n 0, 1) := by decide +kernel
theorem dX0_begin_1 : decode cX0_begin 1 = .ok (.aload_n 1, 1) := by decide +kernel
theorem dX0_begin_2 : decode cX0_begin 2 = .ok (.putfield 34, 3) := by decide +kernel
theorem dX0_begin_5 : decode cX0_begin 5 = .ok (.aload_n 0, 1) := by decide +kernel
theorem dX0_begin_6 : decode cX0_begin 6 = .ok (.iconst 0, 1) := by decide +kernel
theorem dX0_begin_7 : decode cX0_begin 7 = .ok (.putfield 84, 3) := by decide +kernel
theorem dX0_begin_10 : decode cX0_begin 10 = .ok (.aload_n 0, 1) := by decide +kernel
theorem dX0_begin_11 : decode cX0_begin 11 = .ok (.iconst 0, 1) := by decide +kernel
theorem dX0_begin_12 : decode cX0_begin 12 = .ok (.putfield 87, 3) := by decide +kernel
theorem dX0_begin_15 : decode cX0_begin 15 = .ok (.aload_n 0, 1) := by decide +kernel
theorem dX0_begin_16 : decode cX0_begin 16 = .ok (.getfield 30, 3) := by decide +kernel
theorem dX0_begin_19 : decode cX0_begin 19 = .ok (.getfield 90, 3) := by decide +kernel
theorem dX0_begin_22 : decode cX0_begin 22 = .ok (.iconst 2, 1) := by decide +kernel
theorem dX0_begin_23 : decode cX0_begin 23 = .ok (.aload_n 1, 1) := by decide +kernel
theorem dX0_begin_24 : decode cX0_begin 24 = .ok (.getfield 95, 3) := by decide +kernel
theorem dX0_begin_27 : decode cX0_begin 27 = .ok (.iastore, 1) := by decide +kernel
theorem dX0_begin_28 : decode cX0_begin 28 = .ok (.return_, 1) := by decide +kernel
theorem dX0_ironOne_0 : decode cX0_ironOne 0 = .ok (.aload_n 0, 1) := by decide +kernel
theorem dX0_ironOne_1 : decode cX0_ironOne 1 = .ok (.getfield 9, 3) := by decide +kernel
theorem dX0_ironOne_4 : decode cX0_ironOne 4 = .ok (.iload_n 1, 1) := by decide +kernel
theorem dX0_ironOne_5 : decode cX0_ironOne 5 = .ok (.iaload, 1) := by decide +kernel
theorem dX0_ironOne_6 : decode cX0_ironOne 6 = .ok (.istore_n 2, 1) := by decide +kernel
theorem dX0_ironOne_7 : decode cX0_ironOne 7 = .ok (.aload_n 0, 1) := by decide +kernel
theorem dX0_ironOne_8 : decode cX0_ironOne 8 = .ok (.getfield 21, 3) := by decide +kernel
theorem dX0_ironOne_11 : decode cX0_ironOne 11 = .ok (.iload_n 1, 1) := by decide +kernel
theorem dX0_ironOne_12 : decode cX0_ironOne 12 = .ok (.iconst 1, 1) := by decide +kernel
theorem dX0_ironOne_13 : decode cX0_ironOne 13 = .ok (.iadd, 1) := by decide +kernel
theorem dX0_ironOne_14 : decode cX0_ironOne 14 = .ok (.aaload, 1) := by decide +kernel
theorem dX0_ironOne_15 : decode cX0_ironOne 15 = .ok (.astore_n 3, 1) := by decide +kernel
theorem dX0_ironOne_16 : decode cX0_ironOne 16 = .ok (.aload_n 0, 1) := by decide +kernel
theorem dX0_ironOne_17 : decode cX0_ironOne 17 = .ok (.getfield 21, 3) := by decide +kernel
theorem dX0_ironOne_20 : decode cX0_ironOne 20 = .ok (.iload_n 1, 1) := by decide +kernel
theorem dX0_ironOne_21 : decode cX0_ironOne 21 = .ok (.aaload, 1) := by decide +kernel
theorem dX0_ironOne_22 : decode cX0_ironOne 22 = .ok (.iconst 0, 1) := by decide +kernel
theorem dX0_ironOne_23 : decode cX0_ironOne 23 = .ok (.aload_n 3, 1) := by decide +kernel
theorem dX0_ironOne_24 : decode cX0_ironOne 24 = .ok (.iconst 0, 1) := by decide +kernel
theorem dX0_ironOne_25 : decode cX0_ironOne 25 = .ok (.bipush 7, 2) := by decide +kernel
theorem dX0_ironOne_27 : decode cX0_ironOne 27 = .ok (.invokestatic 69, 3) := by decide +kernel
theorem dX0_ironOne_30 : decode cX0_ironOne 30 = .ok (.aload_n 0, 1) := by decide +kernel
theorem dX0_ironOne_31 : decode cX0_ironOne 31 = .ok (.aload_n 0, 1) := by decide +kernel
theorem dX0_ironOne_32 : decode cX0_ironOne 32 = .ok (.getfield 24, 3) := by decide +kernel
theorem dX0_ironOne_35 : decode cX0_ironOne 35 = .ok (.iload_n 1, 1) := by decide +kernel
theorem dX0_ironOne_36 : decode cX0_ironOne 36 = .ok (.iaload, 1) := by decide +kernel
theorem dX0_ironOne_37 : decode cX0_ironOne 37 = .ok (.putfield 84, 3) := by decide +kernel
theorem dX0_ironOne_40 : decode cX0_ironOne 40 = .ok (.aload_n 0, 1) := by decide +kernel
theorem dX0_ironOne_41 : decode cX0_ironOne 41 = .ok (.aload_n 0, 1) := by decide +kernel
theorem dX0_ironOne_42 : decode cX0_ironOne 42 = .ok (.getfield 15, 3) := by decide +kernel
theorem dX0_ironOne_45 : decode cX0_ironOne 45 = .ok (.ifCond .lt 23, 3) := by decide +kernel
theorem dX0_ironOne_48 : decode cX0_ironOne 48 = .ok (.aload_n 0, 1) := by decide +kernel
theorem dX0_ironOne_49 : decode cX0_ironOne 49 = .ok (.getfield 15, 3) := by decide +kernel
theorem dX0_ironOne_52 : decode cX0_ironOne 52 = .ok (.iload_n 1, 1) := by decide +kernel
theorem dX0_ironOne_53 : decode cX0_ironOne 53 = .ok (.if_icmp .gt 15, 3) := by decide +kernel
theorem dX0_ironOne_56 : decode cX0_ironOne 56 = .ok (.aload_n 0, 1) := by decide +kernel
theorem dX0_ironOne_57 : decode cX0_ironOne 57 = .ok (.getfield 24, 3) := by decide +kernel
theorem dX0_ironOne_60 : decode cX0_ironOne 60 = .ok (.aload_n 0, 1) := by decide +kernel
theorem dX0_ironOne_61 : decode cX0_ironOne 61 = .ok (.getfield 15, 3) := by decide +kernel
theorem dX0_ironOne_64 : decode cX0_ironOne 64 = .ok (.iaload, 1) := by decide +kernel
theorem dX0_ironOne_65 : decode cX0_ironOne 65 = .ok (.goto 4, 3) := by decide +kernel
theorem dX0_ironOne_68 : decode cX0_ironOne 68 = .ok (.iconst 0, 1) := by decide +kernel
theorem dX0_ironOne_69 : decode cX0_ironOne 69 = .ok (.putfield 87, 3) := by decide +kernel
theorem dX0_ironOne_72 : decode cX0_ironOne 72 = .ok (.aload_n 0, 1) := by decide +kernel
theorem dX0_ironOne_73 : decode cX0_ironOne 73 = .ok (.iload_n 2, 1) := by decide +kernel
theorem dX0_ironOne_74 : decode cX0_ironOne 74 = .ok (.aload_n 3, 1) := by decide +kernel
theorem dX0_ironOne_75 : decode cX0_ironOne 75 = .ok (.iload_n 2, 1) := by decide +kernel
theorem dX0_ironOne_76 : decode cX0_ironOne 76 = .ok (.iaload, 1) := by decide +kernel
theorem dX0_ironOne_77 : decode cX0_ironOne 77 = .ok (.invokevirtual 98, 3) := by decide +kernel
theorem dX0_ironOne_80 : decode cX0_ironOne 80 = .ok (.istore 4, 2) := by decide +kernel
theorem dX0_ironOne_82 : decode cX0_ironOne 82 = .ok (.aload_n 3, 1) := by decide +kernel
theorem dX0_ironOne_83 : decode cX0_ironOne 83 = .ok (.iload_n 2, 1) := by decide +kernel
theorem dX0_ironOne_84 : decode cX0_ironOne 84 = .ok (.aload_n 0, 1) := by decide +kernel
theorem dX0_ironOne_85 : decode cX0_ironOne 85 = .ok (.iload_n 2, 1) := by decide +kernel
theorem dX0_ironOne_86 : decode cX0_ironOne 86 = .ok (.aload_n 3, 1) := by decide +kernel
theorem dX0_ironOne_87 : decode cX0_ironOne 87 = .ok (.iload_n 2, 1) := by decide +kernel
theorem dX0_ironOne_88 : decode cX0_ironOne 88 = .ok (.iaload, 1) := by decide +kernel
theorem dX0_ironOne_89 : decode cX0_ironOne 89 = .ok (.invokevirtual 101, 3) := by decide +kernel
theorem dX0_ironOne_92 : decode cX0_ironOne 92 = .ok (.iastore, 1) := by decide +kernel
theorem dX0_ironOne_93 : decode cX0_ironOne 93 = .ok (.aload_n 0, 1) := by decide +kernel
theorem dX0_ironOne_94 : decode cX0_ironOne 94 = .ok (.dup, 1) := by decide +kernel
theorem dX0_ironOne_95 : decode cX0_ironOne 95 = .ok (.getfield 84, 3) := by decide +kernel
theorem dX0_ironOne_98 : decode cX0_ironOne 98 = .ok (.iload 4, 2) := by decide +kernel
theorem dX0_ironOne_100 : decode cX0_ironOne 100 = .ok (.iadd, 1) := by decide +kernel
theorem dX0_ironOne_101 : decode cX0_ironOne 101 = .ok (.putfield 84, 3) := by decide +kernel
theorem dX0_ironOne_104 : decode cX0_ironOne 104 = .ok (.aload_n 0, 1) := by decide +kernel
theorem dX0_ironOne_105 : decode cX0_ironOne 105 = .ok (.getfield 24, 3) := by decide +kernel
theorem dX0_ironOne_108 : decode cX0_ironOne 108 = .ok (.iload_n 1, 1) := by decide +kernel
theorem dX0_ironOne_109 : decode cX0_ironOne 109 = .ok (.iconst 1, 1) := by decide +kernel
theorem dX0_ironOne_110 : decode cX0_ironOne 110 = .ok (.iadd, 1) := by decide +kernel
theorem dX0_ironOne_111 : decode cX0_ironOne 111 = .ok (.aload_n 0, 1) := by decide +kernel
theorem dX0_ironOne_112 : decode cX0_ironOne 112 = .ok (.getfield 84, 3) := by decide +kernel
theorem dX0_ironOne_115 : decode cX0_ironOne 115 = .ok (.iastore, 1) := by decide +kernel
theorem dX0_ironOne_116 : decode cX0_ironOne 116 = .ok (.aload_n 0, 1) := by decide +kernel
theorem dX0_ironOne_117 : decode cX0_ironOne 117 = .ok (.getfield 34, 3) := by decide +kernel
theorem dX0_ironOne_120 : decode cX0_ironOne 120 = .ok (.getfield 104, 3) := by decide +kernel
theorem dX0_ironOne_123 : decode cX0_ironOne 123 = .ok (.iload_n 2, 1) := by decide +kernel
theorem dX0_ironOne_124 : decode cX0_ironOne 124 = .ok (.iaload, 1) := by decide +kernel
theorem dX0_ironOne_125 : decode cX0_ironOne 125 = .ok (.iconst 1, 1) := by decide +kernel
theorem dX0_ironOne_126 : decode cX0_ironOne 126 = .ok (.iload_n 2, 1) := by decide +kernel
theorem dX0_ironOne_127 : decode cX0_ironOne 127 = .ok (.ishl, 1) := by decide +kernel
theorem dX0_ironOne_128 : decode cX0_ironOne 128 = .ok (.iconst (-1), 1) := by decide +kernel
theorem dX0_ironOne_129 : decode cX0_ironOne 129 = .ok (.ixor, 1) := by decide +kernel
theorem dX0_ironOne_130 : decode cX0_ironOne 130 = .ok (.iand, 1) := by decide +kernel
theorem dX0_ironOne_131 : decode cX0_ironOne 131 = .ok (.istore 5, 2) := by decide +kernel
theorem dX0_ironOne_133 : decode cX0_ironOne 133 = .ok (.iconst 0, 1) := by decide +kernel
theorem dX0_ironOne_134 : decode cX0_ironOne 134 = .ok (.istore 6, 2) := by decide +kernel
theorem dX0_ironOne_136 : decode cX0_ironOne 136 = .ok (.iload 6, 2) := by decide +kernel
theorem dX0_ironOne_138 : decode cX0_ironOne 138 = .ok (.aload_n 0, 1) := by decide +kernel
theorem dX0_ironOne_139 : decode cX0_ironOne 139 = .ok (.getfield 34, 3) := by decide +kernel
theorem dX0_ironOne_142 : decode cX0_ironOne 142 = .ok (.getfield 44, 3) := by decide +kernel
theorem dX0_ironOne_145 : decode cX0_ironOne 145 = .ok (.if_icmp .ge 43, 3) := by decide +kernel
theorem dX0_ironOne_148 : decode cX0_ironOne 148 = .ok (.iload 5, 2) := by decide +kernel
theorem dX0_ironOne_150 : decode cX0_ironOne 150 = .ok (.iload 6, 2) := by decide +kernel
theorem dX0_ironOne_152 : decode cX0_ironOne 152 = .ok (.ishr, 1) := by decide +kernel
theorem dX0_ironOne_153 : decode cX0_ironOne 153 = .ok (.iconst 1, 1) := by decide +kernel
theorem dX0_ironOne_154 : decode cX0_ironOne 154 = .ok (.iand, 1) := by decide +kernel
theorem dX0_ironOne_155 : decode cX0_ironOne 155 = .ok (.ifCond .eq 27, 3) := by decide +kernel
theorem dX0_ironOne_158 : decode cX0_ironOne 158 = .ok (.aload_n 3, 1) := by decide +kernel
theorem dX0_ironOne_159 : decode cX0_ironOne 159 = .ok (.iload 6, 2) := by decide +kernel
theorem dX0_ironOne_161 : decode cX0_ironOne 161 = .ok (.bipush 99, 2) := by decide +kernel
theorem dX0_ironOne_163 : decode cX0_ironOne 163 = .ok (.aload_n 3, 1) := by decide +kernel
theorem dX0_ironOne_164 : decode cX0_ironOne 164 = .ok (.iload 6, 2) := by decide +kernel
theorem dX0_ironOne_166 : decode cX0_ironOne 166 = .ok (.iaload, 1) := by decide +kernel
theorem dX0_ironOne_167 : decode cX0_ironOne 167 = .ok (.aload_n 0, 1) := by decide +kernel
theorem dX0_ironOne_168 : decode cX0_ironOne 168 = .ok (.iload 6, 2) := by decide +kernel
theorem dX0_ironOne_170 : decode cX0_ironOne 170 = .ok (.aload_n 3, 1) := by decide +kernel
theorem dX0_ironOne_171 : decode cX0_ironOne 171 = .ok (.iload 6, 2) := by decide +kernel
theorem dX0_ironOne_173 : decode cX0_ironOne 173 = .ok (.iaload, 1) := by decide +kernel
theorem dX0_ironOne_174 : decode cX0_ironOne 174 = .ok (.invokevirtual 107, 3) := by decide +kernel
theorem dX0_ironOne_177 : decode cX0_ironOne 177 = .ok (.iadd, 1) := by decide +kernel
theorem dX0_ironOne_178 : decode cX0_ironOne 178 = .ok (.invokestatic 110, 3) := by decide +kernel
theorem dX0_ironOne_181 : decode cX0_ironOne 181 = .ok (.iastore, 1) := by decide +kernel
theorem dX0_ironOne_182 : decode cX0_ironOne 182 = .ok (.iinc 6 1, 3) := by decide +kernel
theorem dX0_ironOne_185 : decode cX0_ironOne 185 = .ok (.goto (-49), 3) := by decide +kernel
theorem dX0_ironOne_188 : decode cX0_ironOne 188 = .ok (.return_, 1) := by decide +kernel
theorem dX0_keeps_0 : decode cX0_keeps 0 = .ok (.aload_n 0, 1) := by decide +kernel
theorem dX0_keeps_1 : decode cX0_keeps 1 = .ok (.iload_n 1, 1) := by decide +kernel
theorem dX0_keeps_2 : decode cX0_keeps 2 = .ok (.iload_n 2, 1) := by decide +kernel
theorem dX0_keeps_3 : decode cX0_keeps 3 = .ok (.invokevirtual 113, 3) := by decide +kernel
theorem dX0_keeps_6 : decode cX0_keeps 6 = .ok (.aload_n 0, 1) := by decide +kernel
theorem dX0_keeps_7 : decode cX0_keeps 7 = .ok (.getfield 30, 3) := by decide +kernel
theorem dX0_keeps_10 : decode cX0_keeps 10 = .ok (.aload_n 0, 1) := by decide +kernel
theorem dX0_keeps_11 : decode cX0_keeps 11 = .ok (.getfield 34, 3) := by decide +kernel
theorem dX0_keeps_14 : decode cX0_keeps 14 = .ok (.getfield 117, 3) := by decide +kernel
theorem dX0_keeps_17 : decode cX0_keeps 17 = .ok (.iconst 0, 1) := by decide +kernel
theorem dX0_keeps_18 : decode cX0_keeps 18 = .ok (.invokevirtual 120, 3) := by decide +kernel
theorem dX0_keeps_21 : decode cX0_keeps 21 = .ok (.istore_n 3, 1) := by decide +kernel
theorem dX0_keeps_22 : decode cX0_keeps 22 = .ok (.aload_n 0, 1) := by decide +kernel
theorem dX0_keeps_23 : decode cX0_keeps 23 = .ok (.getfield 34, 3) := by decide +kernel
theorem dX0_keeps_26 : decode cX0_keeps 26 = .ok (.getfield 56, 3) := by decide +kernel
theorem dX0_keeps_29 : decode cX0_keeps 29 = .ok (.iload_n 1, 1) := by decide +kernel
theorem dX0_keeps_30 : decode cX0_keeps 30 = .ok (.iaload, 1) := by decide +kernel
theorem dX0_keeps_31 : decode cX0_keeps 31 = .ok (.iload_n 3, 1) := by decide +kernel
theorem dX0_keeps_32 : decode cX0_keeps 32 = .ok (.iload_n 2, 1) := by decide +kernel
theorem dX0_keeps_33 : decode cX0_keeps 33 = .ok (.aload_n 0, 1) := by decide +kernel
theorem dX0_keeps_34 : decode cX0_keeps 34 = .ok (.getfield 34, 3) := by decide +kernel
theorem dX0_keeps_37 : decode cX0_keeps 37 = .ok (.getfield 123, 3) := by decide +kernel
theorem dX0_keeps_40 : decode cX0_keeps 40 = .ok (.iload_n 1, 1) := by decide +kernel
theorem dX0_keeps_41 : decode cX0_keeps 41 = .ok (.iaload, 1) := by decide +kernel
theorem dX0_keeps_42 : decode cX0_keeps 42 = .ok (.invokestatic 126, 3) := by decide +kernel
theorem dX0_keeps_45 : decode cX0_keeps 45 = .ok (.ireturn, 1) := by decide +kernel
theorem dX0_takes_0 : decode cX0_takes 0 = .ok (.aload_n 0, 1) := by decide +kernel
theorem dX0_takes_1 : decode cX0_takes 1 = .ok (.iload_n 1, 1) := by decide +kernel
theorem dX0_takes_2 : decode cX0_takes 2 = .ok (.iload_n 2, 1) := by decide +kernel
theorem dX0_takes_3 : decode cX0_takes 3 = .ok (.invokevirtual 113, 3) := by decide +kernel
theorem dX0_takes_6 : decode cX0_takes 6 = .ok (.aload_n 0, 1) := by decide +kernel
theorem dX0_takes_7 : decode cX0_takes 7 = .ok (.getfield 30, 3) := by decide +kernel
theorem dX0_takes_10 : decode cX0_takes 10 = .ok (.aload_n 0, 1) := by decide +kernel
theorem dX0_takes_11 : decode cX0_takes 11 = .ok (.getfield 34, 3) := by decide +kernel
theorem dX0_takes_14 : decode cX0_takes 14 = .ok (.getfield 117, 3) := by decide +kernel
theorem dX0_takes_17 : decode cX0_takes 17 = .ok (.iconst 1, 1) := by decide +kernel
theorem dX0_takes_18 : decode cX0_takes 18 = .ok (.invokevirtual 120, 3) := by decide +kernel
theorem dX0_takes_21 : decode cX0_takes 21 = .ok (.istore_n 3, 1) := by decide +kernel
theorem dX0_takes_22 : decode cX0_takes 22 = .ok (.aload_n 0, 1) := by decide +kernel
theorem dX0_takes_23 : decode cX0_takes 23 = .ok (.getfield 34, 3) := by decide +kernel
theorem dX0_takes_26 : decode cX0_takes 26 = .ok (.getfield 56, 3) := by decide +kernel
theorem dX0_takes_29 : decode cX0_takes 29 = .ok (.iload_n 1, 1) := by decide +kernel
theorem dX0_takes_30 : decode cX0_takes 30 = .ok (.iaload, 1) := by decide +kernel
theorem dX0_takes_31 : decode cX0_takes 31 = .ok (.iload_n 3, 1) := by decide +kernel
theorem dX0_takes_32 : decode cX0_takes 32 = .ok (.aload_n 0, 1) := by decide +kernel
theorem dX0_takes_33 : decode cX0_takes 33 = .ok (.getfield 34, 3) := by decide +kernel
theorem dX0_takes_36 : decode cX0_takes 36 = .ok (.getfield 123, 3) := by decide +kernel
theorem dX0_takes_39 : decode cX0_takes 39 = .ok (.iload_n 1, 1) := by decide +kernel
theorem dX0_takes_40 : decode cX0_takes 40 = .ok (.iaload, 1) := by decide +kernel
theorem dX0_takes_41 : decode cX0_takes 41 = .ok (.invokestatic 129, 3) := by decide +kernel
theorem dX0_takes_44 : decode cX0_takes 44 = .ok (.ireturn, 1) := by decide +kernel
theorem dX0_crumples_0 : decode cX0_crumples 0 = .ok (.aload_n 0, 1) := by decide +kernel
theorem dX0_crumples_1 : decode cX0_crumples 1 = .ok (.iload_n 1, 1) := by decide +kernel
theorem dX0_crumples_2 : decode cX0_crumples 2 = .ok (.iload_n 2, 1) := by decide +kernel
theorem dX0_crumples_3 : decode cX0_crumples 3 = .ok (.invokevirtual 113, 3) := by decide +kernel
theorem dX0_crumples_6 : decode cX0_crumples 6 = .ok (.aload_n 0, 1) := by decide +kernel
theorem dX0_crumples_7 : decode cX0_crumples 7 = .ok (.getfield 30, 3) := by decide +kernel
theorem dX0_crumples_10 : decode cX0_crumples 10 = .ok (.aload_n 0, 1) := by decide +kernel
theorem dX0_crumples_11 : decode cX0_crumples 11 = .ok (.getfield 34, 3) := by decide +kernel
theorem dX0_crumples_14 : decode cX0_crumples 14 = .ok (.getfield 117, 3) := by decide +kernel
theorem dX0_crumples_17 : decode cX0_crumples 17 = .ok (.iconst 2, 1) := by decide +kernel
theorem dX0_crumples_18 : decode cX0_crumples 18 = .ok (.invokevirtual 120, 3) := by decide +kernel
theorem dX0_crumples_21 : decode cX0_crumples 21 = .ok (.istore_n 3, 1) := by decide +kernel
theorem dX0_crumples_22 : decode cX0_crumples 22 = .ok (.aload_n 0, 1) := by decide +kernel
theorem dX0_crumples_23 : decode cX0_crumples 23 = .ok (.getfield 34, 3) := by decide +kernel
theorem dX0_crumples_26 : decode cX0_crumples 26 = .ok (.getfield 56, 3) := by decide +kernel
theorem dX0_crumples_29 : decode cX0_crumples 29 = .ok (.iload_n 1, 1) := by decide +kernel
theorem dX0_crumples_30 : decode cX0_crumples 30 = .ok (.iaload, 1) := by decide +kernel
theorem dX0_crumples_31 : decode cX0_crumples 31 = .ok (.iload_n 3, 1) := by decide +kernel
theorem dX0_crumples_32 : decode cX0_crumples 32 = .ok (.invokestatic 132, 3) := by decide +kernel
theorem dX0_crumples_35 : decode cX0_crumples 35 = .ok (.ireturn, 1) := by decide +kernel
theorem dX0_nameAll_0 : decode cX0_nameAll 0 = .ok (.aload_n 0, 1) := by decide +kernel
theorem dX0_nameAll_1 : decode cX0_nameAll 1 = .ok (.getfield 30, 3) := by decide +kernel
theorem dX0_nameAll_4 : decode cX0_nameAll 4 = .ok (.getfield 90, 3) := by decide +kernel
theorem dX0_nameAll_7 : decode cX0_nameAll 7 = .ok (.astore_n 3, 1) := by decide +kernel
theorem dX0_nameAll_8 : decode cX0_nameAll 8 = .ok (.aload_n 3, 1) := by decide +kernel
theorem dX0_nameAll_9 : decode cX0_nameAll 9 = .ok (.iconst 0, 1) := by decide +kernel
theorem dX0_nameAll_10 : decode cX0_nameAll 10 = .ok (.aload_n 0, 1) := by decide +kernel
theorem dX0_nameAll_11 : decode cX0_nameAll 11 = .ok (.getfield 84, 3) := by decide +kernel
theorem dX0_nameAll_14 : decode cX0_nameAll 14 = .ok (.iastore, 1) := by decide +kernel
theorem dX0_nameAll_15 : decode cX0_nameAll 15 = .ok (.aload_n 3, 1) := by decide +kernel
theorem dX0_nameAll_16 : decode cX0_nameAll 16 = .ok (.iconst 1, 1) := by decide +kernel
theorem dX0_nameAll_17 : decode cX0_nameAll 17 = .ok (.iconst 0, 1) := by decide +kernel
theorem dX0_nameAll_18 : decode cX0_nameAll 18 = .ok (.aload_n 0, 1) := by decide +kernel
theorem dX0_nameAll_19 : decode cX0_nameAll 19 = .ok (.getfield 34, 3) := by decide +kernel
theorem dX0_nameAll_22 : decode cX0_nameAll 22 = .ok (.getfield 133, 3) := by decide +kernel
theorem dX0_nameAll_25 : decode cX0_nameAll 25 = .ok (.aload_n 0, 1) := by decide +kernel
theorem dX0_nameAll_26 : decode cX0_nameAll 26 = .ok (.getfield 84, 3) := by decide +kernel
theorem dX0_nameAll_29 : decode cX0_nameAll 29 = .ok (.aload_n 0, 1) := by decide +kernel
theorem dX0_nameAll_30 : decode cX0_nameAll 30 = .ok (.getfield 87, 3) := by decide +kernel
theorem dX0_nameAll_33 : decode cX0_nameAll 33 = .ok (.isub, 1) := by decide +kernel
theorem dX0_nameAll_34 : decode cX0_nameAll 34 = .ok (.isub, 1) := by decide +kernel
theorem dX0_nameAll_35 : decode cX0_nameAll 35 = .ok (.invokestatic 78, 3) := by decide +kernel
theorem dX0_nameAll_38 : decode cX0_nameAll 38 = .ok (.iastore, 1) := by decide +kernel
theorem dX0_nameAll_39 : decode cX0_nameAll 39 = .ok (.aload_n 3, 1) := by decide +kernel
theorem dX0_nameAll_40 : decode cX0_nameAll 40 = .ok (.iconst 3, 1) := by decide +kernel
theorem dX0_nameAll_41 : decode cX0_nameAll 41 = .ok (.aload_n 0, 1) := by decide +kernel
theorem dX0_nameAll_42 : decode cX0_nameAll 42 = .ok (.getfield 34, 3) := by decide +kernel
theorem dX0_nameAll_45 : decode cX0_nameAll 45 = .ok (.getfield 123, 3) := by decide +kernel
theorem dX0_nameAll_48 : decode cX0_nameAll 48 = .ok (.iload_n 1, 1) := by decide +kernel
theorem dX0_nameAll_49 : decode cX0_nameAll 49 = .ok (.iaload, 1) := by decide +kernel
theorem dX0_nameAll_50 : decode cX0_nameAll 50 = .ok (.iastore, 1) := by decide +kernel
theorem dX0_nameAll_51 : decode cX0_nameAll 51 = .ok (.aload_n 3, 1) := by decide +kernel
theorem dX0_nameAll_52 : decode cX0_nameAll 52 = .ok (.iconst 4, 1) := by decide +kernel
theorem dX0_nameAll_53 : decode cX0_nameAll 53 = .ok (.iload_n 2, 1) := by decide +kernel
theorem dX0_nameAll_54 : decode cX0_nameAll 54 = .ok (.iastore, 1) := by decide +kernel
theorem dX0_nameAll_55 : decode cX0_nameAll 55 = .ok (.aload_n 3, 1) := by decide +kernel
theorem dX0_nameAll_56 : decode cX0_nameAll 56 = .ok (.iconst 5, 1) := by decide +kernel
theorem dX0_nameAll_57 : decode cX0_nameAll 57 = .ok (.iload_n 1, 1) := by decide +kernel
theorem dX0_nameAll_58 : decode cX0_nameAll 58 = .ok (.iastore, 1) := by decide +kernel
theorem dX0_nameAll_59 : decode cX0_nameAll 59 = .ok (.return_, 1) := by decide +kernel
theorem dX0_last_0 : decode cX0_last 0 = .ok (.aload_n 0, 1) := by decide +kernel
theorem dX0_last_1 : decode cX0_last 1 = .ok (.getfield 21, 3) := by decide +kernel
theorem dX0_last_4 : decode cX0_last 4 = .ok (.aload_n 0, 1) := by decide +kernel
theorem dX0_last_5 : decode cX0_last 5 = .ok (.getfield 38, 3) := by decide +kernel
theorem dX0_last_8 : decode cX0_last 8 = .ok (.aaload, 1) := by decide +kernel
theorem dX0_last_9 : decode cX0_last 9 = .ok (.areturn, 1) := by decide +kernel
theorem dX0_creased_0 : decode cX0_creased 0 = .ok (.aload_n 1, 1) := by decide +kernel
theorem dX0_creased_1 : decode cX0_creased 1 = .ok (.aload_n 0, 1) := by decide +kernel
theorem dX0_creased_2 : decode cX0_creased 2 = .ok (.getfield 21, 3) := by decide +kernel
theorem dX0_creased_5 : decode cX0_creased 5 = .ok (.aload_n 0, 1) := by decide +kernel
theorem dX0_creased_6 : decode cX0_creased 6 = .ok (.getfield 38, 3) := by decide +kernel
theorem dX0_creased_9 : decode cX0_creased 9 = .ok (.aaload, 1) := by decide +kernel
theorem dX0_creased_10 : decode cX0_creased 10 = .ok (.invokevirtual 136, 3) := by decide +kernel
theorem dX0_creased_13 : decode cX0_creased 13 = .ok (.ireturn, 1) := by decide +kernel
theorem dX0_digits_0 : decode cX0_digits 0 = .ok (.iconst 0, 1) := by decide +kernel
theorem dX0_digits_1 : decode cX0_digits 1 = .ok (.istore_n 1, 1) := by decide +kernel
theorem dX0_digits_2 : decode cX0_digits 2 = .ok (.iconst 0, 1) := by decide +kernel
theorem dX0_digits_3 : decode cX0_digits 3 = .ok (.istore_n 2, 1) := by decide +kernel
theorem dX0_digits_4 : decode cX0_digits 4 = .ok (.iload_n 2, 1) := by decide +kernel
theorem dX0_digits_5 : decode cX0_digits 5 = .ok (.aload_n 0, 1) := by decide +kernel
theorem dX0_digits_6 : decode cX0_digits 6 = .ok (.getfield 38, 3) := by decide +kernel
theorem dX0_digits_9 : decode cX0_digits 9 = .ok (.if_icmp .ge 23, 3) := by decide +kernel
theorem dX0_digits_12 : decode cX0_digits 12 = .ok (.iload_n 1, 1) := by decide +kernel
theorem dX0_digits_13 : decode cX0_digits 13 = .ok (.bipush 10, 2) := by decide +kernel
theorem dX0_digits_15 : decode cX0_digits 15 = .ok (.imul, 1) := by decide +kernel
theorem dX0_digits_16 : decode cX0_digits 16 = .ok (.aload_n 0, 1) := by decide +kernel
theorem dX0_digits_17 : decode cX0_digits 17 = .ok (.getfield 9, 3) := by decide +kernel
theorem dX0_digits_20 : decode cX0_digits 20 = .ok (.iload_n 2, 1) := by decide +kernel
theorem dX0_digits_21 : decode cX0_digits 21 = .ok (.iaload, 1) := by decide +kernel
theorem dX0_digits_22 : decode cX0_digits 22 = .ok (.iadd, 1) := by decide +kernel
theorem dX0_digits_23 : decode cX0_digits 23 = .ok (.iconst 1, 1) := by decide +kernel
theorem dX0_digits_24 : decode cX0_digits 24 = .ok (.iadd, 1) := by decide +kernel
theorem dX0_digits_25 : decode cX0_digits 25 = .ok (.istore_n 1, 1) := by decide +kernel
theorem dX0_digits_26 : decode cX0_digits 26 = .ok (.iinc 2 1, 3) := by decide +kernel
theorem dX0_digits_29 : decode cX0_digits 29 = .ok (.goto (-25), 3) := by decide +kernel
theorem dX0_digits_32 : decode cX0_digits 32 = .ok (.iload_n 1, 1) := by decide +kernel
theorem dX0_digits_33 : decode cX0_digits 33 = .ok (.ireturn, 1) := by decide +kernel
theorem dX0_answer_0 : decode cX0_answer 0 = .ok (.iload_n 2, 1) := by decide +kernel
theorem dX0_answer_1 : decode cX0_answer 1 = .ok (.bipush 10, 2) := by decide +kernel
theorem dX0_answer_3 : decode cX0_answer 3 = .ok (.if_icmp .ge 25, 3) := by decide +kernel
theorem dX0_answer_6 : decode cX0_answer 6 = .ok (.iload_n 2, 1) := by decide +kernel
theorem dX0_answer_7 : decode cX0_answer 7 = .ok (.ifCond .ne 11, 3) := by decide +kernel
theorem dX0_answer_10 : decode cX0_answer 10 = .ok (.aload_n 0, 1) := by decide +kernel
theorem dX0_answer_11 : decode cX0_answer 11 = .ok (.aload_n 1, 1) := by decide +kernel
theorem dX0_answer_12 : decode cX0_answer 12 = .ok (.invokevirtual 140, 3) := by decide +kernel
theorem dX0_answer_15 : decode cX0_answer 15 = .ok (.goto 12, 3) := by decide +kernel
theorem dX0_answer_18 : decode cX0_answer 18 = .ok (.aload_n 0, 1) := by decide +kernel
theorem dX0_answer_19 : decode cX0_answer 19 = .ok (.getfield 24, 3) := by decide +kernel
theorem dX0_answer_22 : decode cX0_answer 22 = .ok (.aload_n 0, 1) := by decide +kernel
theorem dX0_answer_23 : decode cX0_answer 23 = .ok (.getfield 38, 3) := by decide +kernel
theorem dX0_answer_26 : decode cX0_answer 26 = .ok (.iaload, 1) := by decide +kernel
theorem dX0_answer_27 : decode cX0_answer 27 = .ok (.ireturn, 1) := by decide +kernel
theorem dX0_answer_28 : decode cX0_answer 28 = .ok (.iload_n 2, 1) := by decide +kernel
theorem dX0_answer_29 : decode cX0_answer 29 = .ok (.bipush 20, 2) := by decide +kernel
theorem dX0_answer_31 : decode cX0_answer 31 = .ok (.if_icmp .ge 20, 3) := by decide +kernel
theorem dX0_answer_34 : decode cX0_answer 34 = .ok (.aload_n 0, 1) := by decide +kernel
theorem dX0_answer_35 : decode cX0_answer 35 = .ok (.getfield 21, 3) := by decide +kernel
theorem dX0_answer_38 : decode cX0_answer 38 = .ok (.aload_n 0, 1) := by decide +kernel
theorem dX0_answer_39 : decode cX0_answer 39 = .ok (.getfield 38, 3) := by decide +kernel
theorem dX0_answer_42 : decode cX0_answer 42 = .ok (.aaload, 1) := by decide +kernel
theorem dX0_answer_43 : decode cX0_answer 43 = .ok (.iload_n 2, 1) := by decide +kernel
theorem dX0_answer_44 : decode cX0_answer 44 = .ok (.bipush 10, 2) := by decide +kernel
theorem dX0_answer_46 : decode cX0_answer 46 = .ok (.irem, 1) := by decide +kernel
theorem dX0_answer_47 : decode cX0_answer 47 = .ok (.iaload, 1) := by decide +kernel
theorem dX0_answer_48 : decode cX0_answer 48 = .ok (.goto 11, 3) := by decide +kernel
theorem dX0_answer_51 : decode cX0_answer 51 = .ok (.aload_n 0, 1) := by decide +kernel
theorem dX0_answer_52 : decode cX0_answer 52 = .ok (.iload_n 2, 1) := by decide +kernel
theorem dX0_answer_53 : decode cX0_answer 53 = .ok (.bipush 10, 2) := by decide +kernel
theorem dX0_answer_55 : decode cX0_answer 55 = .ok (.irem, 1) := by decide +kernel
theorem dX0_answer_56 : decode cX0_answer 56 = .ok (.invokevirtual 144, 3) := by decide +kernel
theorem dX0_answer_59 : decode cX0_answer 59 = .ok (.ireturn, 1) := by decide +kernel
theorem dX0_doneAt_0 : decode cX0_doneAt 0 = .ok (.iconst 0, 1) := by decide +kernel
theorem dX0_doneAt_1 : decode cX0_doneAt 1 = .ok (.istore_n 2, 1) := by decide +kernel
theorem dX0_doneAt_2 : decode cX0_doneAt 2 = .ok (.iload_n 2, 1) := by decide +kernel
theorem dX0_doneAt_3 : decode cX0_doneAt 3 = .ok (.aload_n 0, 1) := by decide +kernel
theorem dX0_doneAt_4 : decode cX0_doneAt 4 = .ok (.getfield 38, 3) := by decide +kernel
theorem dX0_doneAt_7 : decode cX0_doneAt 7 = .ok (.if_icmp .ge 28, 3) := by decide +kernel
theorem dX0_doneAt_10 : decode cX0_doneAt 10 = .ok (.aload_n 0, 1) := by decide +kernel
theorem dX0_doneAt_11 : decode cX0_doneAt 11 = .ok (.getfield 9, 3) := by decide +kernel
theorem dX0_doneAt_14 : decode cX0_doneAt 14 = .ok (.iload_n 2, 1) := by decide +kernel
theorem dX0_doneAt_15 : decode cX0_doneAt 15 = .ok (.iaload, 1) := by decide +kernel
theorem dX0_doneAt_16 : decode cX0_doneAt 16 = .ok (.iload_n 1, 1) := by decide +kernel
theorem dX0_doneAt_17 : decode cX0_doneAt 17 = .ok (.if_icmp .ne 12, 3) := by decide +kernel
theorem dX0_doneAt_20 : decode cX0_doneAt 20 = .ok (.aload_n 0, 1) := by decide +kernel
theorem dX0_doneAt_21 : decode cX0_doneAt 21 = .ok (.getfield 24, 3) := by decide +kernel
theorem dX0_doneAt_24 : decode cX0_doneAt 24 = .ok (.iload_n 2, 1) := by decide +kernel
theorem dX0_doneAt_25 : decode cX0_doneAt 25 = .ok (.iconst 1, 1) := by decide +kernel
theorem dX0_doneAt_26 : decode cX0_doneAt 26 = .ok (.iadd, 1) := by decide +kernel
theorem dX0_doneAt_27 : decode cX0_doneAt 27 = .ok (.iaload, 1) := by decide +kernel
theorem dX0_doneAt_28 : decode cX0_doneAt 28 = .ok (.ireturn, 1) := by decide +kernel
theorem dX0_doneAt_29 : decode cX0_doneAt 29 = .ok (.iinc 2 1, 3) := by decide +kernel
theorem dX0_doneAt_32 : decode cX0_doneAt 32 = .ok (.goto (-30), 3) := by decide +kernel
theorem dX0_doneAt_35 : decode cX0_doneAt 35 = .ok (.iconst (-1), 1) := by decide +kernel
theorem dX0_doneAt_36 : decode cX0_doneAt 36 = .ok (.ireturn, 1) := by decide +kernel
theorem dX0_exchange_0 : decode cX0_exchange 0 = .ok (.aload_n 0, 1) := by decide +kernel
theorem dX0_exchange_1 : decode cX0_exchange 1 = .ok (.getfield 9, 3) := by decide +kernel
theorem dX0_exchange_4 : decode cX0_exchange 4 = .ok (.iload_n 1, 1) := by decide +kernel
theorem dX0_exchange_5 : decode cX0_exchange 5 = .ok (.iaload, 1) := by decide +kernel
theorem dX0_exchange_6 : decode cX0_exchange 6 = .ok (.istore_n 3, 1) := by decide +kernel
theorem dX0_exchange_7 : decode cX0_exchange 7 = .ok (.aload_n 0, 1) := by decide +kernel
theorem dX0_exchange_8 : decode cX0_exchange 8 = .ok (.getfield 9, 3) := by decide +kernel
theorem dX0_exchange_11 : decode cX0_exchange 11 = .ok (.iload_n 1, 1) := by decide +kernel
theorem dX0_exchange_12 : decode cX0_exchange 12 = .ok (.aload_n 0, 1) := by decide +kernel
theorem dX0_exchange_13 : decode cX0_exchange 13 = .ok (.getfield 9, 3) := by decide +kernel
theorem dX0_exchange_16 : decode cX0_exchange 16 = .ok (.iload_n 2, 1) := by decide +kernel
theorem dX0_exchange_17 : decode cX0_exchange 17 = .ok (.iaload, 1) := by decide +kernel
theorem dX0_exchange_18 : decode cX0_exchange 18 = .ok (.iastore, 1) := by decide +kernel
theorem dX0_exchange_19 : decode cX0_exchange 19 = .ok (.aload_n 0, 1) := by decide +kernel
theorem dX0_exchange_20 : decode cX0_exchange 20 = .ok (.getfield 9, 3) := by decide +kernel
theorem dX0_exchange_23 : decode cX0_exchange 23 = .ok (.iload_n 2, 1) := by decide +kernel
theorem dX0_exchange_24 : decode cX0_exchange 24 = .ok (.iload_n 3, 1) := by decide +kernel
theorem dX0_exchange_25 : decode cX0_exchange 25 = .ok (.iastore, 1) := by decide +kernel
theorem dX0_exchange_26 : decode cX0_exchange 26 = .ok (.return_, 1) := by decide +kernel
theorem dX0_next_0 : decode cX0_next 0 = .ok (.aload_n 0, 1) := by decide +kernel
theorem dX0_next_1 : decode cX0_next 1 = .ok (.getfield 38, 3) := by decide +kernel
theorem dX0_next_4 : decode cX0_next 4 = .ok (.iconst 2, 1) := by decide +kernel
theorem dX0_next_5 : decode cX0_next 5 = .ok (.isub, 1) := by decide +kernel
theorem dX0_next_6 : decode cX0_next 6 = .ok (.istore_n 1, 1) := by decide +kernel
theorem dX0_next_7 : decode cX0_next 7 = .ok (.iload_n 1, 1) := by decide +kernel
theorem dX0_next_8 : decode cX0_next 8 = .ok (.ifCond .lt 26, 3) := by decide +kernel
theorem dX0_next_11 : decode cX0_next 11 = .ok (.aload_n 0, 1) := by decide +kernel
theorem dX0_next_12 : decode cX0_next 12 = .ok (.getfield 9, 3) := by decide +kernel
theorem dX0_next_15 : decode cX0_next 15 = .ok (.iload_n 1, 1) := by decide +kernel
theorem dX0_next_16 : decode cX0_next 16 = .ok (.iaload, 1) := by decide +kernel
theorem dX0_next_17 : decode cX0_next 17 = .ok (.aload_n 0, 1) := by decide +kernel
theorem dX0_next_18 : decode cX0_next 18 = .ok (.getfield 9, 3) := by decide +kernel
theorem dX0_next_21 : decode cX0_next 21 = .ok (.iload_n 1, 1) := by decide +kernel
theorem dX0_next_22 : decode cX0_next 22 = .ok (.iconst 1, 1) := by decide +kernel
theorem dX0_next_23 : decode cX0_next 23 = .ok (.iadd, 1) := by decide +kernel
theorem dX0_next_24 : decode cX0_next 24 = .ok (.iaload, 1) := by decide +kernel
theorem dX0_next_25 : decode cX0_next 25 = .ok (.if_icmp .le 9, 3) := by decide +kernel
theorem dX0_next_28 : decode cX0_next 28 = .ok (.iinc 1 (-1), 3) := by decide +kernel
theorem dX0_next_31 : decode cX0_next 31 = .ok (.goto (-24), 3) := by decide +kernel
theorem dX0_next_34 : decode cX0_next 34 = .ok (.iload_n 1, 1) := by decide +kernel
theorem dX0_next_35 : decode cX0_next 35 = .ok (.ifCond .ge 5, 3) := by decide +kernel
theorem dX0_next_38 : decode cX0_next 38 = .ok (.iconst (-1), 1) := by decide +kernel
theorem dX0_next_39 : decode cX0_next 39 = .ok (.ireturn, 1) := by decide +kernel
theorem dX0_next_40 : decode cX0_next 40 = .ok (.aload_n 0, 1) := by decide +kernel
theorem dX0_next_41 : decode cX0_next 41 = .ok (.getfield 38, 3) := by decide +kernel
theorem dX0_next_44 : decode cX0_next 44 = .ok (.iconst 1, 1) := by decide +kernel
theorem dX0_next_45 : decode cX0_next 45 = .ok (.isub, 1) := by decide +kernel
theorem dX0_next_46 : decode cX0_next 46 = .ok (.istore_n 2, 1) := by decide +kernel
theorem dX0_next_47 : decode cX0_next 47 = .ok (.iload_n 2, 1) := by decide +kernel
theorem dX0_next_48 : decode cX0_next 48 = .ok (.iload_n 1, 1) := by decide +kernel
theorem dX0_next_49 : decode cX0_next 49 = .ok (.iconst 1, 1) := by decide +kernel
theorem dX0_next_50 : decode cX0_next 50 = .ok (.iadd, 1) := by decide +kernel
theorem dX0_next_51 : decode cX0_next 51 = .ok (.if_icmp .le 24, 3) := by decide +kernel
theorem dX0_next_54 : decode cX0_next 54 = .ok (.aload_n 0, 1) := by decide +kernel
theorem dX0_next_55 : decode cX0_next 55 = .ok (.getfield 9, 3) := by decide +kernel
theorem dX0_next_58 : decode cX0_next 58 = .ok (.iload_n 2, 1) := by decide +kernel
theorem dX0_next_59 : decode cX0_next 59 = .ok (.iaload, 1) := by decide +kernel
theorem dX0_next_60 : decode cX0_next 60 = .ok (.aload_n 0, 1) := by decide +kernel
theorem dX0_next_61 : decode cX0_next 61 = .ok (.getfield 9, 3) := by decide +kernel
theorem dX0_next_64 : decode cX0_next 64 = .ok (.iload_n 1, 1) := by decide +kernel
theorem dX0_next_65 : decode cX0_next 65 = .ok (.iaload, 1) := by decide +kernel
theorem dX0_next_66 : decode cX0_next 66 = .ok (.if_icmp .ge 9, 3) := by decide +kernel
theorem dX0_next_69 : decode cX0_next 69 = .ok (.iinc 2 (-1), 3) := by decide +kernel
theorem dX0_next_72 : decode cX0_next 72 = .ok (.goto (-25), 3) := by decide +kernel
theorem dX0_next_75 : decode cX0_next 75 = .ok (.aload_n 0, 1) := by decide +kernel
theorem dX0_next_76 : decode cX0_next 76 = .ok (.iload_n 1, 1) := by decide +kernel
theorem dX0_next_77 : decode cX0_next 77 = .ok (.iload_n 2, 1) := by decide +kernel
theorem dX0_next_78 : decode cX0_next 78 = .ok (.invokevirtual 147, 3) := by decide +kernel
theorem dX0_next_81 : decode cX0_next 81 = .ok (.iload_n 1, 1) := by decide +kernel
theorem dX0_next_82 : decode cX0_next 82 = .ok (.iconst 1, 1) := by decide +kernel
theorem dX0_next_83 : decode cX0_next 83 = .ok (.iadd, 1) := by decide +kernel
theorem dX0_next_84 : decode cX0_next 84 = .ok (.istore_n 3, 1) := by decide +kernel
theorem dX0_next_85 : decode cX0_next 85 = .ok (.aload_n 0, 1) := by decide +kernel
theorem dX0_next_86 : decode cX0_next 86 = .ok (.getfield 38, 3) := by decide +kernel
theorem dX0_next_89 : decode cX0_next 89 = .ok (.iconst 1, 1) := by decide +kernel
theorem dX0_next_90 : decode cX0_next 90 = .ok (.isub, 1) := by decide +kernel
theorem dX0_next_91 : decode cX0_next 91 = .ok (.istore 4, 2) := by decide +kernel
theorem dX0_next_93 : decode cX0_next 93 = .ok (.iload_n 3, 1) := by decide +kernel
theorem dX0_next_94 : decode cX0_next 94 = .ok (.iload 4, 2) := by decide +kernel
theorem dX0_next_96 : decode cX0_next 96 = .ok (.if_icmp .ge 19, 3) := by decide +kernel
theorem dX0_next_99 : decode cX0_next 99 = .ok (.aload_n 0, 1) := by decide +kernel
theorem dX0_next_100 : decode cX0_next 100 = .ok (.iload_n 3, 1) := by decide +kernel
theorem dX0_next_101 : decode cX0_next 101 = .ok (.iload 4, 2) := by decide +kernel
theorem dX0_next_103 : decode cX0_next 103 = .ok (.invokevirtual 147, 3) := by decide +kernel
theorem dX0_next_106 : decode cX0_next 106 = .ok (.iinc 3 1, 3) := by decide +kernel
theorem dX0_next_109 : decode cX0_next 109 = .ok (.iinc 4 (-1), 3) := by decide +kernel
theorem dX0_next_112 : decode cX0_next 112 = .ok (.goto (-19), 3) := by decide +kernel
theorem dX0_next_115 : decode cX0_next 115 = .ok (.iload_n 1, 1) := by decide +kernel
theorem dX0_next_116 : decode cX0_next 116 = .ok (.ireturn, 1) := by decide +kernel
theorem dX1_keeps_0 : decode cX1_keeps 0 = .ok (.bipush 99, 2) := by decide +kernel
theorem dX1_keeps_2 : decode cX1_keeps 2 = .ok (.istore 4, 2) := by decide +kernel
theorem dX1_keeps_4 : decode cX1_keeps 4 = .ok (.iload_n 0, 1) := by decide +kernel
theorem dX1_keeps_5 : decode cX1_keeps 5 = .ok (.tableswitch 67 1 5 #[35, 39, 35, 48, 63], 35) := by decide +kernel
theorem dX1_keeps_40 : decode cX1_keeps 40 = .ok (.iload_n 1, 1) := by decide +kernel
theorem dX1_keeps_41 : decode cX1_keeps 41 = .ok (.iconst 2, 1) := by decide +kernel
theorem dX1_keeps_42 : decode cX1_keeps 42 = .ok (.idiv, 1) := by decide +kernel
theorem dX1_keeps_43 : decode cX1_keeps 43 = .ok (.ireturn, 1) := by decide +kernel
theorem dX1_keeps_44 : decode cX1_keeps 44 = .ok (.iload 4, 2) := by decide +kernel
theorem dX1_keeps_46 : decode cX1_keeps 46 = .ok (.iload_n 1, 1) := by decide +kernel
theorem dX1_keeps_47 : decode cX1_keeps 47 = .ok (.iload_n 3, 1) := by decide +kernel
theorem dX1_keeps_48 : decode cX1_keeps 48 = .ok (.iadd, 1) := by decide +kernel
theorem dX1_keeps_49 : decode cX1_keeps 49 = .ok (.invokestatic 9, 3) := by decide +kernel
theorem dX1_keeps_52 : decode cX1_keeps 52 = .ok (.ireturn, 1) := by decide +kernel
theorem dX1_keeps_53 : decode cX1_keeps 53 = .ok (.iload 4, 2) := by decide +kernel
theorem dX1_keeps_55 : decode cX1_keeps 55 = .ok (.iload_n 1, 1) := by decide +kernel
theorem dX1_keeps_56 : decode cX1_keeps 56 = .ok (.iload_n 2, 1) := by decide +kernel
theorem dX1_keeps_57 : decode cX1_keeps 57 = .ok (.iconst 2, 1) := by decide +kernel
theorem dX1_keeps_58 : decode cX1_keeps 58 = .ok (.idiv, 1) := by decide +kernel
theorem dX1_keeps_59 : decode cX1_keeps 59 = .ok (.invokestatic 9, 3) := by decide +kernel
theorem dX1_keeps_62 : decode cX1_keeps 62 = .ok (.iload_n 3, 1) := by decide +kernel
theorem dX1_keeps_63 : decode cX1_keeps 63 = .ok (.iadd, 1) := by decide +kernel
theorem dX1_keeps_64 : decode cX1_keeps 64 = .ok (.invokestatic 9, 3) := by decide +kernel
theorem dX1_keeps_67 : decode cX1_keeps 67 = .ok (.ireturn, 1) := by decide +kernel
theorem dX1_keeps_68 : decode cX1_keeps 68 = .ok (.iload_n 2, 1) := by decide +kernel
theorem dX1_keeps_69 : decode cX1_keeps 69 = .ok (.iconst 3, 1) := by decide +kernel
theorem dX1_keeps_70 : decode cX1_keeps 70 = .ok (.idiv, 1) := by decide +kernel
theorem dX1_keeps_71 : decode cX1_keeps 71 = .ok (.ireturn, 1) := by decide +kernel
theorem dX1_keeps_72 : decode cX1_keeps 72 = .ok (.iload_n 1, 1) := by decide +kernel
theorem dX1_keeps_73 : decode cX1_keeps 73 = .ok (.ireturn, 1) := by decide +kernel
theorem dX1_takes_0 : decode cX1_takes 0 = .ok (.iconst 1, 1) := by decide +kernel
theorem dX1_takes_1 : decode cX1_takes 1 = .ok (.istore_n 3, 1) := by decide +kernel
theorem dX1_takes_2 : decode cX1_takes 2 = .ok (.iload_n 0, 1) := by decide +kernel
theorem dX1_takes_3 : decode cX1_takes 3 = .ok (.tableswitch 61 1 5 #[33, 61, 41, 51, 59], 33) := by decide +kernel
theorem dX1_takes_36 : decode cX1_takes 36 = .ok (.iload_n 3, 1) := by decide +kernel
theorem dX1_takes_37 : decode cX1_takes 37 = .ok (.iconst 2, 1) := by decide +kernel
theorem dX1_takes_38 : decode cX1_takes 38 = .ok (.iload_n 1, 1) := by decide +kernel
theorem dX1_takes_39 : decode cX1_takes 39 = .ok (.imul, 1) := by decide +kernel
theorem dX1_takes_40 : decode cX1_takes 40 = .ok (.invokestatic 15, 3) := by decide +kernel
theorem dX1_takes_43 : decode cX1_takes 43 = .ok (.ireturn, 1) := by decide +kernel
theorem dX1_takes_44 : decode cX1_takes 44 = .ok (.iload_n 3, 1) := by decide +kernel
theorem dX1_takes_45 : decode cX1_takes 45 = .ok (.iconst 2, 1) := by decide +kernel
theorem dX1_takes_46 : decode cX1_takes 46 = .ok (.iload_n 1, 1) := by decide +kernel
theorem dX1_takes_47 : decode cX1_takes 47 = .ok (.imul, 1) := by decide +kernel
theorem dX1_takes_48 : decode cX1_takes 48 = .ok (.iload_n 2, 1) := by decide +kernel
theorem dX1_takes_49 : decode cX1_takes 49 = .ok (.iadd, 1) := by decide +kernel
theorem dX1_takes_50 : decode cX1_takes 50 = .ok (.invokestatic 15, 3) := by decide +kernel
theorem dX1_takes_53 : decode cX1_takes 53 = .ok (.ireturn, 1) := by decide +kernel
theorem dX1_takes_54 : decode cX1_takes 54 = .ok (.iload_n 3, 1) := by decide +kernel
theorem dX1_takes_55 : decode cX1_takes 55 = .ok (.iload_n 1, 1) := by decide +kernel
theorem dX1_takes_56 : decode cX1_takes 56 = .ok (.iconst 2, 1) := by decide +kernel
theorem dX1_takes_57 : decode cX1_takes 57 = .ok (.idiv, 1) := by decide +kernel
theorem dX1_takes_58 : decode cX1_takes 58 = .ok (.invokestatic 15, 3) := by decide +kernel
theorem dX1_takes_61 : decode cX1_takes 61 = .ok (.ireturn, 1) := by decide +kernel
theorem dX1_takes_62 : decode cX1_takes 62 = .ok (.iload_n 3, 1) := by decide +kernel
theorem dX1_takes_63 : decode cX1_takes 63 = .ok (.ireturn, 1) := by decide +kernel
theorem dX1_takes_64 : decode cX1_takes 64 = .ok (.iload_n 3, 1) := by decide +kernel
theorem dX1_takes_65 : decode cX1_takes 65 = .ok (.iload_n 1, 1) := by decide +kernel
theorem dX1_takes_66 : decode cX1_takes 66 = .ok (.invokestatic 15, 3) := by decide +kernel
theorem dX1_takes_69 : decode cX1_takes 69 = .ok (.ireturn, 1) := by decide +kernel
theorem dX1_crumples_0 : decode cX1_crumples 0 = .ok (.iload_n 0, 1) := by decide +kernel
theorem dX1_crumples_1 : decode cX1_crumples 1 = .ok (.tableswitch 49 1 5 #[35, 43, 35, 43, 47], 35) := by decide +kernel
theorem dX1_crumples_36 : decode cX1_crumples 36 = .ok (.iconst 0, 1) := by decide +kernel
theorem dX1_crumples_37 : decode cX1_crumples 37 = .ok (.iload_n 1, 1) := by decide +kernel
theorem dX1_crumples_38 : decode cX1_crumples 38 = .ok (.iconst 2, 1) := by decide +kernel
theorem dX1_crumples_39 : decode cX1_crumples 39 = .ok (.isub, 1) := by decide +kernel
theorem dX1_crumples_40 : decode cX1_crumples 40 = .ok (.invokestatic 15, 3) := by decide +kernel
theorem dX1_crumples_43 : decode cX1_crumples 43 = .ok (.ireturn, 1) := by decide +kernel
theorem dX1_crumples_44 : decode cX1_crumples 44 = .ok (.iconst 2, 1) := by decide +kernel
theorem dX1_crumples_45 : decode cX1_crumples 45 = .ok (.iload_n 1, 1) := by decide +kernel
theorem dX1_crumples_46 : decode cX1_crumples 46 = .ok (.imul, 1) := by decide +kernel
theorem dX1_crumples_47 : decode cX1_crumples 47 = .ok (.ireturn, 1) := by decide +kernel
theorem dX1_crumples_48 : decode cX1_crumples 48 = .ok (.iconst 0, 1) := by decide +kernel
theorem dX1_crumples_49 : decode cX1_crumples 49 = .ok (.ireturn, 1) := by decide +kernel
theorem dX1_crumples_50 : decode cX1_crumples 50 = .ok (.iload_n 1, 1) := by decide +kernel
theorem dX1_crumples_51 : decode cX1_crumples 51 = .ok (.ireturn, 1) := by decide +kernel
theorem dX1_shows_0 : decode cX1_shows 0 = .ok (.iload_n 0, 1) := by decide +kernel
theorem dX1_shows_1 : decode cX1_shows 1 = .ok (.tableswitch 35 1 4 #[31, 35, 33, 33], 31) := by decide +kernel
theorem dX1_shows_32 : decode cX1_shows 32 = .ok (.iconst 3, 1) := by decide +kernel
theorem dX1_shows_33 : decode cX1_shows 33 = .ok (.ireturn, 1) := by decide +kernel
theorem dX1_shows_34 : decode cX1_shows 34 = .ok (.iconst 2, 1) := by decide +kernel
theorem dX1_shows_35 : decode cX1_shows 35 = .ok (.ireturn, 1) := by decide +kernel
theorem dX1_shows_36 : decode cX1_shows 36 = .ok (.iconst 1, 1) := by decide +kernel
theorem dX1_shows_37 : decode cX1_shows 37 = .ok (.ireturn, 1) := by decide +kernel
theorem dX1_isUnder_0 : decode cX1_isUnder 0 = .ok (.iload_n 0, 1) := by decide +kernel
theorem dX1_isUnder_1 : decode cX1_isUnder 1 = .ok (.istore_n 2, 1) := by decide +kernel
theorem dX1_isUnder_2 : decode cX1_isUnder 2 = .ok (.iconst 0, 1) := by decide +kernel
theorem dX1_isUnder_3 : decode cX1_isUnder 3 = .ok (.istore_n 3, 1) := by decide +kernel
theorem dX1_isUnder_4 : decode cX1_isUnder 4 = .ok (.iload_n 3, 1) := by decide +kernel
theorem dX1_isUnder_5 : decode cX1_isUnder 5 = .ok (.bipush 6, 2) := by decide +kernel
theorem dX1_isUnder_7 : decode cX1_isUnder 7 = .ok (.if_icmp .ge 30, 3) := by decide +kernel
theorem dX1_isUnder_10 : decode cX1_isUnder 10 = .ok (.iload_n 2, 1) := by decide +kernel
theorem dX1_isUnder_11 : decode cX1_isUnder 11 = .ok (.ifCond .lt 26, 3) := by decide +kernel
theorem dX1_isUnder_14 : decode cX1_isUnder 14 = .ok (.iload_n 2, 1) := by decide +kernel
theorem dX1_isUnder_15 : decode cX1_isUnder 15 = .ok (.bipush 6, 2) := by decide +kernel
theorem dX1_isUnder_17 : decode cX1_isUnder 17 = .ok (.if_icmp .ge 20, 3) := by decide +kernel
theorem dX1_isUnder_20 : decode cX1_isUnder 20 = .ok (.iload_n 2, 1) := by decide +kernel
theorem dX1_isUnder_21 : decode cX1_isUnder 21 = .ok (.iload_n 1, 1) := by decide +kernel
theorem dX1_isUnder_22 : decode cX1_isUnder 22 = .ok (.if_icmp .eq 15, 3) := by decide +kernel
theorem dX1_isUnder_25 : decode cX1_isUnder 25 = .ok (.getstatic 20, 3) := by decide +kernel
theorem dX1_isUnder_28 : decode cX1_isUnder 28 = .ok (.iload_n 2, 1) := by decide +kernel
theorem dX1_isUnder_29 : decode cX1_isUnder 29 = .ok (.iaload, 1) := by decide +kernel
theorem dX1_isUnder_30 : decode cX1_isUnder 30 = .ok (.istore_n 2, 1) := by decide +kernel
theorem dX1_isUnder_31 : decode cX1_isUnder 31 = .ok (.iinc 3 1, 3) := by decide +kernel
theorem dX1_isUnder_34 : decode cX1_isUnder 34 = .ok (.goto (-30), 3) := by decide +kernel
theorem dX1_isUnder_37 : decode cX1_isUnder 37 = .ok (.iload_n 2, 1) := by decide +kernel
theorem dX1_isUnder_38 : decode cX1_isUnder 38 = .ok (.iload_n 1, 1) := by decide +kernel
theorem dX1_isUnder_39 : decode cX1_isUnder 39 = .ok (.if_icmp .ne 7, 3) := by decide +kernel
theorem dX1_isUnder_42 : decode cX1_isUnder 42 = .ok (.iconst 1, 1) := by decide +kernel
theorem dX1_isUnder_43 : decode cX1_isUnder 43 = .ok (.goto 4, 3) := by decide +kernel
theorem dX1_isUnder_46 : decode cX1_isUnder 46 = .ok (.iconst 0, 1) := by decide +kernel
theorem dX1_isUnder_47 : decode cX1_isUnder 47 = .ok (.ireturn, 1) := by decide +kernel
theorem dX2_init_0 : decode cX2_init 0 = .ok (.aload_n 0, 1) := by decide +kernel
theorem dX2_init_1 : decode cX2_init 1 = .ok (.invokespecial 3, 3) := by decide +kernel
theorem dX2_init_4 : decode cX2_init 4 = .ok (.aload_n 0, 1) := by decide +kernel
theorem dX2_init_5 : decode cX2_init 5 = .ok (.sipush 160, 3) := by decide +kernel
theorem dX2_init_8 : decode cX2_init 8 = .ok (.newarray .int, 2) := by decide +kernel
theorem dX2_init_10 : decode cX2_init 10 = .ok (.putfield 9, 3) := by decide +kernel
theorem dX2_init_13 : decode cX2_init 13 = .ok (.return_, 1) := by decide +kernel
theorem dX2_takeIn_0 : decode cX2_takeIn 0 = .ok (.aload_n 0, 1) := by decide +kernel
theorem dX2_takeIn_1 : decode cX2_takeIn 1 = .ok (.getfield 15, 3) := by decide +kernel
theorem dX2_takeIn_4 : decode cX2_takeIn 4 = .ok (.sipush 160, 3) := by decide +kernel
theorem dX2_takeIn_7 : decode cX2_takeIn 7 = .ok (.if_icmp .lt 5, 3) := by decide +kernel
theorem dX2_takeIn_10 : decode cX2_takeIn 10 = .ok (.iconst 0, 1) := by decide +kernel
theorem dX2_takeIn_11 : decode cX2_takeIn 11 = .ok (.ireturn, 1) := by decide +kernel
theorem dX2_takeIn_12 : decode cX2_takeIn 12 = .ok (.aload_n 0, 1) := by decide +kernel
theorem dX2_takeIn_13 : decode cX2_takeIn 13 = .ok (.getfield 9, 3) := by decide +kernel
theorem dX2_takeIn_16 : decode cX2_takeIn 16 = .ok (.aload_n 0, 1) := by decide +kernel
theorem dX2_takeIn_17 : decode cX2_takeIn 17 = .ok (.dup, 1) := by decide +kernel
theorem dX2_takeIn_18 : decode cX2_takeIn 18 = .ok (.getfield 15, 3) := by decide +kernel
theorem dX2_takeIn_21 : decode cX2_takeIn 21 = .ok (.dup_x1, 1) := by decide +kernel
theorem dX2_takeIn_22 : decode cX2_takeIn 22 = .ok (.iconst 1, 1) := by decide +kernel
theorem dX2_takeIn_23 : decode cX2_takeIn 23 = .ok (.iadd, 1) := by decide +kernel
theorem dX2_takeIn_24 : decode cX2_takeIn 24 = .ok (.putfield 15, 3) := by decide +kernel
theorem dX2_takeIn_27 : decode cX2_takeIn 27 = .ok (.iload_n 1, 1) := by decide +kernel
theorem dX2_takeIn_28 : decode cX2_takeIn 28 = .ok (.iastore, 1) := by decide +kernel
theorem dX2_takeIn_29 : decode cX2_takeIn 29 = .ok (.iconst 1, 1) := by decide +kernel
theorem dX2_takeIn_30 : decode cX2_takeIn 30 = .ok (.ireturn, 1) := by decide +kernel
theorem dX2_read_0 : decode cX2_read 0 = .ok (.aload_n 0, 1) := by decide +kernel
theorem dX2_read_1 : decode cX2_read 1 = .ok (.aload_n 1, 1) := by decide +kernel
theorem dX2_read_2 : decode cX2_read 2 = .ok (.putfield 19, 3) := by decide +kernel
theorem dX2_read_5 : decode cX2_read 5 = .ok (.aload_n 0, 1) := by decide +kernel
theorem dX2_read_6 : decode cX2_read 6 = .ok (.iconst 0, 1) := by decide +kernel
theorem dX2_read_7 : decode cX2_read 7 = .ok (.putfield 22, 3) := by decide +kernel
theorem dX2_read_10 : decode cX2_read 10 = .ok (.aload_n 0, 1) := by decide +kernel
theorem dX2_read_11 : decode cX2_read 11 = .ok (.iconst 0, 1) := by decide +kernel
theorem dX2_read_12 : decode cX2_read 12 = .ok (.putfield 25, 3) := by decide +kernel
theorem dX2_read_15 : decode cX2_read 15 = .ok (.aload_n 0, 1) := by decide +kernel
theorem dX2_read_16 : decode cX2_read 16 = .ok (.invokevirtual 28, 3) := by decide +kernel
theorem dX2_read_19 : decode cX2_read 19 = .ok (.iconst 0, 1) := by decide +kernel
theorem dX2_read_20 : decode cX2_read 20 = .ok (.istore_n 3, 1) := by decide +kernel
theorem dX2_read_21 : decode cX2_read 21 = .ok (.iload_n 3, 1) := by decide +kernel
theorem dX2_read_22 : decode cX2_read 22 = .ok (.iconst 3, 1) := by decide +kernel
theorem dX2_read_23 : decode cX2_read 23 = .ok (.if_icmp .ge 70, 3) := by decide +kernel
theorem dX2_read_26 : decode cX2_read 26 = .ok (.aload_n 0, 1) := by decide +kernel
theorem dX2_read_27 : decode cX2_read 27 = .ok (.getfield 33, 3) := by decide +kernel
theorem dX2_read_30 : decode cX2_read 30 = .ok (.sipush 256, 3) := by decide +kernel
theorem dX2_read_33 : decode cX2_read 33 = .ok (.iload_n 3, 1) := by decide +kernel
theorem dX2_read_34 : decode cX2_read 34 = .ok (.iadd, 1) := by decide +kernel
theorem dX2_read_35 : decode cX2_read 35 = .ok (.if_icmp .eq 8, 3) := by decide +kernel
theorem dX2_read_38 : decode cX2_read 38 = .ok (.aload_n 0, 1) := by decide +kernel
theorem dX2_read_39 : decode cX2_read 39 = .ok (.getfield 36, 3) := by decide +kernel
theorem dX2_read_42 : decode cX2_read 42 = .ok (.ireturn, 1) := by decide +kernel
theorem dX2_read_43 : decode cX2_read 43 = .ok (.aload_n 0, 1) := by decide +kernel
theorem dX2_read_44 : decode cX2_read 44 = .ok (.invokevirtual 28, 3) := by decide +kernel
theorem dX2_read_47 : decode cX2_read 47 = .ok (.aload_n 2, 1) := by decide +kernel
theorem dX2_read_48 : decode cX2_read 48 = .ok (.iload_n 3, 1) := by decide +kernel
theorem dX2_read_49 : decode cX2_read 49 = .ok (.aload_n 0, 1) := by decide +kernel
theorem dX2_read_50 : decode cX2_read 50 = .ok (.getfield 22, 3) := by decide +kernel
theorem dX2_read_53 : decode cX2_read 53 = .ok (.iastore, 1) := by decide +kernel
theorem dX2_read_54 : decode cX2_read 54 = .ok (.aload_n 0, 1) := by decide +kernel
theorem dX2_read_55 : decode cX2_read 55 = .ok (.iconst 0, 1) := by decide +kernel
theorem dX2_read_56 : decode cX2_read 56 = .ok (.invokevirtual 39, 3) := by decide +kernel
theorem dX2_read_59 : decode cX2_read 59 = .ok (.ifCond .eq 12, 3) := by decide +kernel
theorem dX2_read_62 : decode cX2_read 62 = .ok (.aload_n 0, 1) := by decide +kernel
theorem dX2_read_63 : decode cX2_read 63 = .ok (.getfield 33, 3) := by decide +kernel
theorem dX2_read_66 : decode cX2_read 66 = .ok (.bipush 59, 2) := by decide +kernel
theorem dX2_read_68 : decode cX2_read 68 = .ok (.if_icmp .eq 8, 3) := by decide +kernel
theorem dX2_read_71 : decode cX2_read 71 = .ok (.aload_n 0, 1) := by decide +kernel
theorem dX2_read_72 : decode cX2_read 72 = .ok (.getfield 36, 3) := by decide +kernel
theorem dX2_read_75 : decode cX2_read 75 = .ok (.ireturn, 1) := by decide +kernel
theorem dX2_read_76 : decode cX2_read 76 = .ok (.aload_n 0, 1) := by decide +kernel
theorem dX2_read_77 : decode cX2_read 77 = .ok (.sipush 10019, 3) := by decide +kernel
theorem dX2_read_80 : decode cX2_read 80 = .ok (.invokevirtual 43, 3) := by decide +kernel
theorem dX2_read_83 : decode cX2_read 83 = .ok (.aload_n 0, 1) := by decide +kernel
theorem dX2_read_84 : decode cX2_read 84 = .ok (.invokevirtual 28, 3) := by decide +kernel
theorem dX2_read_87 : decode cX2_read 87 = .ok (.iinc 3 1, 3) := by decide +kernel
theorem dX2_read_90 : decode cX2_read 90 = .ok (.goto (-69), 3) := by decide +kernel
theorem dX2_read_93 : decode cX2_read 93 = .ok (.aload_n 0, 1) := by decide +kernel
theorem dX2_read_94 : decode cX2_read 94 = .ok (.getfield 33, 3) := by decide +kernel
theorem dX2_read_97 : decode cX2_read 97 = .ok (.ifCond .ne 7, 3) := by decide +kernel
theorem dX2_read_100 : decode cX2_read 100 = .ok (.iconst (-1), 1) := by decide +kernel
theorem dX2_read_101 : decode cX2_read 101 = .ok (.goto 7, 3) := by decide +kernel
theorem dX2_read_104 : decode cX2_read 104 = .ok (.aload_n 0, 1) := by decide +kernel
theorem dX2_read_105 : decode cX2_read 105 = .ok (.getfield 36, 3) := by decide +kernel
theorem dX2_read_108 : decode cX2_read 108 = .ok (.ireturn, 1) := by decide +kernel
theorem dX2_either_0 : decode cX2_either 0 = .ok (.aload_n 0, 1) := by decide +kernel
theorem dX2_either_1 : decode cX2_either 1 = .ok (.iload_n 1, 1) := by decide +kernel
theorem dX2_either_2 : decode cX2_either 2 = .ok (.invokevirtual 47, 3) := by decide +kernel
theorem dX2_either_5 : decode cX2_either 5 = .ok (.istore_n 2, 1) := by decide +kernel
theorem dX2_either_6 : decode cX2_either 6 = .ok (.iconst 0, 1) := by decide +kernel
theorem dX2_either_7 : decode cX2_either 7 = .ok (.istore_n 3, 1) := by decide +kernel
theorem dX2_either_8 : decode cX2_either 8 = .ok (.iload_n 3, 1) := by decide +kernel
theorem dX2_either_9 : decode cX2_either 9 = .ok (.sipush 160, 3) := by decide +kernel
theorem dX2_either_12 : decode cX2_either 12 = .ok (.if_icmp .ge 40, 3) := by decide +kernel
theorem dX2_either_15 : decode cX2_either 15 = .ok (.iload_n 2, 1) := by decide +kernel
theorem dX2_either_16 : decode cX2_either 16 = .ok (.ifCond .eq 36, 3) := by decide +kernel
theorem dX2_either_19 : decode cX2_either 19 = .ok (.aload_n 0, 1) := by decide +kernel
theorem dX2_either_20 : decode cX2_either 20 = .ok (.getfield 33, 3) := by decide +kernel
theorem dX2_either_23 : decode cX2_either 23 = .ok (.sipush 259, 3) := by decide +kernel
theorem dX2_either_26 : decode cX2_either 26 = .ok (.if_icmp .ne 26, 3) := by decide +kernel
theorem dX2_either_29 : decode cX2_either 29 = .ok (.aload_n 0, 1) := by decide +kernel
theorem dX2_either_30 : decode cX2_either 30 = .ok (.invokevirtual 28, 3) := by decide +kernel
theorem dX2_either_33 : decode cX2_either 33 = .ok (.aload_n 0, 1) := by decide +kernel
theorem dX2_either_34 : decode cX2_either 34 = .ok (.iload_n 1, 1) := by decide +kernel
theorem dX2_either_35 : decode cX2_either 35 = .ok (.invokevirtual 47, 3) := by decide +kernel
theorem dX2_either_38 : decode cX2_either 38 = .ok (.istore_n 2, 1) := by decide +kernel
theorem dX2_either_39 : decode cX2_either 39 = .ok (.aload_n 0, 1) := by decide +kernel
theorem dX2_either_40 : decode cX2_either 40 = .ok (.sipush 10018, 3) := by decide +kernel
theorem dX2_either_43 : decode cX2_either 43 = .ok (.invokevirtual 43, 3) := by decide +kernel
theorem dX2_either_46 : decode cX2_either 46 = .ok (.iinc 3 1, 3) := by decide +kernel
theorem dX2_either_49 : decode cX2_either 49 = .ok (.goto (-41), 3) := by decide +kernel
theorem dX2_either_52 : decode cX2_either 52 = .ok (.iload_n 2, 1) := by decide +kernel
theorem dX2_either_53 : decode cX2_either 53 = .ok (.ireturn, 1) := by decide +kernel
theorem dX2_both_0 : decode cX2_both 0 = .ok (.aload_n 0, 1) := by decide +kernel
theorem dX2_both_1 : decode cX2_both 1 = .ok (.iload_n 1, 1) := by decide +kernel
theorem dX2_both_2 : decode cX2_both 2 = .ok (.invokevirtual 50, 3) := by decide +kernel
theorem dX2_both_5 : decode cX2_both 5 = .ok (.istore_n 2, 1) := by decide +kernel
theorem dX2_both_6 : decode cX2_both 6 = .ok (.iconst 0, 1) := by decide +kernel
theorem dX2_both_7 : decode cX2_both 7 = .ok (.istore_n 3, 1) := by decide +kernel
theorem dX2_both_8 : decode cX2_both 8 = .ok (.iload_n 3, 1) := by decide +kernel
theorem dX2_both_9 : decode cX2_both 9 = .ok (.sipush 160, 3) := by decide +kernel
theorem dX2_both_12 : decode cX2_both 12 = .ok (.if_icmp .ge 40, 3) := by decide +kernel
theorem dX2_both_15 : decode cX2_both 15 = .ok (.iload_n 2, 1) := by decide +kernel
theorem dX2_both_16 : decode cX2_both 16 = .ok (.ifCond .eq 36, 3) := by decide +kernel
theorem dX2_both_19 : decode cX2_both 19 = .ok (.aload_n 0, 1) := by decide +kernel
theorem dX2_both_20 : decode cX2_both 20 = .ok (.getfield 33, 3) := by decide +kernel
theorem dX2_both_23 : decode cX2_both 23 = .ok (.sipush 260, 3) := by decide +kernel
theorem dX2_both_26 : decode cX2_both 26 = .ok (.if_icmp .ne 26, 3) := by decide +kernel
theorem dX2_both_29 : decode cX2_both 29 = .ok (.aload_n 0, 1) := by decide +kernel
theorem dX2_both_30 : decode cX2_both 30 = .ok (.invokevirtual 28, 3) := by decide +kernel
theorem dX2_both_33 : decode cX2_both 33 = .ok (.aload_n 0, 1) := by decide +kernel
theorem dX2_both_34 : decode cX2_both 34 = .ok (.iload_n 1, 1) := by decide +kernel
theorem dX2_both_35 : decode cX2_both 35 = .ok (.invokevirtual 50, 3) := by decide +kernel
theorem dX2_both_38 : decode cX2_both 38 = .ok (.istore_n 2, 1) := by decide +kernel
theorem dX2_both_39 : decode cX2_both 39 = .ok (.aload_n 0, 1) := by decide +kernel
theorem dX2_both_40 : decode cX2_both 40 = .ok (.sipush 10017, 3) := by decide +kernel
theorem dX2_both_43 : decode cX2_both 43 = .ok (.invokevirtual 43, 3) := by decide +kernel
theorem dX2_both_46 : decode cX2_both 46 = .ok (.iinc 3 1, 3) := by decide +kernel
theorem dX2_both_49 : decode cX2_both 49 = .ok (.goto (-41), 3) := by decide +kernel
theorem dX2_both_52 : decode cX2_both 52 = .ok (.iload_n 2, 1) := by decide +kernel
theorem dX2_both_53 : decode cX2_both 53 = .ok (.ireturn, 1) := by decide +kernel
theorem dX2_negation_0 : decode cX2_negation 0 = .ok (.aload_n 0, 1) := by decide +kernel
theorem dX2_negation_1 : decode cX2_negation 1 = .ok (.getfield 33, 3) := by decide +kernel
theorem dX2_negation_4 : decode cX2_negation 4 = .ok (.sipush 261, 3) := by decide +kernel
theorem dX2_negation_7 : decode cX2_negation 7 = .ok (.if_icmp .eq 9, 3) := by decide +kernel
theorem dX2_negation_10 : decode cX2_negation 10 = .ok (.aload_n 0, 1) := by decide +kernel
theorem dX2_negation_11 : decode cX2_negation 11 = .ok (.iload_n 1, 1) := by decide +kernel
theorem dX2_negation_12 : decode cX2_negation 12 = .ok (.invokevirtual 53, 3) := by decide +kernel
theorem dX2_negation_15 : decode cX2_negation 15 = .ok (.ireturn, 1) := by decide +kernel
theorem dX2_negation_16 : decode cX2_negation 16 = .ok (.iload_n 1, 1) := by decide +kernel
theorem dX2_negation_17 : decode cX2_negation 17 = .ok (.iconst 5, 1) := by decide +kernel
theorem dX2_negation_18 : decode cX2_negation 18 = .ok (.if_icmp .lt 5, 3) := by decide +kernel
theorem dX2_negation_21 : decode cX2_negation 21 = .ok (.iconst 0, 1) := by decide +kernel
theorem dX2_negation_22 : decode cX2_negation 22 = .ok (.ireturn, 1) := by decide +kernel
theorem dX2_negation_23 : decode cX2_negation 23 = .ok (.aload_n 0, 1) := by decide +kernel
theorem dX2_negation_24 : decode cX2_negation 24 = .ok (.invokevirtual 28, 3) := by decide +kernel
theorem dX2_negation_27 : decode cX2_negation 27 = .ok (.aload_n 0, 1) := by decide +kernel
theorem dX2_negation_28 : decode cX2_negation 28 = .ok (.iload_n 1, 1) := by decide +kernel
theorem dX2_negation_29 : decode cX2_negation 29 = .ok (.iconst 1, 1) := by decide +kernel
theorem dX2_negation_30 : decode cX2_negation 30 = .ok (.iadd, 1) := by decide +kernel
theorem dX2_negation_31 : decode cX2_negation 31 = .ok (.invokevirtual 50, 3) := by decide +kernel
theorem dX2_negation_34 : decode cX2_negation 34 = .ok (.istore_n 2, 1) := by decide +kernel
theorem dX2_negation_35 : decode cX2_negation 35 = .ok (.aload_n 0, 1) := by decide +kernel
theorem dX2_negation_36 : decode cX2_negation 36 = .ok (.sipush 10011, 3) := by decide +kernel
theorem dX2_negation_39 : decode cX2_negation 39 = .ok (.invokevirtual 43, 3) := by decide +kernel
theorem dX2_negation_42 : decode cX2_negation 42 = .ok (.iload_n 2, 1) := by decide +kernel
theorem dX2_negation_43 : decode cX2_negation 43 = .ok (.ireturn, 1) := by decide +kernel
theorem dX2_comparison_0 : decode cX2_comparison 0 = .ok (.aload_n 0, 1) := by decide +kernel
theorem dX2_comparison_1 : decode cX2_comparison 1 = .ok (.iload_n 1, 1) := by decide +kernel
theorem dX2_comparison_2 : decode cX2_comparison 2 = .ok (.invokevirtual 56, 3) := by decide +kernel
theorem dX2_comparison_5 : decode cX2_comparison 5 = .ok (.istore_n 2, 1) := by decide +kernel
theorem dX2_comparison_6 : decode cX2_comparison 6 = .ok (.iload_n 2, 1) := by decide +kernel
theorem dX2_comparison_7 : decode cX2_comparison 7 = .ok (.ifCond .eq 21, 3) := by decide +kernel
theorem dX2_comparison_10 : decode cX2_comparison 10 = .ok (.aload_n 0, 1) := by decide +kernel
theorem dX2_comparison_11 : decode cX2_comparison 11 = .ok (.getfield 33, 3) := by decide +kernel
theorem dX2_comparison_14 : decode cX2_comparison 14 = .ok (.bipush 60, 2) := by decide +kernel
theorem dX2_comparison_16 : decode cX2_comparison 16 = .ok (.if_icmp .eq 14, 3) := by decide +kernel
theorem dX2_comparison_19 : decode cX2_comparison 19 = .ok (.aload_n 0, 1) := by decide +kernel
theorem dX2_comparison_20 : decode cX2_comparison 20 = .ok (.getfield 33, 3) := by decide +kernel
theorem dX2_comparison_23 : decode cX2_comparison 23 = .ok (.bipush 61, 2) := by decide +kernel
theorem dX2_comparison_25 : decode cX2_comparison 25 = .ok (.if_icmp .eq 5, 3) := by decide +kernel
theorem dX2_comparison_28 : decode cX2_comparison 28 = .ok (.iload_n 2, 1) := by decide +kernel
theorem dX2_comparison_29 : decode cX2_comparison 29 = .ok (.ireturn, 1) := by decide +kernel
theorem dX2_comparison_30 : decode cX2_comparison 30 = .ok (.aload_n 0, 1) := by decide +kernel
theorem dX2_comparison_31 : decode cX2_comparison 31 = .ok (.getfield 33, 3) := by decide +kernel
theorem dX2_comparison_34 : decode cX2_comparison 34 = .ok (.bipush 60, 2) := by decide +kernel
theorem dX2_comparison_36 : decode cX2_comparison 36 = .ok (.if_icmp .ne 9, 3) := by decide +kernel
theorem dX2_comparison_39 : decode cX2_comparison 39 = .ok (.sipush 10015, 3) := by decide +kernel
theorem dX2_comparison_42 : decode cX2_comparison 42 = .ok (.goto 6, 3) := by decide +kernel
theorem dX2_comparison_45 : decode cX2_comparison 45 = .ok (.sipush 10016, 3) := by decide +kernel
theorem dX2_comparison_48 : decode cX2_comparison 48 = .ok (.istore_n 3, 1) := by decide +kernel
theorem dX2_comparison_49 : decode cX2_comparison 49 = .ok (.aload_n 0, 1) := by decide +kernel
theorem dX2_comparison_50 : decode cX2_comparison 50 = .ok (.invokevirtual 28, 3) := by decide +kernel
theorem dX2_comparison_53 : decode cX2_comparison 53 = .ok (.aload_n 0, 1) := by decide +kernel
theorem dX2_comparison_54 : decode cX2_comparison 54 = .ok (.iload_n 1, 1) := by decide +kernel
theorem dX2_comparison_55 : decode cX2_comparison 55 = .ok (.invokevirtual 56, 3) := by decide +kernel
theorem dX2_comparison_58 : decode cX2_comparison 58 = .ok (.istore_n 2, 1) := by decide +kernel
theorem dX2_comparison_59 : decode cX2_comparison 59 = .ok (.aload_n 0, 1) := by decide +kernel
theorem dX2_comparison_60 : decode cX2_comparison 60 = .ok (.iload_n 3, 1) := by decide +kernel
theorem dX2_comparison_61 : decode cX2_comparison 61 = .ok (.invokevirtual 43, 3) := by decide +kernel
theorem dX2_comparison_64 : decode cX2_comparison 64 = .ok (.iload_n 2, 1) := by decide +kernel
theorem dX2_comparison_65 : decode cX2_comparison 65 = .ok (.ireturn, 1) := by decide +kernel
theorem dX2_sum_0 : decode cX2_sum 0 = .ok (.aload_n 0, 1) := by decide +kernel
theorem dX2_sum_1 : decode cX2_sum 1 = .ok (.iload_n 1, 1) := by decide +kernel
theorem dX2_sum_2 : decode cX2_sum 2 = .ok (.invokevirtual 59, 3) := by decide +kernel
theorem dX2_sum_5 : decode cX2_sum 5 = .ok (.istore_n 2, 1) := by decide +kernel
theorem dX2_sum_6 : decode cX2_sum 6 = .ok (.iconst 0, 1) := by decide +kernel
theorem dX2_sum_7 : decode cX2_sum 7 = .ok (.istore_n 3, 1) := by decide +kernel
theorem dX2_sum_8 : decode cX2_sum 8 = .ok (.iload_n 3, 1) := by decide +kernel
theorem dX2_sum_9 : decode cX2_sum 9 = .ok (.sipush 160, 3) := by decide +kernel
theorem dX2_sum_12 : decode cX2_sum 12 = .ok (.if_icmp .ge 67, 3) := by decide +kernel
theorem dX2_sum_15 : decode cX2_sum 15 = .ok (.iload_n 2, 1) := by decide +kernel
theorem dX2_sum_16 : decode cX2_sum 16 = .ok (.ifCond .eq 63, 3) := by decide +kernel
theorem dX2_sum_19 : decode cX2_sum 19 = .ok (.aload_n 0, 1) := by decide +kernel
theorem dX2_sum_20 : decode cX2_sum 20 = .ok (.getfield 33, 3) := by decide +kernel
theorem dX2_sum_23 : decode cX2_sum 23 = .ok (.bipush 43, 2) := by decide +kernel
theorem dX2_sum_25 : decode cX2_sum 25 = .ok (.if_icmp .eq 12, 3) := by decide +kernel
theorem dX2_sum_28 : decode cX2_sum 28 = .ok (.aload_n 0, 1) := by decide +kernel
theorem dX2_sum_29 : decode cX2_sum 29 = .ok (.getfield 33, 3) := by decide +kernel
theorem dX2_sum_32 : decode cX2_sum 32 = .ok (.bipush 45, 2) := by decide +kernel
theorem dX2_sum_34 : decode cX2_sum 34 = .ok (.if_icmp .ne 45, 3) := by decide +kernel
theorem dX2_sum_37 : decode cX2_sum 37 = .ok (.aload_n 0, 1) := by decide +kernel
theorem dX2_sum_38 : decode cX2_sum 38 = .ok (.getfield 33, 3) := by decide +kernel
theorem dX2_sum_41 : decode cX2_sum 41 = .ok (.bipush 43, 2) := by decide +kernel
theorem dX2_sum_43 : decode cX2_sum 43 = .ok (.if_icmp .ne 9, 3) := by decide +kernel
theorem dX2_sum_46 : decode cX2_sum 46 = .ok (.sipush 10012, 3) := by decide +kernel
theorem dX2_sum_49 : decode cX2_sum 49 = .ok (.goto 6, 3) := by decide +kernel
theorem dX2_sum_52 : decode cX2_sum 52 = .ok (.sipush 10013, 3) := by decide +kernel
theorem dX2_sum_55 : decode cX2_sum 55 = .ok (.istore 4, 2) := by decide +kernel
theorem dX2_sum_57 : decode cX2_sum 57 = .ok (.aload_n 0, 1) := by decide +kernel
theorem dX2_sum_58 : decode cX2_sum 58 = .ok (.invokevirtual 28, 3) := by decide +kernel
theorem dX2_sum_61 : decode cX2_sum 61 = .ok (.aload_n 0, 1) := by decide +kernel
theorem dX2_sum_62 : decode cX2_sum 62 = .ok (.iload_n 1, 1) := by decide +kernel
theorem dX2_sum_63 : decode cX2_sum 63 = .ok (.invokevirtual 59, 3) := by decide +kernel
theorem dX2_sum_66 : decode cX2_sum 66 = .ok (.istore_n 2, 1) := by decide +kernel
theorem dX2_sum_67 : decode cX2_sum 67 = .ok (.aload_n 0, 1) := by decide +kernel
theorem dX2_sum_68 : decode cX2_sum 68 = .ok (.iload 4, 2) := by decide +kernel
theorem dX2_sum_70 : decode cX2_sum 70 = .ok (.invokevirtual 43, 3) := by decide +kernel
theorem dX2_sum_73 : decode cX2_sum 73 = .ok (.iinc 3 1, 3) := by decide +kernel
theorem dX2_sum_76 : decode cX2_sum 76 = .ok (.goto (-68), 3) := by decide +kernel
theorem dX2_sum_79 : decode cX2_sum 79 = .ok (.iload_n 2, 1) := by decide +kernel
theorem dX2_sum_80 : decode cX2_sum 80 = .ok (.ireturn, 1) := by decide +kernel
theorem dX2_term_0 : decode cX2_term 0 = .ok (.aload_n 0, 1) := by decide +kernel
theorem dX2_term_1 : decode cX2_term 1 = .ok (.iload_n 1, 1) := by decide +kernel
theorem dX2_term_2 : decode cX2_term 2 = .ok (.invokevirtual 62, 3) := by decide +kernel
theorem dX2_term_5 : decode cX2_term 5 = .ok (.istore_n 2, 1) := by decide +kernel
theorem dX2_term_6 : decode cX2_term 6 = .ok (.iconst 0, 1) := by decide +kernel
theorem dX2_term_7 : decode cX2_term 7 = .ok (.istore_n 3, 1) := by decide +kernel
theorem dX2_term_8 : decode cX2_term 8 = .ok (.iload_n 3, 1) := by decide +kernel
theorem dX2_term_9 : decode cX2_term 9 = .ok (.sipush 160, 3) := by decide +kernel
theorem dX2_term_12 : decode cX2_term 12 = .ok (.if_icmp .ge 39, 3) := by decide +kernel
theorem dX2_term_15 : decode cX2_term 15 = .ok (.iload_n 2, 1) := by decide +kernel
theorem dX2_term_16 : decode cX2_term 16 = .ok (.ifCond .eq 35, 3) := by decide +kernel
theorem dX2_term_19 : decode cX2_term 19 = .ok (.aload_n 0, 1) := by decide +kernel
theorem dX2_term_20 : decode cX2_term 20 = .ok (.getfield 33, 3) := by decide +kernel
theorem dX2_term_23 : decode cX2_term 23 = .ok (.bipush 42, 2) := by decide +kernel
theorem dX2_term_25 : decode cX2_term 25 = .ok (.if_icmp .ne 26, 3) := by decide +kernel
theorem dX2_term_28 : decode cX2_term 28 = .ok (.aload_n 0, 1) := by decide +kernel
theorem dX2_term_29 : decode cX2_term 29 = .ok (.invokevirtual 28, 3) := by decide +kernel
theorem dX2_term_32 : decode cX2_term 32 = .ok (.aload_n 0, 1) := by decide +kernel
theorem dX2_term_33 : decode cX2_term 33 = .ok (.iload_n 1, 1) := by decide +kernel
theorem dX2_term_34 : decode cX2_term 34 = .ok (.invokevirtual 62, 3) := by decide +kernel
theorem dX2_term_37 : decode cX2_term 37 = .ok (.istore_n 2, 1) := by decide +kernel
theorem dX2_term_38 : decode cX2_term 38 = .ok (.aload_n 0, 1) := by decide +kernel
theorem dX2_term_39 : decode cX2_term 39 = .ok (.sipush 10014, 3) := by decide +kernel
theorem dX2_term_42 : decode cX2_term 42 = .ok (.invokevirtual 43, 3) := by decide +kernel
theorem dX2_term_45 : decode cX2_term 45 = .ok (.iinc 3 1, 3) := by decide +kernel
theorem dX2_term_48 : decode cX2_term 48 = .ok (.goto (-40), 3) := by decide +kernel
theorem dX2_term_51 : decode cX2_term 51 = .ok (.iload_n 2, 1) := by decide +kernel
theorem dX2_term_52 : decode cX2_term 52 = .ok (.ireturn, 1) := by decide +kernel
theorem dX2_one_0 : decode cX2_one 0 = .ok (.aload_n 0, 1) := by decide +kernel
theorem dX2_one_1 : decode cX2_one 1 = .ok (.getfield 33, 3) := by decide +kernel
theorem dX2_one_4 : decode cX2_one 4 = .ok (.iconst 2, 1) := by decide +kernel
theorem dX2_one_5 : decode cX2_one 5 = .ok (.if_icmp .eq 11, 3) := by decide +kernel
theorem dX2_one_8 : decode cX2_one 8 = .ok (.aload_n 0, 1) := by decide +kernel
theorem dX2_one_9 : decode cX2_one 9 = .ok (.getfield 33, 3) := by decide +kernel
theorem dX2_one_12 : decode cX2_one 12 = .ok (.iconst 3, 1) := by decide +kernel
theorem dX2_one_13 : decode cX2_one 13 = .ok (.if_icmp .ne 17, 3) := by decide +kernel
theorem dX2_one_16 : decode cX2_one 16 = .ok (.aload_n 0, 1) := by decide +kernel
theorem dX2_one_17 : decode cX2_one 17 = .ok (.aload_n 0, 1) := by decide +kernel
theorem dX2_one_18 : decode cX2_one 18 = .ok (.getfield 65, 3) := by decide +kernel
theorem dX2_one_21 : decode cX2_one 21 = .ok (.invokevirtual 43, 3) := by decide +kernel
theorem dX2_one_24 : decode cX2_one 24 = .ok (.aload_n 0, 1) := by decide +kernel
theorem dX2_one_25 : decode cX2_one 25 = .ok (.invokevirtual 28, 3) := by decide +kernel
theorem dX2_one_28 : decode cX2_one 28 = .ok (.iconst 1, 1) := by decide +kernel
theorem dX2_one_29 : decode cX2_one 29 = .ok (.ireturn, 1) := by decide +kernel
theorem dX2_one_30 : decode cX2_one 30 = .ok (.aload_n 0, 1) := by decide +kernel
theorem dX2_one_31 : decode cX2_one 31 = .ok (.getfield 33, 3) := by decide +kernel
theorem dX2_one_34 : decode cX2_one 34 = .ok (.bipush 45, 2) := by decide +kernel
theorem dX2_one_36 : decode cX2_one 36 = .ok (.if_icmp .eq 12, 3) := by decide +kernel
theorem dX2_one_39 : decode cX2_one 39 = .ok (.aload_n 0, 1) := by decide +kernel
theorem dX2_one_40 : decode cX2_one 40 = .ok (.getfield 33, 3) := by decide +kernel
theorem dX2_one_43 : decode cX2_one 43 = .ok (.bipush 40, 2) := by decide +kernel
theorem dX2_one_45 : decode cX2_one 45 = .ok (.if_icmp .ne 8, 3) := by decide +kernel
theorem dX2_one_48 : decode cX2_one 48 = .ok (.iload_n 1, 1) := by decide +kernel
theorem dX2_one_49 : decode cX2_one 49 = .ok (.iconst 5, 1) := by decide +kernel
theorem dX2_one_50 : decode cX2_one 50 = .ok (.if_icmp .lt 5, 3) := by decide +kernel
theorem dX2_one_53 : decode cX2_one 53 = .ok (.iconst 0, 1) := by decide +kernel
theorem dX2_one_54 : decode cX2_one 54 = .ok (.ireturn, 1) := by decide +kernel
theorem dX2_one_55 : decode cX2_one 55 = .ok (.aload_n 0, 1) := by decide +kernel
theorem dX2_one_56 : decode cX2_one 56 = .ok (.getfield 33, 3) := by decide +kernel
theorem dX2_one_59 : decode cX2_one 59 = .ok (.bipush 45, 2) := by decide +kernel
theorem dX2_one_61 : decode cX2_one 61 = .ok (.if_icmp .ne 24, 3) := by decide +kernel
theorem dX2_one_64 : decode cX2_one 64 = .ok (.aload_n 0, 1) := by decide +kernel
theorem dX2_one_65 : decode cX2_one 65 = .ok (.invokevirtual 28, 3) := by decide +kernel
theorem dX2_one_68 : decode cX2_one 68 = .ok (.aload_n 0, 1) := by decide +kernel
theorem dX2_one_69 : decode cX2_one 69 = .ok (.iload_n 1, 1) := by decide +kernel
theorem dX2_one_70 : decode cX2_one 70 = .ok (.iconst 1, 1) := by decide +kernel
theorem dX2_one_71 : decode cX2_one 71 = .ok (.iadd, 1) := by decide +kernel
theorem dX2_one_72 : decode cX2_one 72 = .ok (.invokevirtual 62, 3) := by decide +kernel
theorem dX2_one_75 : decode cX2_one 75 = .ok (.istore_n 2, 1) := by decide +kernel
theorem dX2_one_76 : decode cX2_one 76 = .ok (.aload_n 0, 1) := by decide +kernel
theorem dX2_one_77 : decode cX2_one 77 = .ok (.sipush 10010, 3) := by decide +kernel
theorem dX2_one_80 : decode cX2_one 80 = .ok (.invokevirtual 43, 3) := by decide +kernel
theorem dX2_one_83 : decode cX2_one 83 = .ok (.iload_n 2, 1) := by decide +kernel
theorem dX2_one_84 : decode cX2_one 84 = .ok (.ireturn, 1) := by decide +kernel
theorem dX2_one_85 : decode cX2_one 85 = .ok (.aload_n 0, 1) := by decide +kernel
theorem dX2_one_86 : decode cX2_one 86 = .ok (.invokevirtual 28, 3) := by decide +kernel
theorem dX2_one_89 : decode cX2_one 89 = .ok (.aload_n 0, 1) := by decide +kernel
theorem dX2_one_90 : decode cX2_one 90 = .ok (.iload_n 1, 1) := by decide +kernel
theorem dX2_one_91 : decode cX2_one 91 = .ok (.iconst 1, 1) := by decide +kernel
theorem dX2_one_92 : decode cX2_one 92 = .ok (.iadd, 1) := by decide +kernel
theorem dX2_one_93 : decode cX2_one 93 = .ok (.invokevirtual 39, 3) := by decide +kernel
theorem dX2_one_96 : decode cX2_one 96 = .ok (.ifCond .eq 12, 3) := by decide +kernel
theorem dX2_one_99 : decode cX2_one 99 = .ok (.aload_n 0, 1) := by decide +kernel
theorem dX2_one_100 : decode cX2_one 100 = .ok (.getfield 33, 3) := by decide +kernel
theorem dX2_one_103 : decode cX2_one 103 = .ok (.bipush 41, 2) := by decide +kernel
theorem dX2_one_105 : decode cX2_one 105 = .ok (.if_icmp .eq 5, 3) := by decide +kernel
theorem dX2_one_108 : decode cX2_one 108 = .ok (.iconst 0, 1) := by decide +kernel
theorem dX2_one_109 : decode cX2_one 109 = .ok (.ireturn, 1) := by decide +kernel
theorem dX2_one_110 : decode cX2_one 110 = .ok (.aload_n 0, 1) := by decide +kernel
theorem dX2_one_111 : decode cX2_one 111 = .ok (.invokevirtual 28, 3) := by decide +kernel
theorem dX2_one_114 : decode cX2_one 114 = .ok (.iconst 1, 1) := by decide +kernel
theorem dX2_one_115 : decode cX2_one 115 = .ok (.ireturn, 1) := by decide +kernel
theorem dX2_emit_0 : decode cX2_emit 0 = .ok (.aload_n 0, 1) := by decide +kernel
theorem dX2_emit_1 : decode cX2_emit 1 = .ok (.getfield 19, 3) := by decide +kernel
theorem dX2_emit_4 : decode cX2_emit 4 = .ok (.ifnull 32, 3) := by decide +kernel
theorem dX2_emit_7 : decode cX2_emit 7 = .ok (.aload_n 0, 1) := by decide +kernel
theorem dX2_emit_8 : decode cX2_emit 8 = .ok (.getfield 22, 3) := by decide +kernel
theorem dX2_emit_11 : decode cX2_emit 11 = .ok (.aload_n 0, 1) := by decide +kernel
theorem dX2_emit_12 : decode cX2_emit 12 = .ok (.getfield 19, 3) := by decide +kernel
theorem dX2_emit_15 : decode cX2_emit 15 = .ok (.arraylength, 1) := by decide +kernel
theorem dX2_emit_16 : decode cX2_emit 16 = .ok (.if_icmp .ge 20, 3) := by decide +kernel
theorem dX2_emit_19 : decode cX2_emit 19 = .ok (.aload_n 0, 1) := by decide +kernel
theorem dX2_emit_20 : decode cX2_emit 20 = .ok (.getfield 19, 3) := by decide +kernel
theorem dX2_emit_23 : decode cX2_emit 23 = .ok (.aload_n 0, 1) := by decide +kernel
theorem dX2_emit_24 : decode cX2_emit 24 = .ok (.dup, 1) := by decide +kernel
theorem dX2_emit_25 : decode cX2_emit 25 = .ok (.getfield 22, 3) := by decide +kernel
theorem dX2_emit_28 : decode cX2_emit 28 = .ok (.dup_x1, 1) := by decide +kernel
theorem dX2_emit_29 : decode cX2_emit 29 = .ok (.iconst 1, 1) := by decide +kernel
theorem dX2_emit_30 : decode cX2_emit 30 = .ok (.iadd, 1) := by decide +kernel
theorem dX2_emit_31 : decode cX2_emit 31 = .ok (.putfield 22, 3) := by decide +kernel
theorem dX2_emit_34 : decode cX2_emit 34 = .ok (.iload_n 1, 1) := by decide +kernel
theorem dX2_emit_35 : decode cX2_emit 35 = .ok (.iastore, 1) := by decide +kernel
theorem dX2_emit_36 : decode cX2_emit 36 = .ok (.return_, 1) := by decide +kernel
theorem dX2_advance_0 : decode cX2_advance 0 = .ok (.aload_n 0, 1) := by decide +kernel
theorem dX2_advance_1 : decode cX2_advance 1 = .ok (.getfield 25, 3) := by decide +kernel
theorem dX2_advance_4 : decode cX2_advance 4 = .ok (.aload_n 0, 1) := by decide +kernel
theorem dX2_advance_5 : decode cX2_advance 5 = .ok (.getfield 15, 3) := by decide +kernel
theorem dX2_advance_8 : decode cX2_advance 8 = .ok (.if_icmp .ge 44, 3) := by decide +kernel
theorem dX2_advance_11 : decode cX2_advance 11 = .ok (.aload_n 0, 1) := by decide +kernel
theorem dX2_advance_12 : decode cX2_advance 12 = .ok (.getfield 9, 3) := by decide +kernel
theorem dX2_advance_15 : decode cX2_advance 15 = .ok (.aload_n 0, 1) := by decide +kernel
theorem dX2_advance_16 : decode cX2_advance 16 = .ok (.getfield 25, 3) := by decide +kernel
theorem dX2_advance_19 : decode cX2_advance 19 = .ok (.iaload, 1) := by decide +kernel
theorem dX2_advance_20 : decode cX2_advance 20 = .ok (.bipush 32, 2) := by decide +kernel
theorem dX2_advance_22 : decode cX2_advance 22 = .ok (.if_icmp .eq 17, 3) := by decide +kernel
theorem dX2_advance_25 : decode cX2_advance 25 = .ok (.aload_n 0, 1) := by decide +kernel
theorem dX2_advance_26 : decode cX2_advance 26 = .ok (.getfield 9, 3) := by decide +kernel
theorem dX2_advance_29 : decode cX2_advance 29 = .ok (.aload_n 0, 1) := by decide +kernel
theorem dX2_advance_30 : decode cX2_advance 30 = .ok (.getfield 25, 3) := by decide +kernel
theorem dX2_advance_33 : decode cX2_advance 33 = .ok (.iaload, 1) := by decide +kernel
theorem dX2_advance_34 : decode cX2_advance 34 = .ok (.bipush 10, 2) := by decide +kernel
theorem dX2_advance_36 : decode cX2_advance 36 = .ok (.if_icmp .ne 16, 3) := by decide +kernel
theorem dX2_advance_39 : decode cX2_advance 39 = .ok (.aload_n 0, 1) := by decide +kernel
theorem dX2_advance_40 : decode cX2_advance 40 = .ok (.dup, 1) := by decide +kernel
theorem dX2_advance_41 : decode cX2_advance 41 = .ok (.getfield 25, 3) := by decide +kernel
theorem dX2_advance_44 : decode cX2_advance 44 = .ok (.iconst 1, 1) := by decide +kernel
theorem dX2_advance_45 : decode cX2_advance 45 = .ok (.iadd, 1) := by decide +kernel
theorem dX2_advance_46 : decode cX2_advance 46 = .ok (.putfield 25, 3) := by decide +kernel
theorem dX2_advance_49 : decode cX2_advance 49 = .ok (.goto (-49), 3) := by decide +kernel
theorem dX2_advance_52 : decode cX2_advance 52 = .ok (.aload_n 0, 1) := by decide +kernel
theorem dX2_advance_53 : decode cX2_advance 53 = .ok (.aload_n 0, 1) := by decide +kernel
theorem dX2_advance_54 : decode cX2_advance 54 = .ok (.getfield 25, 3) := by decide +kernel
theorem dX2_advance_57 : decode cX2_advance 57 = .ok (.putfield 36, 3) := by decide +kernel
theorem dX2_advance_60 : decode cX2_advance 60 = .ok (.aload_n 0, 1) := by decide +kernel
theorem dX2_advance_61 : decode cX2_advance 61 = .ok (.getfield 25, 3) := by decide +kernel
theorem dX2_advance_64 : decode cX2_advance 64 = .ok (.aload_n 0, 1) := by decide +kernel
theorem dX2_advance_65 : decode cX2_advance 65 = .ok (.getfield 15, 3) := by decide +kernel
theorem dX2_advance_68 : decode cX2_advance 68 = .ok (.if_icmp .lt 11, 3) := by decide +kernel
theorem dX2_advance_71 : decode cX2_advance 71 = .ok (.aload_n 0, 1) := by decide +kernel
theorem dX2_advance_72 : decode cX2_advance 72 = .ok (.iconst 0, 1) := by decide +kernel
theorem dX2_advance_73 : decode cX2_advance 73 = .ok (.putfield 33, 3) := by decide +kernel
theorem dX2_advance_76 : decode cX2_advance 76 = .ok (.goto 89, 3) := by decide +kernel
theorem dX2_advance_79 : decode cX2_advance 79 = .ok (.aload_n 0, 1) := by decide +kernel
theorem dX2_advance_80 : decode cX2_advance 80 = .ok (.getfield 9, 3) := by decide +kernel
theorem dX2_advance_83 : decode cX2_advance 83 = .ok (.aload_n 0, 1) := by decide +kernel
theorem dX2_advance_84 : decode cX2_advance 84 = .ok (.getfield 25, 3) := by decide +kernel
theorem dX2_advance_87 : decode cX2_advance 87 = .ok (.iaload, 1) := by decide +kernel
theorem dX2_advance_88 : decode cX2_advance 88 = .ok (.invokestatic 68, 3) := by decide +kernel
theorem dX2_advance_91 : decode cX2_advance 91 = .ok (.ifCond .eq 10, 3) := by decide +kernel
theorem dX2_advance_94 : decode cX2_advance 94 = .ok (.aload_n 0, 1) := by decide +kernel
theorem dX2_advance_95 : decode cX2_advance 95 = .ok (.invokevirtual 71, 3) := by decide +kernel
theorem dX2_advance_98 : decode cX2_advance 98 = .ok (.goto 67, 3) := by decide +kernel
theorem dX2_advance_101 : decode cX2_advance 101 = .ok (.aload_n 0, 1) := by decide +kernel
theorem dX2_advance_102 : decode cX2_advance 102 = .ok (.getfield 9, 3) := by decide +kernel
theorem dX2_advance_105 : decode cX2_advance 105 = .ok (.aload_n 0, 1) := by decide +kernel
theorem dX2_advance_106 : decode cX2_advance 106 = .ok (.getfield 25, 3) := by decide +kernel
theorem dX2_advance_109 : decode cX2_advance 109 = .ok (.iaload, 1) := by decide +kernel
theorem dX2_advance_110 : decode cX2_advance 110 = .ok (.invokestatic 74, 3) := by decide +kernel
theorem dX2_advance_113 : decode cX2_advance 113 = .ok (.ifCond .eq 10, 3) := by decide +kernel
theorem dX2_advance_116 : decode cX2_advance 116 = .ok (.aload_n 0, 1) := by decide +kernel
theorem dX2_advance_117 : decode cX2_advance 117 = .ok (.invokevirtual 77, 3) := by decide +kernel
theorem dX2_advance_120 : decode cX2_advance 120 = .ok (.goto 45, 3) := by decide +kernel
theorem dX2_advance_123 : decode cX2_advance 123 = .ok (.aload_n 0, 1) := by decide +kernel
theorem dX2_advance_124 : decode cX2_advance 124 = .ok (.aload_n 0, 1) := by decide +kernel
theorem dX2_advance_125 : decode cX2_advance 125 = .ok (.getfield 9, 3) := by decide +kernel
theorem dX2_advance_128 : decode cX2_advance 128 = .ok (.aload_n 0, 1) := by decide +kernel
theorem dX2_advance_129 : decode cX2_advance 129 = .ok (.getfield 25, 3) := by decide +kernel
theorem dX2_advance_132 : decode cX2_advance 132 = .ok (.iaload, 1) := by decide +kernel
theorem dX2_advance_133 : decode cX2_advance 133 = .ok (.invokestatic 80, 3) := by decide +kernel
theorem dX2_advance_136 : decode cX2_advance 136 = .ok (.ifCond .eq 15, 3) := by decide +kernel
theorem dX2_advance_139 : decode cX2_advance 139 = .ok (.aload_n 0, 1) := by decide +kernel
theorem dX2_advance_140 : decode cX2_advance 140 = .ok (.getfield 9, 3) := by decide +kernel
theorem dX2_advance_143 : decode cX2_advance 143 = .ok (.aload_n 0, 1) := by decide +kernel
theorem dX2_advance_144 : decode cX2_advance 144 = .ok (.getfield 25, 3) := by decide +kernel
theorem dX2_advance_147 : decode cX2_advance 147 = .ok (.iaload, 1) := by decide +kernel
theorem dX2_advance_148 : decode cX2_advance 148 = .ok (.goto 4, 3) := by decide +kernel
theorem dX2_advance_151 : decode cX2_advance 151 = .ok (.iconst 1, 1) := by decide +kernel
theorem dX2_advance_152 : decode cX2_advance 152 = .ok (.putfield 33, 3) := by decide +kernel
theorem dX2_advance_155 : decode cX2_advance 155 = .ok (.aload_n 0, 1) := by decide +kernel
theorem dX2_advance_156 : decode cX2_advance 156 = .ok (.dup, 1) := by decide +kernel
theorem dX2_advance_157 : decode cX2_advance 157 = .ok (.getfield 25, 3) := by decide +kernel
theorem dX2_advance_160 : decode cX2_advance 160 = .ok (.iconst 1, 1) := by decide +kernel
theorem dX2_advance_161 : decode cX2_advance 161 = .ok (.iadd, 1) := by decide +kernel
theorem dX2_advance_162 : decode cX2_advance 162 = .ok (.putfield 25, 3) := by decide +kernel
theorem dX2_advance_165 : decode cX2_advance 165 = .ok (.return_, 1) := by decide +kernel
theorem dX2_advanceOverNumber_0 : decode cX2_advanceOverNumber 0 = .ok (.aload_n 0, 1) := by decide +kernel
theorem dX2_advanceOverNumber_1 : decode cX2_advanceOverNumber 1 = .ok (.iconst 0, 1) := by decide +kernel
theorem dX2_advanceOverNumber_2 : decode cX2_advanceOverNumber 2 = .ok (.putfield 65, 3) := by decide +kernel
theorem dX2_advanceOverNumber_5 : decode cX2_advanceOverNumber 5 = .ok (.aload_n 0, 1) := by decide +kernel
theorem dX2_advanceOverNumber_6 : decode cX2_advanceOverNumber 6 = .ok (.getfield 25, 3) := by decide +kernel
theorem dX2_advanceOverNumber_9 : decode cX2_advanceOverNumber 9 = .ok (.aload_n 0, 1) := by decide +kernel
theorem dX2_advanceOverNumber_10 : decode cX2_advanceOverNumber 10 = .ok (.getfield 15, 3) := by decide +kernel
theorem dX2_advanceOverNumber_13 : decode cX2_advanceOverNumber 13 = .ok (.if_icmp .ge 55, 3) := by decide +kernel
theorem dX2_advanceOverNumber_16 : decode cX2_advanceOverNumber 16 = .ok (.aload_n 0, 1) := by decide +kernel
theorem dX2_advanceOverNumber_17 : decode cX2_advanceOverNumber 17 = .ok (.getfield 9, 3) := by decide +kernel
theorem dX2_advanceOverNumber_20 : decode cX2_advanceOverNumber 20 = .ok (.aload_n 0, 1) := by decide +kernel
theorem dX2_advanceOverNumber_21 : decode cX2_advanceOverNumber 21 = .ok (.getfield 25, 3) := by decide +kernel
theorem dX2_advanceOverNumber_24 : decode cX2_advanceOverNumber 24 = .ok (.iaload, 1) := by decide +kernel
theorem dX2_advanceOverNumber_25 : decode cX2_advanceOverNumber 25 = .ok (.invokestatic 74, 3) := by decide +kernel
theorem dX2_advanceOverNumber_28 : decode cX2_advanceOverNumber 28 = .ok (.ifCond .eq 40, 3) := by decide +kernel
theorem dX2_advanceOverNumber_31 : decode cX2_advanceOverNumber 31 = .ok (.aload_n 0, 1) := by decide +kernel
theorem dX2_advanceOverNumber_32 : decode cX2_advanceOverNumber 32 = .ok (.aload_n 0, 1) := by decide +kernel
theorem dX2_advanceOverNumber_33 : decode cX2_advanceOverNumber 33 = .ok (.getfield 65, 3) := by decide +kernel
theorem dX2_advanceOverNumber_36 : decode cX2_advanceOverNumber 36 = .ok (.bipush 10, 2) := by decide +kernel
theorem dX2_advanceOverNumber_38 : decode cX2_advanceOverNumber 38 = .ok (.imul, 1) := by decide +kernel
theorem dX2_advanceOverNumber_39 : decode cX2_advanceOverNumber 39 = .ok (.aload_n 0, 1) := by decide +kernel
theorem dX2_advanceOverNumber_40 : decode cX2_advanceOverNumber 40 = .ok (.getfield 9, 3) := by decide +kernel
theorem dX2_advanceOverNumber_43 : decode cX2_advanceOverNumber 43 = .ok (.aload_n 0, 1) := by decide +kernel
theorem dX2_advanceOverNumber_44 : decode cX2_advanceOverNumber 44 = .ok (.getfield 25, 3) := by decide +kernel
theorem dX2_advanceOverNumber_47 : decode cX2_advanceOverNumber 47 = .ok (.iaload, 1) := by decide +kernel
theorem dX2_advanceOverNumber_48 : decode cX2_advanceOverNumber 48 = .ok (.iadd, 1) := by decide +kernel
theorem dX2_advanceOverNumber_49 : decode cX2_advanceOverNumber 49 = .ok (.bipush 48, 2) := by decide +kernel
theorem dX2_advanceOverNumber_51 : decode cX2_advanceOverNumber 51 = .ok (.isub, 1) := by decide +kernel
theorem dX2_advanceOverNumber_52 : decode cX2_advanceOverNumber 52 = .ok (.putfield 65, 3) := by decide +kernel
theorem dX2_advanceOverNumber_55 : decode cX2_advanceOverNumber 55 = .ok (.aload_n 0, 1) := by decide +kernel
theorem dX2_advanceOverNumber_56 : decode cX2_advanceOverNumber 56 = .ok (.dup, 1) := by decide +kernel
theorem dX2_advanceOverNumber_57 : decode cX2_advanceOverNumber 57 = .ok (.getfield 25, 3) := by decide +kernel
theorem dX2_advanceOverNumber_60 : decode cX2_advanceOverNumber 60 = .ok (.iconst 1, 1) := by decide +kernel
theorem dX2_advanceOverNumber_61 : decode cX2_advanceOverNumber 61 = .ok (.iadd, 1) := by decide +kernel
theorem dX2_advanceOverNumber_62 : decode cX2_advanceOverNumber 62 = .ok (.putfield 25, 3) := by decide +kernel
theorem dX2_advanceOverNumber_65 : decode cX2_advanceOverNumber 65 = .ok (.goto (-60), 3) := by decide +kernel
theorem dX2_advanceOverNumber_68 : decode cX2_advanceOverNumber 68 = .ok (.aload_n 0, 1) := by decide +kernel
theorem dX2_advanceOverNumber_69 : decode cX2_advanceOverNumber 69 = .ok (.aload_n 0, 1) := by decide +kernel
theorem dX2_advanceOverNumber_70 : decode cX2_advanceOverNumber 70 = .ok (.getfield 25, 3) := by decide +kernel
theorem dX2_advanceOverNumber_73 : decode cX2_advanceOverNumber 73 = .ok (.aload_n 0, 1) := by decide +kernel
theorem dX2_advanceOverNumber_74 : decode cX2_advanceOverNumber 74 = .ok (.getfield 36, 3) := by decide +kernel
theorem dX2_advanceOverNumber_77 : decode cX2_advanceOverNumber 77 = .ok (.isub, 1) := by decide +kernel
theorem dX2_advanceOverNumber_78 : decode cX2_advanceOverNumber 78 = .ok (.iconst 4, 1) := by decide +kernel
theorem dX2_advanceOverNumber_79 : decode cX2_advanceOverNumber 79 = .ok (.if_icmp .le 7, 3) := by decide +kernel
theorem dX2_advanceOverNumber_82 : decode cX2_advanceOverNumber 82 = .ok (.iconst 1, 1) := by decide +kernel
theorem dX2_advanceOverNumber_83 : decode cX2_advanceOverNumber 83 = .ok (.goto 4, 3) := by decide +kernel
theorem dX2_advanceOverNumber_86 : decode cX2_advanceOverNumber 86 = .ok (.iconst 2, 1) := by decide +kernel
theorem dX2_advanceOverNumber_87 : decode cX2_advanceOverNumber 87 = .ok (.putfield 33, 3) := by decide +kernel
theorem dX2_advanceOverNumber_90 : decode cX2_advanceOverNumber 90 = .ok (.return_, 1) := by decide +kernel
theorem dX2_advanceOverWord_0 : decode cX2_advanceOverWord 0 = .ok (.aload_n 0, 1) := by decide +kernel
theorem dX2_advanceOverWord_1 : decode cX2_advanceOverWord 1 = .ok (.getfield 25, 3) := by decide +kernel
theorem dX2_advanceOverWord_4 : decode cX2_advanceOverWord 4 = .ok (.aload_n 0, 1) := by decide +kernel
theorem dX2_advanceOverWord_5 : decode cX2_advanceOverWord 5 = .ok (.getfield 15, 3) := by decide +kernel
theorem dX2_advanceOverWord_8 : decode cX2_advanceOverWord 8 = .ok (.if_icmp .ge 31, 3) := by decide +kernel
theorem dX2_advanceOverWord_11 : decode cX2_advanceOverWord 11 = .ok (.aload_n 0, 1) := by decide +kernel
theorem dX2_advanceOverWord_12 : decode cX2_advanceOverWord 12 = .ok (.getfield 9, 3) := by decide +kernel
theorem dX2_advanceOverWord_15 : decode cX2_advanceOverWord 15 = .ok (.aload_n 0, 1) := by decide +kernel
theorem dX2_advanceOverWord_16 : decode cX2_advanceOverWord 16 = .ok (.getfield 25, 3) := by decide +kernel
theorem dX2_advanceOverWord_19 : decode cX2_advanceOverWord 19 = .ok (.iaload, 1) := by decide +kernel
theorem dX2_advanceOverWord_20 : decode cX2_advanceOverWord 20 = .ok (.invokestatic 68, 3) := by decide +kernel
theorem dX2_advanceOverWord_23 : decode cX2_advanceOverWord 23 = .ok (.ifCond .eq 16, 3) := by decide +kernel
theorem dX2_advanceOverWord_26 : decode cX2_advanceOverWord 26 = .ok (.aload_n 0, 1) := by decide +kernel
theorem dX2_advanceOverWord_27 : decode cX2_advanceOverWord 27 = .ok (.dup, 1) := by decide +kernel
theorem dX2_advanceOverWord_28 : decode cX2_advanceOverWord 28 = .ok (.getfield 25, 3) := by decide +kernel
theorem dX2_advanceOverWord_31 : decode cX2_advanceOverWord 31 = .ok (.iconst 1, 1) := by decide +kernel
theorem dX2_advanceOverWord_32 : decode cX2_advanceOverWord 32 = .ok (.iadd, 1) := by decide +kernel
theorem dX2_advanceOverWord_33 : decode cX2_advanceOverWord 33 = .ok (.putfield 25, 3) := by decide +kernel
theorem dX2_advanceOverWord_36 : decode cX2_advanceOverWord 36 = .ok (.goto (-36), 3) := by decide +kernel
theorem dX2_advanceOverWord_39 : decode cX2_advanceOverWord 39 = .ok (.aload_n 0, 1) := by decide +kernel
theorem dX2_advanceOverWord_40 : decode cX2_advanceOverWord 40 = .ok (.invokevirtual 83, 3) := by decide +kernel
theorem dX2_advanceOverWord_43 : decode cX2_advanceOverWord 43 = .ok (.istore_n 1, 1) := by decide +kernel
theorem dX2_advanceOverWord_44 : decode cX2_advanceOverWord 44 = .ok (.aload_n 0, 1) := by decide +kernel
theorem dX2_advanceOverWord_45 : decode cX2_advanceOverWord 45 = .ok (.sipush 10000, 3) := by decide +kernel
theorem dX2_advanceOverWord_48 : decode cX2_advanceOverWord 48 = .ok (.iload_n 1, 1) := by decide +kernel
theorem dX2_advanceOverWord_49 : decode cX2_advanceOverWord 49 = .ok (.iadd, 1) := by decide +kernel
theorem dX2_advanceOverWord_50 : decode cX2_advanceOverWord 50 = .ok (.putfield 65, 3) := by decide +kernel
theorem dX2_advanceOverWord_53 : decode cX2_advanceOverWord 53 = .ok (.aload_n 0, 1) := by decide +kernel
theorem dX2_advanceOverWord_54 : decode cX2_advanceOverWord 54 = .ok (.iload_n 1, 1) := by decide +kernel
theorem dX2_advanceOverWord_55 : decode cX2_advanceOverWord 55 = .ok (.iconst (-1), 1) := by decide +kernel
theorem dX2_advanceOverWord_56 : decode cX2_advanceOverWord 56 = .ok (.if_icmp .ne 10, 3) := by decide +kernel
theorem dX2_advanceOverWord_59 : decode cX2_advanceOverWord 59 = .ok (.aload_n 0, 1) := by decide +kernel
theorem dX2_advanceOverWord_60 : decode cX2_advanceOverWord 60 = .ok (.invokevirtual 87, 3) := by decide +kernel
theorem dX2_advanceOverWord_63 : decode cX2_advanceOverWord 63 = .ok (.goto 4, 3) := by decide +kernel
theorem dX2_advanceOverWord_66 : decode cX2_advanceOverWord 66 = .ok (.iconst 3, 1) := by decide +kernel
theorem dX2_advanceOverWord_67 : decode cX2_advanceOverWord 67 = .ok (.putfield 33, 3) := by decide +kernel
theorem dX2_advanceOverWord_70 : decode cX2_advanceOverWord 70 = .ok (.return_, 1) := by decide +kernel
theorem dX2_name_0 : decode cX2_name 0 = .ok (.aload_n 0, 1) := by decide +kernel
theorem dX2_name_1 : decode cX2_name 1 = .ok (.ldc 90, 2) := by decide +kernel
theorem dX2_name_3 : decode cX2_name 3 = .ok (.invokevirtual 92, 3) := by decide +kernel
theorem dX2_name_6 : decode cX2_name 6 = .ok (.ifCond .eq 5, 3) := by decide +kernel
theorem dX2_name_9 : decode cX2_name 9 = .ok (.iconst 0, 1) := by decide +kernel
theorem dX2_name_10 : decode cX2_name 10 = .ok (.ireturn, 1) := by decide +kernel
theorem dX2_name_11 : decode cX2_name 11 = .ok (.aload_n 0, 1) := by decide +kernel
theorem dX2_name_12 : decode cX2_name 12 = .ok (.ldc 96, 2) := by decide +kernel
theorem dX2_name_14 : decode cX2_name 14 = .ok (.invokevirtual 92, 3) := by decide +kernel
theorem dX2_name_17 : decode cX2_name 17 = .ok (.ifCond .eq 5, 3) := by decide +kernel
theorem dX2_name_20 : decode cX2_name 20 = .ok (.iconst 1, 1) := by decide +kernel
theorem dX2_name_21 : decode cX2_name 21 = .ok (.ireturn, 1) := by decide +kernel
theorem dX2_name_22 : decode cX2_name 22 = .ok (.aload_n 0, 1) := by decide +kernel
theorem dX2_name_23 : decode cX2_name 23 = .ok (.ldc 98, 2) := by decide +kernel
theorem dX2_name_25 : decode cX2_name 25 = .ok (.invokevirtual 92, 3) := by decide +kernel
theorem dX2_name_28 : decode cX2_name 28 = .ok (.ifCond .eq 5, 3) := by decide +kernel
theorem dX2_name_31 : decode cX2_name 31 = .ok (.iconst 2, 1) := by decide +kernel
theorem dX2_name_32 : decode cX2_name 32 = .ok (.ireturn, 1) := by decide +kernel
theorem dX2_name_33 : decode cX2_name 33 = .ok (.aload_n 0, 1) := by decide +kernel
theorem dX2_name_34 : decode cX2_name 34 = .ok (.ldc 100, 2) := by decide +kernel
theorem dX2_name_36 : decode cX2_name 36 = .ok (.invokevirtual 92, 3) := by decide +kernel
theorem dX2_name_39 : decode cX2_name 39 = .ok (.ifCond .eq 5, 3) := by decide +kernel
theorem dX2_name_42 : decode cX2_name 42 = .ok (.iconst 3, 1) := by decide +kernel
theorem dX2_name_43 : decode cX2_name 43 = .ok (.ireturn, 1) := by decide +kernel
theorem dX2_name_44 : decode cX2_name 44 = .ok (.aload_n 0, 1) := by decide +kernel
theorem dX2_name_45 : decode cX2_name 45 = .ok (.ldc 102, 2) := by decide +kernel
theorem dX2_name_47 : decode cX2_name 47 = .ok (.invokevirtual 92, 3) := by decide +kernel
theorem dX2_name_50 : decode cX2_name 50 = .ok (.ifCond .eq 5, 3) := by decide +kernel
theorem dX2_name_53 : decode cX2_name 53 = .ok (.iconst 4, 1) := by decide +kernel
theorem dX2_name_54 : decode cX2_name 54 = .ok (.ireturn, 1) := by decide +kernel
theorem dX2_name_55 : decode cX2_name 55 = .ok (.aload_n 0, 1) := by decide +kernel
theorem dX2_name_56 : decode cX2_name 56 = .ok (.ldc 104, 2) := by decide +kernel
theorem dX2_name_58 : decode cX2_name 58 = .ok (.invokevirtual 92, 3) := by decide +kernel
theorem dX2_name_61 : decode cX2_name 61 = .ok (.ifCond .eq 7, 3) := by decide +kernel
theorem dX2_name_64 : decode cX2_name 64 = .ok (.iconst 5, 1) := by decide +kernel
theorem dX2_name_65 : decode cX2_name 65 = .ok (.goto 4, 3) := by decide +kernel
theorem dX2_name_68 : decode cX2_name 68 = .ok (.iconst (-1), 1) := by decide +kernel
theorem dX2_name_69 : decode cX2_name 69 = .ok (.ireturn, 1) := by decide +kernel
theorem dX2_key_0 : decode cX2_key 0 = .ok (.aload_n 0, 1) := by decide +kernel
theorem dX2_key_1 : decode cX2_key 1 = .ok (.ldc 106, 2) := by decide +kernel
theorem dX2_key_3 : decode cX2_key 3 = .ok (.invokevirtual 92, 3) := by decide +kernel
theorem dX2_key_6 : decode cX2_key 6 = .ok (.ifCond .eq 7, 3) := by decide +kernel
theorem dX2_key_9 : decode cX2_key 9 = .ok (.sipush 256, 3) := by decide +kernel
theorem dX2_key_12 : decode cX2_key 12 = .ok (.ireturn, 1) := by decide +kernel
theorem dX2_key_13 : decode cX2_key 13 = .ok (.aload_n 0, 1) := by decide +kernel
theorem dX2_key_14 : decode cX2_key 14 = .ok (.ldc 108, 2) := by decide +kernel
theorem dX2_key_16 : decode cX2_key 16 = .ok (.invokevirtual 92, 3) := by decide +kernel
theorem dX2_key_19 : decode cX2_key 19 = .ok (.ifCond .eq 7, 3) := by decide +kernel
theorem dX2_key_22 : decode cX2_key 22 = .ok (.sipush 257, 3) := by decide +kernel
theorem dX2_key_25 : decode cX2_key 25 = .ok (.ireturn, 1) := by decide +kernel
theorem dX2_key_26 : decode cX2_key 26 = .ok (.aload_n 0, 1) := by decide +kernel
theorem dX2_key_27 : decode cX2_key 27 = .ok (.ldc 110, 2) := by decide +kernel
theorem dX2_key_29 : decode cX2_key 29 = .ok (.invokevirtual 92, 3) := by decide +kernel
theorem dX2_key_32 : decode cX2_key 32 = .ok (.ifCond .eq 7, 3) := by decide +kernel
theorem dX2_key_35 : decode cX2_key 35 = .ok (.sipush 258, 3) := by decide +kernel
theorem dX2_key_38 : decode cX2_key 38 = .ok (.ireturn, 1) := by decide +kernel
theorem dX2_key_39 : decode cX2_key 39 = .ok (.aload_n 0, 1) := by decide +kernel
theorem dX2_key_40 : decode cX2_key 40 = .ok (.ldc 112, 2) := by decide +kernel
theorem dX2_key_42 : decode cX2_key 42 = .ok (.invokevirtual 92, 3) := by decide +kernel
theorem dX2_key_45 : decode cX2_key 45 = .ok (.ifCond .eq 7, 3) := by decide +kernel
theorem dX2_key_48 : decode cX2_key 48 = .ok (.sipush 259, 3) := by decide +kernel
theorem dX2_key_51 : decode cX2_key 51 = .ok (.ireturn, 1) := by decide +kernel
theorem dX2_key_52 : decode cX2_key 52 = .ok (.aload_n 0, 1) := by decide +kernel
theorem dX2_key_53 : decode cX2_key 53 = .ok (.ldc 114, 2) := by decide +kernel
theorem dX2_key_55 : decode cX2_key 55 = .ok (.invokevirtual 92, 3) := by decide +kernel
theorem dX2_key_58 : decode cX2_key 58 = .ok (.ifCond .eq 7, 3) := by decide +kernel
theorem dX2_key_61 : decode cX2_key 61 = .ok (.sipush 260, 3) := by decide +kernel
theorem dX2_key_64 : decode cX2_key 64 = .ok (.ireturn, 1) := by decide +kernel
theorem dX2_key_65 : decode cX2_key 65 = .ok (.aload_n 0, 1) := by decide +kernel
theorem dX2_key_66 : decode cX2_key 66 = .ok (.ldc 116, 2) := by decide +kernel
theorem dX2_key_68 : decode cX2_key 68 = .ok (.invokevirtual 92, 3) := by decide +kernel
theorem dX2_key_71 : decode cX2_key 71 = .ok (.ifCond .eq 9, 3) := by decide +kernel
theorem dX2_key_74 : decode cX2_key 74 = .ok (.sipush 261, 3) := by decide +kernel
theorem dX2_key_77 : decode cX2_key 77 = .ok (.goto 4, 3) := by decide +kernel
theorem dX2_key_80 : decode cX2_key 80 = .ok (.iconst 1, 1) := by decide +kernel
theorem dX2_key_81 : decode cX2_key 81 = .ok (.ireturn, 1) := by decide +kernel
theorem dX2_isWord_0 : decode cX2_isWord 0 = .ok (.aload_n 0, 1) := by decide +kernel
theorem dX2_isWord_1 : decode cX2_isWord 1 = .ok (.getfield 25, 3) := by decide +kernel
theorem dX2_isWord_4 : decode cX2_isWord 4 = .ok (.aload_n 0, 1) := by decide +kernel
theorem dX2_isWord_5 : decode cX2_isWord 5 = .ok (.getfield 36, 3) := by decide +kernel
theorem dX2_isWord_8 : decode cX2_isWord 8 = .ok (.isub, 1) := by decide +kernel
theorem dX2_isWord_9 : decode cX2_isWord 9 = .ok (.aload_n 1, 1) := by decide +kernel
theorem dX2_isWord_10 : decode cX2_isWord 10 = .ok (.invokevirtual 118, 3) := by decide +kernel
theorem dX2_isWord_13 : decode cX2_isWord 13 = .ok (.if_icmp .ne 7, 3) := by decide +kernel
theorem dX2_isWord_16 : decode cX2_isWord 16 = .ok (.iconst 1, 1) := by decide +kernel
theorem dX2_isWord_17 : decode cX2_isWord 17 = .ok (.goto 4, 3) := by decide +kernel
theorem dX2_isWord_20 : decode cX2_isWord 20 = .ok (.iconst 0, 1) := by decide +kernel
theorem dX2_isWord_21 : decode cX2_isWord 21 = .ok (.istore_n 2, 1) := by decide +kernel
theorem dX2_isWord_22 : decode cX2_isWord 22 = .ok (.iconst 0, 1) := by decide +kernel
theorem dX2_isWord_23 : decode cX2_isWord 23 = .ok (.istore_n 3, 1) := by decide +kernel
theorem dX2_isWord_24 : decode cX2_isWord 24 = .ok (.iload_n 2, 1) := by decide +kernel
theorem dX2_isWord_25 : decode cX2_isWord 25 = .ok (.ifCond .eq 42, 3) := by decide +kernel
theorem dX2_isWord_28 : decode cX2_isWord 28 = .ok (.iload_n 3, 1) := by decide +kernel
theorem dX2_isWord_29 : decode cX2_isWord 29 = .ok (.aload_n 1, 1) := by decide +kernel
theorem dX2_isWord_30 : decode cX2_isWord 30 = .ok (.invokevirtual 118, 3) := by decide +kernel
theorem dX2_isWord_33 : decode cX2_isWord 33 = .ok (.if_icmp .ge 34, 3) := by decide +kernel
theorem dX2_isWord_36 : decode cX2_isWord 36 = .ok (.aload_n 0, 1) := by decide +kernel
theorem dX2_isWord_37 : decode cX2_isWord 37 = .ok (.getfield 9, 3) := by decide +kernel
theorem dX2_isWord_40 : decode cX2_isWord 40 = .ok (.aload_n 0, 1) := by decide +kernel
theorem dX2_isWord_41 : decode cX2_isWord 41 = .ok (.getfield 36, 3) := by decide +kernel
theorem dX2_isWord_44 : decode cX2_isWord 44 = .ok (.iload_n 3, 1) := by decide +kernel
theorem dX2_isWord_45 : decode cX2_isWord 45 = .ok (.iadd, 1) := by decide +kernel
theorem dX2_isWord_46 : decode cX2_isWord 46 = .ok (.iaload, 1) := by decide +kernel
theorem dX2_isWord_47 : decode cX2_isWord 47 = .ok (.aload_n 1, 1) := by decide +kernel
theorem dX2_isWord_48 : decode cX2_isWord 48 = .ok (.iload_n 3, 1) := by decide +kernel
theorem dX2_isWord_49 : decode cX2_isWord 49 = .ok (.invokevirtual 122, 3) := by decide +kernel
theorem dX2_isWord_52 : decode cX2_isWord 52 = .ok (.if_icmp .ne 7, 3) := by decide +kernel
theorem dX2_isWord_55 : decode cX2_isWord 55 = .ok (.iconst 1, 1) := by decide +kernel
theorem dX2_isWord_56 : decode cX2_isWord 56 = .ok (.goto 4, 3) := by decide +kernel
theorem dX2_isWord_59 : decode cX2_isWord 59 = .ok (.iconst 0, 1) := by decide +kernel
theorem dX2_isWord_60 : decode cX2_isWord 60 = .ok (.istore_n 2, 1) := by decide +kernel
theorem dX2_isWord_61 : decode cX2_isWord 61 = .ok (.iinc 3 1, 3) := by decide +kernel
theorem dX2_isWord_64 : decode cX2_isWord 64 = .ok (.goto (-40), 3) := by decide +kernel
theorem dX2_isWord_67 : decode cX2_isWord 67 = .ok (.iload_n 2, 1) := by decide +kernel
theorem dX2_isWord_68 : decode cX2_isWord 68 = .ok (.ireturn, 1) := by decide +kernel
theorem dX2_isLetter_0 : decode cX2_isLetter 0 = .ok (.iload_n 0, 1) := by decide +kernel
theorem dX2_isLetter_1 : decode cX2_isLetter 1 = .ok (.bipush 97, 2) := by decide +kernel
theorem dX2_isLetter_3 : decode cX2_isLetter 3 = .ok (.if_icmp .lt 13, 3) := by decide +kernel
theorem dX2_isLetter_6 : decode cX2_isLetter 6 = .ok (.iload_n 0, 1) := by decide +kernel
theorem dX2_isLetter_7 : decode cX2_isLetter 7 = .ok (.bipush 122, 2) := by decide +kernel
theorem dX2_isLetter_9 : decode cX2_isLetter 9 = .ok (.if_icmp .gt 7, 3) := by decide +kernel
theorem dX2_isLetter_12 : decode cX2_isLetter 12 = .ok (.iconst 1, 1) := by decide +kernel
theorem dX2_isLetter_13 : decode cX2_isLetter 13 = .ok (.goto 4, 3) := by decide +kernel
theorem dX2_isLetter_16 : decode cX2_isLetter 16 = .ok (.iconst 0, 1) := by decide +kernel
theorem dX2_isLetter_17 : decode cX2_isLetter 17 = .ok (.ireturn, 1) := by decide +kernel
theorem dX2_isDigit_0 : decode cX2_isDigit 0 = .ok (.iload_n 0, 1) := by decide +kernel
theorem dX2_isDigit_1 : decode cX2_isDigit 1 = .ok (.bipush 48, 2) := by decide +kernel
theorem dX2_isDigit_3 : decode cX2_isDigit 3 = .ok (.if_icmp .lt 13, 3) := by decide +kernel
theorem dX2_isDigit_6 : decode cX2_isDigit 6 = .ok (.iload_n 0, 1) := by decide +kernel
theorem dX2_isDigit_7 : decode cX2_isDigit 7 = .ok (.bipush 57, 2) := by decide +kernel
theorem dX2_isDigit_9 : decode cX2_isDigit 9 = .ok (.if_icmp .gt 7, 3) := by decide +kernel
theorem dX2_isDigit_12 : decode cX2_isDigit 12 = .ok (.iconst 1, 1) := by decide +kernel
theorem dX2_isDigit_13 : decode cX2_isDigit 13 = .ok (.goto 4, 3) := by decide +kernel
theorem dX2_isDigit_16 : decode cX2_isDigit 16 = .ok (.iconst 0, 1) := by decide +kernel
theorem dX2_isDigit_17 : decode cX2_isDigit 17 = .ok (.ireturn, 1) := by decide +kernel
theorem dX2_isSign_0 : decode cX2_isSign 0 = .ok (.iload_n 0, 1) := by decide +kernel
theorem dX2_isSign_1 : decode cX2_isSign 1 = .ok (.tableswitch 105 40 61 #[103, 103, 103, 103, 105, 103, 105, 105, 105, 105, 105, 105, 105, 105, 105, 105, 105, 105, 105, 103, 103, 103], 103) := by decide +kernel
theorem dX2_isSign_104 : decode cX2_isSign 104 = .ok (.iconst 1, 1) := by decide +kernel
theorem dX2_isSign_105 : decode cX2_isSign 105 = .ok (.ireturn, 1) := by decide +kernel
theorem dX2_isSign_106 : decode cX2_isSign 106 = .ok (.iconst 0, 1) := by decide +kernel
theorem dX2_isSign_107 : decode cX2_isSign 107 = .ok (.ireturn, 1) := by decide +kernel
theorem dX3_init_0 : decode cX3_init 0 = .ok (.aload_n 0, 1) := by decide +kernel
theorem dX3_init_1 : decode cX3_init 1 = .ok (.invokespecial 3, 3) := by decide +kernel
theorem dX3_init_4 : decode cX3_init 4 = .ok (.aload_n 0, 1) := by decide +kernel
theorem dX3_init_5 : decode cX3_init 5 = .ok (.aload_n 1, 1) := by decide +kernel
theorem dX3_init_6 : decode cX3_init 6 = .ok (.putfield 9, 3) := by decide +kernel
theorem dX3_init_9 : decode cX3_init 9 = .ok (.aload_n 0, 1) := by decide +kernel
theorem dX3_init_10 : decode cX3_init 10 = .ok (.aload_n 2, 1) := by decide +kernel
theorem dX3_init_11 : decode cX3_init 11 = .ok (.putfield 15, 3) := by decide +kernel
theorem dX3_init_14 : decode cX3_init 14 = .ok (.return_, 1) := by decide +kernel
theorem dX3_begin_0 : decode cX3_begin 0 = .ok (.aload_n 0, 1) := by decide +kernel
theorem dX3_begin_1 : decode cX3_begin 1 = .ok (.iconst (-1), 1) := by decide +kernel
theorem dX3_begin_2 : decode cX3_begin 2 = .ok (.putfield 19, 3) := by decide +kernel
theorem dX3_begin_5 : decode cX3_begin 5 = .ok (.aload_n 0, 1) := by decide +kernel
theorem dX3_begin_6 : decode cX3_begin 6 = .ok (.iload_n 1, 1) := by decide +kernel
theorem dX3_begin_7 : decode cX3_begin 7 = .ok (.putfield 23, 3) := by decide +kernel
theorem dX3_begin_10 : decode cX3_begin 10 = .ok (.return_, 1) := by decide +kernel
theorem dX3_offer_0 : decode cX3_offer 0 = .ok (.iload_n 2, 1) := by decide +kernel
theorem dX3_offer_1 : decode cX3_offer 1 = .ok (.aload_n 0, 1) := by decide +kernel
theorem dX3_offer_2 : decode cX3_offer 2 = .ok (.getfield 23, 3) := by decide +kernel
theorem dX3_offer_5 : decode cX3_offer 5 = .ok (.if_icmp .ge 13, 3) := by decide +kernel
theorem dX3_offer_8 : decode cX3_offer 8 = .ok (.aload_n 0, 1) := by decide +kernel
theorem dX3_offer_9 : decode cX3_offer 9 = .ok (.iload_n 1, 1) := by decide +kernel
theorem dX3_offer_10 : decode cX3_offer 10 = .ok (.putfield 19, 3) := by decide +kernel
theorem dX3_offer_13 : decode cX3_offer 13 = .ok (.aload_n 0, 1) := by decide +kernel
theorem dX3_offer_14 : decode cX3_offer 14 = .ok (.iload_n 2, 1) := by decide +kernel
theorem dX3_offer_15 : decode cX3_offer 15 = .ok (.putfield 23, 3) := by decide +kernel
theorem dX3_offer_18 : decode cX3_offer 18 = .ok (.return_, 1) := by decide +kernel
theorem dX3_bestOrder_0 : decode cX3_bestOrder 0 = .ok (.aload_n 0, 1) := by decide +kernel
theorem dX3_bestOrder_1 : decode cX3_bestOrder 1 = .ok (.getfield 9, 3) := by decide +kernel
theorem dX3_bestOrder_4 : decode cX3_bestOrder 4 = .ok (.aload_n 1, 1) := by decide +kernel
theorem dX3_bestOrder_5 : decode cX3_bestOrder 5 = .ok (.bipush 127, 2) := by decide +kernel
theorem dX3_bestOrder_7 : decode cX3_bestOrder 7 = .ok (.invokevirtual 26, 3) := by decide +kernel
theorem dX3_bestOrder_10 : decode cX3_bestOrder 10 = .ok (.aload_n 0, 1) := by decide +kernel
theorem dX3_bestOrder_11 : decode cX3_bestOrder 11 = .ok (.getfield 9, 3) := by decide +kernel
theorem dX3_bestOrder_14 : decode cX3_bestOrder 14 = .ok (.aload_n 1, 1) := by decide +kernel
theorem dX3_bestOrder_15 : decode cX3_bestOrder 15 = .ok (.invokevirtual 32, 3) := by decide +kernel
theorem dX3_bestOrder_18 : decode cX3_bestOrder 18 = .ok (.aload_n 0, 1) := by decide +kernel
theorem dX3_bestOrder_19 : decode cX3_bestOrder 19 = .ok (.aload_n 0, 1) := by decide +kernel
theorem dX3_bestOrder_20 : decode cX3_bestOrder 20 = .ok (.getfield 9, 3) := by decide +kernel
theorem dX3_bestOrder_23 : decode cX3_bestOrder 23 = .ok (.invokevirtual 36, 3) := by decide +kernel
theorem dX3_bestOrder_26 : decode cX3_bestOrder 26 = .ok (.putfield 19, 3) := by decide +kernel
theorem dX3_bestOrder_29 : decode cX3_bestOrder 29 = .ok (.aload_n 0, 1) := by decide +kernel
theorem dX3_bestOrder_30 : decode cX3_bestOrder 30 = .ok (.aload_n 0, 1) := by decide +kernel
theorem dX3_bestOrder_31 : decode cX3_bestOrder 31 = .ok (.getfield 9, 3) := by decide +kernel
theorem dX3_bestOrder_34 : decode cX3_bestOrder 34 = .ok (.aload_n 1, 1) := by decide +kernel
theorem dX3_bestOrder_35 : decode cX3_bestOrder 35 = .ok (.invokevirtual 40, 3) := by decide +kernel
theorem dX3_bestOrder_38 : decode cX3_bestOrder 38 = .ok (.putfield 23, 3) := by decide +kernel
theorem dX3_bestOrder_41 : decode cX3_bestOrder 41 = .ok (.aload_n 0, 1) := by decide +kernel
theorem dX3_bestOrder_42 : decode cX3_bestOrder 42 = .ok (.getfield 9, 3) := by decide +kernel
theorem dX3_bestOrder_45 : decode cX3_bestOrder 45 = .ok (.invokevirtual 44, 3) := by decide +kernel
theorem dX3_bestOrder_48 : decode cX3_bestOrder 48 = .ok (.istore_n 2, 1) := by decide +kernel
theorem dX3_bestOrder_49 : decode cX3_bestOrder 49 = .ok (.iconst 0, 1) := by decide +kernel
theorem dX3_bestOrder_50 : decode cX3_bestOrder 50 = .ok (.istore_n 3, 1) := by decide +kernel
theorem dX3_bestOrder_51 : decode cX3_bestOrder 51 = .ok (.iload_n 3, 1) := by decide +kernel
theorem dX3_bestOrder_52 : decode cX3_bestOrder 52 = .ok (.sipush 5040, 3) := by decide +kernel
theorem dX3_bestOrder_55 : decode cX3_bestOrder 55 = .ok (.if_icmp .ge 66, 3) := by decide +kernel
theorem dX3_bestOrder_58 : decode cX3_bestOrder 58 = .ok (.iload_n 2, 1) := by decide +kernel
theorem dX3_bestOrder_59 : decode cX3_bestOrder 59 = .ok (.iconst (-1), 1) := by decide +kernel
theorem dX3_bestOrder_60 : decode cX3_bestOrder 60 = .ok (.if_icmp .eq 61, 3) := by decide +kernel
theorem dX3_bestOrder_63 : decode cX3_bestOrder 63 = .ok (.aload_n 0, 1) := by decide +kernel
theorem dX3_bestOrder_64 : decode cX3_bestOrder 64 = .ok (.getfield 9, 3) := by decide +kernel
theorem dX3_bestOrder_67 : decode cX3_bestOrder 67 = .ok (.iload_n 2, 1) := by decide +kernel
theorem dX3_bestOrder_68 : decode cX3_bestOrder 68 = .ok (.invokevirtual 47, 3) := by decide +kernel
theorem dX3_bestOrder_71 : decode cX3_bestOrder 71 = .ok (.aload_n 0, 1) := by decide +kernel
theorem dX3_bestOrder_72 : decode cX3_bestOrder 72 = .ok (.getfield 9, 3) := by decide +kernel
theorem dX3_bestOrder_75 : decode cX3_bestOrder 75 = .ok (.aload_n 1, 1) := by decide +kernel
theorem dX3_bestOrder_76 : decode cX3_bestOrder 76 = .ok (.invokevirtual 40, 3) := by decide +kernel
theorem dX3_bestOrder_79 : decode cX3_bestOrder 79 = .ok (.istore 4, 2) := by decide +kernel
theorem dX3_bestOrder_81 : decode cX3_bestOrder 81 = .ok (.iload 4, 2) := by decide +kernel
theorem dX3_bestOrder_83 : decode cX3_bestOrder 83 = .ok (.aload_n 0, 1) := by decide +kernel
theorem dX3_bestOrder_84 : decode cX3_bestOrder 84 = .ok (.getfield 23, 3) := by decide +kernel
theorem dX3_bestOrder_87 : decode cX3_bestOrder 87 = .ok (.if_icmp .ge 20, 3) := by decide +kernel
theorem dX3_bestOrder_90 : decode cX3_bestOrder 90 = .ok (.aload_n 0, 1) := by decide +kernel
theorem dX3_bestOrder_91 : decode cX3_bestOrder 91 = .ok (.aload_n 0, 1) := by decide +kernel
theorem dX3_bestOrder_92 : decode cX3_bestOrder 92 = .ok (.getfield 9, 3) := by decide +kernel
theorem dX3_bestOrder_95 : decode cX3_bestOrder 95 = .ok (.invokevirtual 36, 3) := by decide +kernel
theorem dX3_bestOrder_98 : decode cX3_bestOrder 98 = .ok (.putfield 19, 3) := by decide +kernel
theorem dX3_bestOrder_101 : decode cX3_bestOrder 101 = .ok (.aload_n 0, 1) := by decide +kernel
theorem dX3_bestOrder_102 : decode cX3_bestOrder 102 = .ok (.iload 4, 2) := by decide +kernel
theorem dX3_bestOrder_104 : decode cX3_bestOrder 104 = .ok (.putfield 23, 3) := by decide +kernel
theorem dX3_bestOrder_107 : decode cX3_bestOrder 107 = .ok (.aload_n 0, 1) := by decide +kernel
theorem dX3_bestOrder_108 : decode cX3_bestOrder 108 = .ok (.getfield 9, 3) := by decide +kernel
theorem dX3_bestOrder_111 : decode cX3_bestOrder 111 = .ok (.invokevirtual 44, 3) := by decide +kernel
theorem dX3_bestOrder_114 : decode cX3_bestOrder 114 = .ok (.istore_n 2, 1) := by decide +kernel
theorem dX3_bestOrder_115 : decode cX3_bestOrder 115 = .ok (.iinc 3 1, 3) := by decide +kernel
theorem dX3_bestOrder_118 : decode cX3_bestOrder 118 = .ok (.goto (-67), 3) := by decide +kernel
theorem dX3_bestOrder_121 : decode cX3_bestOrder 121 = .ok (.return_, 1) := by decide +kernel
theorem dX3_swap_0 : decode cX3_swap 0 = .ok (.aload_n 0, 1) := by decide +kernel
theorem dX3_swap_1 : decode cX3_swap 1 = .ok (.getfield 9, 3) := by decide +kernel
theorem dX3_swap_4 : decode cX3_swap 4 = .ok (.aload_n 1, 1) := by decide +kernel
theorem dX3_swap_5 : decode cX3_swap 5 = .ok (.bipush 127, 2) := by decide +kernel
theorem dX3_swap_7 : decode cX3_swap 7 = .ok (.invokevirtual 26, 3) := by decide +kernel
theorem dX3_swap_10 : decode cX3_swap 10 = .ok (.aload_n 0, 1) := by decide +kernel
theorem dX3_swap_11 : decode cX3_swap 11 = .ok (.getfield 9, 3) := by decide +kernel
theorem dX3_swap_14 : decode cX3_swap 14 = .ok (.aload_n 1, 1) := by decide +kernel
theorem dX3_swap_15 : decode cX3_swap 15 = .ok (.invokevirtual 32, 3) := by decide +kernel
theorem dX3_swap_18 : decode cX3_swap 18 = .ok (.aload_n 0, 1) := by decide +kernel
theorem dX3_swap_19 : decode cX3_swap 19 = .ok (.aload_n 0, 1) := by decide +kernel
theorem dX3_swap_20 : decode cX3_swap 20 = .ok (.getfield 9, 3) := by decide +kernel
theorem dX3_swap_23 : decode cX3_swap 23 = .ok (.aload_n 1, 1) := by decide +kernel
theorem dX3_swap_24 : decode cX3_swap 24 = .ok (.invokevirtual 40, 3) := by decide +kernel
theorem dX3_swap_27 : decode cX3_swap 27 = .ok (.invokevirtual 51, 3) := by decide +kernel
theorem dX3_swap_30 : decode cX3_swap 30 = .ok (.iconst 0, 1) := by decide +kernel
theorem dX3_swap_31 : decode cX3_swap 31 = .ok (.istore_n 2, 1) := by decide +kernel
theorem dX3_swap_32 : decode cX3_swap 32 = .ok (.iload_n 2, 1) := by decide +kernel
theorem dX3_swap_33 : decode cX3_swap 33 = .ok (.aload_n 1, 1) := by decide +kernel
theorem dX3_swap_34 : decode cX3_swap 34 = .ok (.getfield 54, 3) := by decide +kernel
theorem dX3_swap_37 : decode cX3_swap 37 = .ok (.if_icmp .ge 71, 3) := by decide +kernel
theorem dX3_swap_40 : decode cX3_swap 40 = .ok (.iload_n 2, 1) := by decide +kernel
theorem dX3_swap_41 : decode cX3_swap 41 = .ok (.iconst 1, 1) := by decide +kernel
theorem dX3_swap_42 : decode cX3_swap 42 = .ok (.iadd, 1) := by decide +kernel
theorem dX3_swap_43 : decode cX3_swap 43 = .ok (.istore_n 3, 1) := by decide +kernel
theorem dX3_swap_44 : decode cX3_swap 44 = .ok (.iload_n 3, 1) := by decide +kernel
theorem dX3_swap_45 : decode cX3_swap 45 = .ok (.aload_n 1, 1) := by decide +kernel
theorem dX3_swap_46 : decode cX3_swap 46 = .ok (.getfield 54, 3) := by decide +kernel
theorem dX3_swap_49 : decode cX3_swap 49 = .ok (.if_icmp .ge 53, 3) := by decide +kernel
theorem dX3_swap_52 : decode cX3_swap 52 = .ok (.aload_n 0, 1) := by decide +kernel
theorem dX3_swap_53 : decode cX3_swap 53 = .ok (.getfield 9, 3) := by decide +kernel
theorem dX3_swap_56 : decode cX3_swap 56 = .ok (.iload_n 2, 1) := by decide +kernel
theorem dX3_swap_57 : decode cX3_swap 57 = .ok (.iload_n 3, 1) := by decide +kernel
theorem dX3_swap_58 : decode cX3_swap 58 = .ok (.invokevirtual 59, 3) := by decide +kernel
theorem dX3_swap_61 : decode cX3_swap 61 = .ok (.aload_n 0, 1) := by decide +kernel
theorem dX3_swap_62 : decode cX3_swap 62 = .ok (.getfield 9, 3) := by decide +kernel
theorem dX3_swap_65 : decode cX3_swap 65 = .ok (.aload_n 1, 1) := by decide +kernel
theorem dX3_swap_66 : decode cX3_swap 66 = .ok (.invokevirtual 32, 3) := by decide +kernel
theorem dX3_swap_69 : decode cX3_swap 69 = .ok (.aload_n 0, 1) := by decide +kernel
theorem dX3_swap_70 : decode cX3_swap 70 = .ok (.bipush 10, 2) := by decide +kernel
theorem dX3_swap_72 : decode cX3_swap 72 = .ok (.iload_n 2, 1) := by decide +kernel
theorem dX3_swap_73 : decode cX3_swap 73 = .ok (.imul, 1) := by decide +kernel
theorem dX3_swap_74 : decode cX3_swap 74 = .ok (.iload_n 3, 1) := by decide +kernel
theorem dX3_swap_75 : decode cX3_swap 75 = .ok (.iadd, 1) := by decide +kernel
theorem dX3_swap_76 : decode cX3_swap 76 = .ok (.aload_n 0, 1) := by decide +kernel
theorem dX3_swap_77 : decode cX3_swap 77 = .ok (.getfield 9, 3) := by decide +kernel
theorem dX3_swap_80 : decode cX3_swap 80 = .ok (.aload_n 1, 1) := by decide +kernel
theorem dX3_swap_81 : decode cX3_swap 81 = .ok (.invokevirtual 40, 3) := by decide +kernel
theorem dX3_swap_84 : decode cX3_swap 84 = .ok (.invokevirtual 63, 3) := by decide +kernel
theorem dX3_swap_87 : decode cX3_swap 87 = .ok (.aload_n 0, 1) := by decide +kernel
theorem dX3_swap_88 : decode cX3_swap 88 = .ok (.getfield 9, 3) := by decide +kernel
theorem dX3_swap_91 : decode cX3_swap 91 = .ok (.iload_n 2, 1) := by decide +kernel
theorem dX3_swap_92 : decode cX3_swap 92 = .ok (.iload_n 3, 1) := by decide +kernel
theorem dX3_swap_93 : decode cX3_swap 93 = .ok (.invokevirtual 59, 3) := by decide +kernel
theorem dX3_swap_96 : decode cX3_swap 96 = .ok (.iinc 3 1, 3) := by decide +kernel
theorem dX3_swap_99 : decode cX3_swap 99 = .ok (.goto (-55), 3) := by decide +kernel
theorem dX3_swap_102 : decode cX3_swap 102 = .ok (.iinc 2 1, 3) := by decide +kernel
theorem dX3_swap_105 : decode cX3_swap 105 = .ok (.goto (-73), 3) := by decide +kernel
theorem dX3_swap_108 : decode cX3_swap 108 = .ok (.return_, 1) := by decide +kernel
theorem dX3_without_0 : decode cX3_without 0 = .ok (.aload_n 0, 1) := by decide +kernel
theorem dX3_without_1 : decode cX3_without 1 = .ok (.getfield 9, 3) := by decide +kernel
theorem dX3_without_4 : decode cX3_without 4 = .ok (.aload_n 1, 1) := by decide +kernel
theorem dX3_without_5 : decode cX3_without 5 = .ok (.bipush 127, 2) := by decide +kernel
theorem dX3_without_7 : decode cX3_without 7 = .ok (.invokevirtual 26, 3) := by decide +kernel
theorem dX3_without_10 : decode cX3_without 10 = .ok (.aload_n 0, 1) := by decide +kernel
theorem dX3_without_11 : decode cX3_without 11 = .ok (.getfield 9, 3) := by decide +kernel
theorem dX3_without_14 : decode cX3_without 14 = .ok (.aload_n 1, 1) := by decide +kernel
theorem dX3_without_15 : decode cX3_without 15 = .ok (.invokevirtual 32, 3) := by decide +kernel
theorem dX3_without_18 : decode cX3_without 18 = .ok (.aload_n 0, 1) := by decide +kernel
theorem dX3_without_19 : decode cX3_without 19 = .ok (.aload_n 0, 1) := by decide +kernel
theorem dX3_without_20 : decode cX3_without 20 = .ok (.getfield 9, 3) := by decide +kernel
theorem dX3_without_23 : decode cX3_without 23 = .ok (.aload_n 1, 1) := by decide +kernel
theorem dX3_without_24 : decode cX3_without 24 = .ok (.invokevirtual 40, 3) := by decide +kernel
theorem dX3_without_27 : decode cX3_without 27 = .ok (.invokevirtual 51, 3) := by decide +kernel
theorem dX3_without_30 : decode cX3_without 30 = .ok (.iconst 0, 1) := by decide +kernel
theorem dX3_without_31 : decode cX3_without 31 = .ok (.istore_n 2, 1) := by decide +kernel
theorem dX3_without_32 : decode cX3_without 32 = .ok (.iload_n 2, 1) := by decide +kernel
theorem dX3_without_33 : decode cX3_without 33 = .ok (.aload_n 1, 1) := by decide +kernel
theorem dX3_without_34 : decode cX3_without 34 = .ok (.getfield 54, 3) := by decide +kernel
theorem dX3_without_37 : decode cX3_without 37 = .ok (.if_icmp .ge 46, 3) := by decide +kernel
theorem dX3_without_40 : decode cX3_without 40 = .ok (.aload_n 0, 1) := by decide +kernel
theorem dX3_without_41 : decode cX3_without 41 = .ok (.getfield 9, 3) := by decide +kernel
theorem dX3_without_44 : decode cX3_without 44 = .ok (.aload_n 1, 1) := by decide +kernel
theorem dX3_without_45 : decode cX3_without 45 = .ok (.bipush 127, 2) := by decide +kernel
theorem dX3_without_47 : decode cX3_without 47 = .ok (.iconst 1, 1) := by decide +kernel
theorem dX3_without_48 : decode cX3_without 48 = .ok (.iload_n 2, 1) := by decide +kernel
theorem dX3_without_49 : decode cX3_without 49 = .ok (.ishl, 1) := by decide +kernel
theorem dX3_without_50 : decode cX3_without 50 = .ok (.iconst (-1), 1) := by decide +kernel
theorem dX3_without_51 : decode cX3_without 51 = .ok (.ixor, 1) := by decide +kernel
theorem dX3_without_52 : decode cX3_without 52 = .ok (.iand, 1) := by decide +kernel
theorem dX3_without_53 : decode cX3_without 53 = .ok (.invokevirtual 26, 3) := by decide +kernel
theorem dX3_without_56 : decode cX3_without 56 = .ok (.aload_n 0, 1) := by decide +kernel
theorem dX3_without_57 : decode cX3_without 57 = .ok (.getfield 9, 3) := by decide +kernel
theorem dX3_without_60 : decode cX3_without 60 = .ok (.aload_n 1, 1) := by decide +kernel
theorem dX3_without_61 : decode cX3_without 61 = .ok (.invokevirtual 32, 3) := by decide +kernel
theorem dX3_without_64 : decode cX3_without 64 = .ok (.aload_n 0, 1) := by decide +kernel
theorem dX3_without_65 : decode cX3_without 65 = .ok (.iload_n 2, 1) := by decide +kernel
theorem dX3_without_66 : decode cX3_without 66 = .ok (.aload_n 0, 1) := by decide +kernel
theorem dX3_without_67 : decode cX3_without 67 = .ok (.getfield 9, 3) := by decide +kernel
theorem dX3_without_70 : decode cX3_without 70 = .ok (.aload_n 1, 1) := by decide +kernel
theorem dX3_without_71 : decode cX3_without 71 = .ok (.invokevirtual 40, 3) := by decide +kernel
theorem dX3_without_74 : decode cX3_without 74 = .ok (.invokevirtual 63, 3) := by decide +kernel
theorem dX3_without_77 : decode cX3_without 77 = .ok (.iinc 2 1, 3) := by decide +kernel
theorem dX3_without_80 : decode cX3_without 80 = .ok (.goto (-48), 3) := by decide +kernel
theorem dX3_without_83 : decode cX3_without 83 = .ok (.return_, 1) := by decide +kernel
theorem dX3_sprayed_0 : decode cX3_sprayed 0 = .ok (.aload_n 0, 1) := by decide +kernel
theorem dX3_sprayed_1 : decode cX3_sprayed 1 = .ok (.getfield 9, 3) := by decide +kernel
theorem dX3_sprayed_4 : decode cX3_sprayed 4 = .ok (.aload_n 1, 1) := by decide +kernel
theorem dX3_sprayed_5 : decode cX3_sprayed 5 = .ok (.bipush 127, 2) := by decide +kernel
theorem dX3_sprayed_7 : decode cX3_sprayed 7 = .ok (.invokevirtual 26, 3) := by decide +kernel
theorem dX3_sprayed_10 : decode cX3_sprayed 10 = .ok (.aload_n 0, 1) := by decide +kernel
theorem dX3_sprayed_11 : decode cX3_sprayed 11 = .ok (.getfield 9, 3) := by decide +kernel
theorem dX3_sprayed_14 : decode cX3_sprayed 14 = .ok (.aload_n 1, 1) := by decide +kernel
theorem dX3_sprayed_15 : decode cX3_sprayed 15 = .ok (.invokevirtual 32, 3) := by decide +kernel
theorem dX3_sprayed_18 : decode cX3_sprayed 18 = .ok (.aload_n 0, 1) := by decide +kernel
theorem dX3_sprayed_19 : decode cX3_sprayed 19 = .ok (.aload_n 0, 1) := by decide +kernel
theorem dX3_sprayed_20 : decode cX3_sprayed 20 = .ok (.getfield 9, 3) := by decide +kernel
theorem dX3_sprayed_23 : decode cX3_sprayed 23 = .ok (.aload_n 1, 1) := by decide +kernel
theorem dX3_sprayed_24 : decode cX3_sprayed 24 = .ok (.invokevirtual 40, 3) := by decide +kernel
theorem dX3_sprayed_27 : decode cX3_sprayed 27 = .ok (.invokevirtual 51, 3) := by decide +kernel
theorem dX3_sprayed_30 : decode cX3_sprayed 30 = .ok (.iconst 0, 1) := by decide +kernel
theorem dX3_sprayed_31 : decode cX3_sprayed 31 = .ok (.istore_n 2, 1) := by decide +kernel
theorem dX3_sprayed_32 : decode cX3_sprayed 32 = .ok (.iload_n 2, 1) := by decide +kernel
theorem dX3_sprayed_33 : decode cX3_sprayed 33 = .ok (.aload_n 1, 1) := by decide +kernel
theorem dX3_sprayed_34 : decode cX3_sprayed 34 = .ok (.getfield 54, 3) := by decide +kernel
theorem dX3_sprayed_37 : decode cX3_sprayed 37 = .ok (.if_icmp .ge 38, 3) := by decide +kernel
theorem dX3_sprayed_40 : decode cX3_sprayed 40 = .ok (.aload_n 0, 1) := by decide +kernel
theorem dX3_sprayed_41 : decode cX3_sprayed 41 = .ok (.getfield 9, 3) := by decide +kernel
theorem dX3_sprayed_44 : decode cX3_sprayed 44 = .ok (.iload_n 2, 1) := by decide +kernel
theorem dX3_sprayed_45 : decode cX3_sprayed 45 = .ok (.putfield 66, 3) := by decide +kernel
theorem dX3_sprayed_48 : decode cX3_sprayed 48 = .ok (.aload_n 0, 1) := by decide +kernel
theorem dX3_sprayed_49 : decode cX3_sprayed 49 = .ok (.getfield 9, 3) := by decide +kernel
theorem dX3_sprayed_52 : decode cX3_sprayed 52 = .ok (.aload_n 1, 1) := by decide +kernel
theorem dX3_sprayed_53 : decode cX3_sprayed 53 = .ok (.invokevirtual 32, 3) := by decide +kernel
theorem dX3_sprayed_56 : decode cX3_sprayed 56 = .ok (.aload_n 0, 1) := by decide +kernel
theorem dX3_sprayed_57 : decode cX3_sprayed 57 = .ok (.iload_n 2, 1) := by decide +kernel
theorem dX3_sprayed_58 : decode cX3_sprayed 58 = .ok (.aload_n 0, 1) := by decide +kernel
theorem dX3_sprayed_59 : decode cX3_sprayed 59 = .ok (.getfield 9, 3) := by decide +kernel
theorem dX3_sprayed_62 : decode cX3_sprayed 62 = .ok (.aload_n 1, 1) := by decide +kernel
theorem dX3_sprayed_63 : decode cX3_sprayed 63 = .ok (.invokevirtual 40, 3) := by decide +kernel
theorem dX3_sprayed_66 : decode cX3_sprayed 66 = .ok (.invokevirtual 63, 3) := by decide +kernel
theorem dX3_sprayed_69 : decode cX3_sprayed 69 = .ok (.iinc 2 1, 3) := by decide +kernel
theorem dX3_sprayed_72 : decode cX3_sprayed 72 = .ok (.goto (-40), 3) := by decide +kernel
theorem dX3_sprayed_75 : decode cX3_sprayed 75 = .ok (.aload_n 0, 1) := by decide +kernel
theorem dX3_sprayed_76 : decode cX3_sprayed 76 = .ok (.getfield 9, 3) := by decide +kernel
theorem dX3_sprayed_79 : decode cX3_sprayed 79 = .ok (.iconst (-1), 1) := by decide +kernel
theorem dX3_sprayed_80 : decode cX3_sprayed 80 = .ok (.putfield 66, 3) := by decide +kernel
theorem dX3_sprayed_83 : decode cX3_sprayed 83 = .ok (.return_, 1) := by decide +kernel
theorem dX3_setting_0 : decode cX3_setting 0 = .ok (.aload_n 0, 1) := by decide +kernel
theorem dX3_setting_1 : decode cX3_setting 1 = .ok (.ldc 69, 2) := by decide +kernel
theorem dX3_setting_3 : decode cX3_setting 3 = .ok (.invokevirtual 51, 3) := by decide +kernel
theorem dX3_setting_6 : decode cX3_setting 6 = .ok (.aload_n 0, 1) := by decide +kernel
theorem dX3_setting_7 : decode cX3_setting 7 = .ok (.getfield 15, 3) := by decide +kernel
theorem dX3_setting_10 : decode cX3_setting 10 = .ok (.aload_n 1, 1) := by decide +kernel
theorem dX3_setting_11 : decode cX3_setting 11 = .ok (.invokevirtual 70, 3) := by decide +kernel
theorem dX3_setting_14 : decode cX3_setting 14 = .ok (.iconst 0, 1) := by decide +kernel
theorem dX3_setting_15 : decode cX3_setting 15 = .ok (.istore_n 3, 1) := by decide +kernel
theorem dX3_setting_16 : decode cX3_setting 16 = .ok (.iload_n 3, 1) := by decide +kernel
theorem dX3_setting_17 : decode cX3_setting 17 = .ok (.getstatic 73, 3) := by decide +kernel
theorem dX3_setting_20 : decode cX3_setting 20 = .ok (.iload_n 2, 1) := by decide +kernel
theorem dX3_setting_21 : decode cX3_setting 21 = .ok (.iaload, 1) := by decide +kernel
theorem dX3_setting_22 : decode cX3_setting 22 = .ok (.if_icmp .gt 59, 3) := by decide +kernel
theorem dX3_setting_25 : decode cX3_setting 25 = .ok (.aload_n 0, 1) := by decide +kernel
theorem dX3_setting_26 : decode cX3_setting 26 = .ok (.getfield 15, 3) := by decide +kernel
theorem dX3_setting_29 : decode cX3_setting 29 = .ok (.iload_n 2, 1) := by decide +kernel
theorem dX3_setting_30 : decode cX3_setting 30 = .ok (.iconst 0, 1) := by decide +kernel
theorem dX3_setting_31 : decode cX3_setting 31 = .ok (.iload_n 3, 1) := by decide +kernel
theorem dX3_setting_32 : decode cX3_setting 32 = .ok (.invokevirtual 77, 3) := by decide +kernel
theorem dX3_setting_35 : decode cX3_setting 35 = .ok (.aload_n 0, 1) := by decide +kernel
theorem dX3_setting_36 : decode cX3_setting 36 = .ok (.getfield 9, 3) := by decide +kernel
theorem dX3_setting_39 : decode cX3_setting 39 = .ok (.aload_n 0, 1) := by decide +kernel
theorem dX3_setting_40 : decode cX3_setting 40 = .ok (.getfield 15, 3) := by decide +kernel
theorem dX3_setting_43 : decode cX3_setting 43 = .ok (.bipush 127, 2) := by decide +kernel
theorem dX3_setting_45 : decode cX3_setting 45 = .ok (.invokevirtual 26, 3) := by decide +kernel
theorem dX3_setting_48 : decode cX3_setting 48 = .ok (.aload_n 0, 1) := by decide +kernel
theorem dX3_setting_49 : decode cX3_setting 49 = .ok (.getfield 9, 3) := by decide +kernel
theorem dX3_setting_52 : decode cX3_setting 52 = .ok (.aload_n 0, 1) := by decide +kernel
theorem dX3_setting_53 : decode cX3_setting 53 = .ok (.getfield 15, 3) := by decide +kernel
theorem dX3_setting_56 : decode cX3_setting 56 = .ok (.invokevirtual 32, 3) := by decide +kernel
theorem dX3_setting_59 : decode cX3_setting 59 = .ok (.aload_n 0, 1) := by decide +kernel
theorem dX3_setting_60 : decode cX3_setting 60 = .ok (.iload_n 3, 1) := by decide +kernel
theorem dX3_setting_61 : decode cX3_setting 61 = .ok (.aload_n 0, 1) := by decide +kernel
theorem dX3_setting_62 : decode cX3_setting 62 = .ok (.getfield 9, 3) := by decide +kernel
theorem dX3_setting_65 : decode cX3_setting 65 = .ok (.aload_n 0, 1) := by decide +kernel
theorem dX3_setting_66 : decode cX3_setting 66 = .ok (.getfield 15, 3) := by decide +kernel
theorem dX3_setting_69 : decode cX3_setting 69 = .ok (.invokevirtual 40, 3) := by decide +kernel
theorem dX3_setting_72 : decode cX3_setting 72 = .ok (.invokevirtual 63, 3) := by decide +kernel
theorem dX3_setting_75 : decode cX3_setting 75 = .ok (.iinc 3 1, 3) := by decide +kernel
theorem dX3_setting_78 : decode cX3_setting 78 = .ok (.goto (-62), 3) := by decide +kernel
theorem dX3_setting_81 : decode cX3_setting 81 = .ok (.return_, 1) := by decide +kernel
theorem dX3_fewest_0 : decode cX3_fewest 0 = .ok (.iconst (-1), 1) := by decide +kernel
theorem dX3_fewest_1 : decode cX3_fewest 1 = .ok (.istore_n 3, 1) := by decide +kernel
theorem dX3_fewest_2 : decode cX3_fewest 2 = .ok (.bipush 8, 2) := by decide +kernel
theorem dX3_fewest_4 : decode cX3_fewest 4 = .ok (.istore 4, 2) := by decide +kernel
theorem dX3_fewest_6 : decode cX3_fewest 6 = .ok (.iconst 0, 1) := by decide +kernel
theorem dX3_fewest_7 : decode cX3_fewest 7 = .ok (.istore 5, 2) := by decide +kernel
theorem dX3_fewest_9 : decode cX3_fewest 9 = .ok (.iload 5, 2) := by decide +kernel
theorem dX3_fewest_11 : decode cX3_fewest 11 = .ok (.iconst 1, 1) := by decide +kernel
theorem dX3_fewest_12 : decode cX3_fewest 12 = .ok (.aload_n 1, 1) := by decide +kernel
theorem dX3_fewest_13 : decode cX3_fewest 13 = .ok (.getfield 54, 3) := by decide +kernel
theorem dX3_fewest_16 : decode cX3_fewest 16 = .ok (.ishl, 1) := by decide +kernel
theorem dX3_fewest_17 : decode cX3_fewest 17 = .ok (.if_icmp .ge 60, 3) := by decide +kernel
theorem dX3_fewest_20 : decode cX3_fewest 20 = .ok (.iload 5, 2) := by decide +kernel
theorem dX3_fewest_22 : decode cX3_fewest 22 = .ok (.invokestatic 81, 3) := by decide +kernel
theorem dX3_fewest_25 : decode cX3_fewest 25 = .ok (.istore 6, 2) := by decide +kernel
theorem dX3_fewest_27 : decode cX3_fewest 27 = .ok (.iload 6, 2) := by decide +kernel
theorem dX3_fewest_29 : decode cX3_fewest 29 = .ok (.iload 4, 2) := by decide +kernel
theorem dX3_fewest_31 : decode cX3_fewest 31 = .ok (.if_icmp .ge 40, 3) := by decide +kernel
theorem dX3_fewest_34 : decode cX3_fewest 34 = .ok (.aload_n 0, 1) := by decide +kernel
theorem dX3_fewest_35 : decode cX3_fewest 35 = .ok (.getfield 9, 3) := by decide +kernel
theorem dX3_fewest_38 : decode cX3_fewest 38 = .ok (.aload_n 1, 1) := by decide +kernel
theorem dX3_fewest_39 : decode cX3_fewest 39 = .ok (.iload 5, 2) := by decide +kernel
theorem dX3_fewest_41 : decode cX3_fewest 41 = .ok (.invokevirtual 26, 3) := by decide +kernel
theorem dX3_fewest_44 : decode cX3_fewest 44 = .ok (.aload_n 0, 1) := by decide +kernel
theorem dX3_fewest_45 : decode cX3_fewest 45 = .ok (.getfield 9, 3) := by decide +kernel
theorem dX3_fewest_48 : decode cX3_fewest 48 = .ok (.aload_n 1, 1) := by decide +kernel
theorem dX3_fewest_49 : decode cX3_fewest 49 = .ok (.invokevirtual 32, 3) := by decide +kernel
theorem dX3_fewest_52 : decode cX3_fewest 52 = .ok (.aload_n 0, 1) := by decide +kernel
theorem dX3_fewest_53 : decode cX3_fewest 53 = .ok (.getfield 9, 3) := by decide +kernel
theorem dX3_fewest_56 : decode cX3_fewest 56 = .ok (.aload_n 1, 1) := by decide +kernel
theorem dX3_fewest_57 : decode cX3_fewest 57 = .ok (.invokevirtual 40, 3) := by decide +kernel
theorem dX3_fewest_60 : decode cX3_fewest 60 = .ok (.iload_n 2, 1) := by decide +kernel
theorem dX3_fewest_61 : decode cX3_fewest 61 = .ok (.if_icmp .gt 10, 3) := by decide +kernel
theorem dX3_fewest_64 : decode cX3_fewest 64 = .ok (.iload 5, 2) := by decide +kernel
theorem dX3_fewest_66 : decode cX3_fewest 66 = .ok (.istore_n 3, 1) := by decide +kernel
theorem dX3_fewest_67 : decode cX3_fewest 67 = .ok (.iload 6, 2) := by decide +kernel
theorem dX3_fewest_69 : decode cX3_fewest 69 = .ok (.istore 4, 2) := by decide +kernel
theorem dX3_fewest_71 : decode cX3_fewest 71 = .ok (.iinc 5 1, 3) := by decide +kernel
theorem dX3_fewest_74 : decode cX3_fewest 74 = .ok (.goto (-65), 3) := by decide +kernel
theorem dX3_fewest_77 : decode cX3_fewest 77 = .ok (.iload_n 3, 1) := by decide +kernel
theorem dX3_fewest_78 : decode cX3_fewest 78 = .ok (.ireturn, 1) := by decide +kernel
theorem dX4_init_0 : decode cX4_init 0 = .ok (.aload_n 0, 1) := by decide +kernel
theorem dX4_init_1 : decode cX4_init 1 = .ok (.invokespecial 1, 3) := by decide +kernel
theorem dX4_init_4 : decode cX4_init 4 = .ok (.aload_n 0, 1) := by decide +kernel
theorem dX4_init_5 : decode cX4_init 5 = .ok (.iconst 4, 1) := by decide +kernel
theorem dX4_init_6 : decode cX4_init 6 = .ok (.newarray .int, 2) := by decide +kernel
theorem dX4_init_8 : decode cX4_init 8 = .ok (.dup, 1) := by decide +kernel
theorem dX4_init_9 : decode cX4_init 9 = .ok (.iconst 0, 1) := by decide +kernel
theorem dX4_init_10 : decode cX4_init 10 = .ok (.iconst (-1), 1) := by decide +kernel
theorem dX4_init_11 : decode cX4_init 11 = .ok (.iastore, 1) := by decide +kernel
theorem dX4_init_12 : decode cX4_init 12 = .ok (.dup, 1) := by decide +kernel
theorem dX4_init_13 : decode cX4_init 13 = .ok (.iconst 1, 1) := by decide +kernel
theorem dX4_init_14 : decode cX4_init 14 = .ok (.iconst (-1), 1) := by decide +kernel
theorem dX4_init_15 : decode cX4_init 15 = .ok (.iastore, 1) := by decide +kernel
theorem dX4_init_16 : decode cX4_init 16 = .ok (.dup, 1) := by decide +kernel
theorem dX4_init_17 : decode cX4_init 17 = .ok (.iconst 2, 1) := by decide +kernel
theorem dX4_init_18 : decode cX4_init 18 = .ok (.iconst (-1), 1) := by decide +kernel
theorem dX4_init_19 : decode cX4_init 19 = .ok (.iastore, 1) := by decide +kernel
theorem dX4_init_20 : decode cX4_init 20 = .ok (.dup, 1) := by decide +kernel
theorem dX4_init_21 : decode cX4_init 21 = .ok (.iconst 3, 1) := by decide +kernel
theorem dX4_init_22 : decode cX4_init 22 = .ok (.iconst (-1), 1) := by decide +kernel
theorem dX4_init_23 : decode cX4_init 23 = .ok (.iastore, 1) := by decide +kernel
theorem dX4_init_24 : decode cX4_init 24 = .ok (.putfield 9, 3) := by decide +kernel
theorem dX4_init_27 : decode cX4_init 27 = .ok (.aload_n 0, 1) := by decide +kernel
theorem dX4_init_28 : decode cX4_init 28 = .ok (.iconst 4, 1) := by decide +kernel
theorem dX4_init_29 : decode cX4_init 29 = .ok (.newarray .int, 2) := by decide +kernel
theorem dX4_init_31 : decode cX4_init 31 = .ok (.putfield 13, 3) := by decide +kernel
theorem dX4_init_34 : decode cX4_init 34 = .ok (.aload_n 0, 1) := by decide +kernel
theorem dX4_init_35 : decode cX4_init 35 = .ok (.iconst 4, 1) := by decide +kernel
theorem dX4_init_36 : decode cX4_init 36 = .ok (.bipush 40, 2) := by decide +kernel
theorem dX4_init_38 : decode cX4_init 38 = .ok (.multianewarray 16 2, 4) := by decide +kernel
theorem dX4_init_42 : decode cX4_init 42 = .ok (.putfield 18, 3) := by decide +kernel
theorem dX4_init_45 : decode cX4_init 45 = .ok (.return_, 1) := by decide +kernel
theorem dX4_has_0 : decode cX4_has 0 = .ok (.iload_n 1, 1) := by decide +kernel
theorem dX4_has_1 : decode cX4_has 1 = .ok (.ifCond .lt 12, 3) := by decide +kernel
theorem dX4_has_4 : decode cX4_has 4 = .ok (.iload_n 1, 1) := by decide +kernel
theorem dX4_has_5 : decode cX4_has 5 = .ok (.iconst 4, 1) := by decide +kernel
theorem dX4_has_6 : decode cX4_has 6 = .ok (.if_icmp .ge 7, 3) := by decide +kernel
theorem dX4_has_9 : decode cX4_has 9 = .ok (.iconst 1, 1) := by decide +kernel
theorem dX4_has_10 : decode cX4_has 10 = .ok (.goto 4, 3) := by decide +kernel
theorem dX4_has_13 : decode cX4_has 13 = .ok (.iconst 0, 1) := by decide +kernel
theorem dX4_has_14 : decode cX4_has 14 = .ok (.ireturn, 1) := by decide +kernel
theorem dX4_isMissing_0 : decode cX4_isMissing 0 = .ok (.aload_n 0, 1) := by decide +kernel
theorem dX4_isMissing_1 : decode cX4_isMissing 1 = .ok (.getfield 9, 3) := by decide +kernel
theorem dX4_isMissing_4 : decode cX4_isMissing 4 = .ok (.iload_n 1, 1) := by decide +kernel
theorem dX4_isMissing_5 : decode cX4_isMissing 5 = .ok (.iaload, 1) := by decide +kernel
theorem dX4_isMissing_6 : decode cX4_isMissing 6 = .ok (.iconst (-1), 1) := by decide +kernel
theorem dX4_isMissing_7 : decode cX4_isMissing 7 = .ok (.if_icmp .ne 7, 3) := by decide +kernel
theorem dX4_isMissing_10 : decode cX4_isMissing 10 = .ok (.iconst 1, 1) := by decide +kernel
theorem dX4_isMissing_11 : decode cX4_isMissing 11 = .ok (.goto 4, 3) := by decide +kernel
theorem dX4_isMissing_14 : decode cX4_isMissing 14 = .ok (.iconst 0, 1) := by decide +kernel
theorem dX4_isMissing_15 : decode cX4_isMissing 15 = .ok (.ireturn, 1) := by decide +kernel
theorem dX4_hasItem_0 : decode cX4_hasItem 0 = .ok (.iload_n 2, 1) := by decide +kernel
theorem dX4_hasItem_1 : decode cX4_hasItem 1 = .ok (.ifCond .lt 17, 3) := by decide +kernel
theorem dX4_hasItem_4 : decode cX4_hasItem 4 = .ok (.iload_n 2, 1) := by decide +kernel
theorem dX4_hasItem_5 : decode cX4_hasItem 5 = .ok (.aload_n 0, 1) := by decide +kernel
theorem dX4_hasItem_6 : decode cX4_hasItem 6 = .ok (.getfield 13, 3) := by decide +kernel
theorem dX4_hasItem_9 : decode cX4_hasItem 9 = .ok (.iload_n 1, 1) := by decide +kernel
theorem dX4_hasItem_10 : decode cX4_hasItem 10 = .ok (.iaload, 1) := by decide +kernel
theorem dX4_hasItem_11 : decode cX4_hasItem 11 = .ok (.if_icmp .ge 7, 3) := by decide +kernel
theorem dX4_hasItem_14 : decode cX4_hasItem 14 = .ok (.iconst 1, 1) := by decide +kernel
theorem dX4_hasItem_15 : decode cX4_hasItem 15 = .ok (.goto 4, 3) := by decide +kernel
theorem dX4_hasItem_18 : decode cX4_hasItem 18 = .ok (.iconst 0, 1) := by decide +kernel
theorem dX4_hasItem_19 : decode cX4_hasItem 19 = .ok (.ireturn, 1) := by decide +kernel
theorem dX4_hasItems_0 : decode cX4_hasItems 0 = .ok (.iload_n 2, 1) := by decide +kernel
theorem dX4_hasItems_1 : decode cX4_hasItems 1 = .ok (.ifCond .lt 33, 3) := by decide +kernel
theorem dX4_hasItems_4 : decode cX4_hasItems 4 = .ok (.iload_n 3, 1) := by decide +kernel
theorem dX4_hasItems_5 : decode cX4_hasItems 5 = .ok (.ifCond .lt 29, 3) := by decide +kernel
theorem dX4_hasItems_8 : decode cX4_hasItems 8 = .ok (.iload_n 3, 1) := by decide +kernel
theorem dX4_hasItems_9 : decode cX4_hasItems 9 = .ok (.aload_n 0, 1) := by decide +kernel
theorem dX4_hasItems_10 : decode cX4_hasItems 10 = .ok (.getfield 13, 3) := by decide +kernel
theorem dX4_hasItems_13 : decode cX4_hasItems 13 = .ok (.iload_n 1, 1) := by decide +kernel
theorem dX4_hasItems_14 : decode cX4_hasItems 14 = .ok (.iaload, 1) := by decide +kernel
theorem dX4_hasItems_15 : decode cX4_hasItems 15 = .ok (.if_icmp .gt 19, 3) := by decide +kernel
theorem dX4_hasItems_18 : decode cX4_hasItems 18 = .ok (.iload_n 2, 1) := by decide +kernel
theorem dX4_hasItems_19 : decode cX4_hasItems 19 = .ok (.aload_n 0, 1) := by decide +kernel
theorem dX4_hasItems_20 : decode cX4_hasItems 20 = .ok (.getfield 13, 3) := by decide +kernel
theorem dX4_hasItems_23 : decode cX4_hasItems 23 = .ok (.iload_n 1, 1) := by decide +kernel
theorem dX4_hasItems_24 : decode cX4_hasItems 24 = .ok (.iaload, 1) := by decide +kernel
theorem dX4_hasItems_25 : decode cX4_hasItems 25 = .ok (.iload_n 3, 1) := by decide +kernel
theorem dX4_hasItems_26 : decode cX4_hasItems 26 = .ok (.isub, 1) := by decide +kernel
theorem dX4_hasItems_27 : decode cX4_hasItems 27 = .ok (.if_icmp .gt 7, 3) := by decide +kernel
theorem dX4_hasItems_30 : decode cX4_hasItems 30 = .ok (.iconst 1, 1) := by decide +kernel
theorem dX4_hasItems_31 : decode cX4_hasItems 31 = .ok (.goto 4, 3) := by decide +kernel
theorem dX4_hasItems_34 : decode cX4_hasItems 34 = .ok (.iconst 0, 1) := by decide +kernel
theorem dX4_hasItems_35 : decode cX4_hasItems 35 = .ok (.ireturn, 1) := by decide +kernel
theorem dX4_become_0 : decode cX4_become 0 = .ok (.aload_n 0, 1) := by decide +kernel
theorem dX4_become_1 : decode cX4_become 1 = .ok (.getfield 9, 3) := by decide +kernel
theorem dX4_become_4 : decode cX4_become 4 = .ok (.iload_n 1, 1) := by decide +kernel
theorem dX4_become_5 : decode cX4_become 5 = .ok (.iload_n 2, 1) := by decide +kernel
theorem dX4_become_6 : decode cX4_become 6 = .ok (.iastore, 1) := by decide +kernel
theorem dX4_become_7 : decode cX4_become 7 = .ok (.aload_n 0, 1) := by decide +kernel
theorem dX4_become_8 : decode cX4_become 8 = .ok (.getfield 13, 3) := by decide +kernel
theorem dX4_become_11 : decode cX4_become 11 = .ok (.iload_n 1, 1) := by decide +kernel
theorem dX4_become_12 : decode cX4_become 12 = .ok (.iload_n 3, 1) := by decide +kernel
theorem dX4_become_13 : decode cX4_become 13 = .ok (.iastore, 1) := by decide +kernel
theorem dX4_become_14 : decode cX4_become 14 = .ok (.aload_n 0, 1) := by decide +kernel
theorem dX4_become_15 : decode cX4_become 15 = .ok (.getfield 18, 3) := by decide +kernel
theorem dX4_become_18 : decode cX4_become 18 = .ok (.iload_n 1, 1) := by decide +kernel
theorem dX4_become_19 : decode cX4_become 19 = .ok (.aaload, 1) := by decide +kernel
theorem dX4_become_20 : decode cX4_become 20 = .ok (.iconst 0, 1) := by decide +kernel
theorem dX4_become_21 : decode cX4_become 21 = .ok (.invokestatic 21, 3) := by decide +kernel
theorem dX4_become_24 : decode cX4_become 24 = .ok (.return_, 1) := by decide +kernel
theorem dX4_put_0 : decode cX4_put 0 = .ok (.aload_n 0, 1) := by decide +kernel
theorem dX4_put_1 : decode cX4_put 1 = .ok (.getfield 9, 3) := by decide +kernel
theorem dX4_put_4 : decode cX4_put 4 = .ok (.iload_n 1, 1) := by decide +kernel
theorem dX4_put_5 : decode cX4_put 5 = .ok (.iaload, 1) := by decide +kernel
theorem dX4_put_6 : decode cX4_put 6 = .ok (.ifCond .ne 8, 3) := by decide +kernel
theorem dX4_put_9 : decode cX4_put 9 = .ok (.iload_n 3, 1) := by decide +kernel
theorem dX4_put_10 : decode cX4_put 10 = .ok (.i2b, 1) := by decide +kernel
theorem dX4_put_11 : decode cX4_put 11 = .ok (.goto 4, 3) := by decide +kernel
theorem dX4_put_14 : decode cX4_put 14 = .ok (.iload_n 3, 1) := by decide +kernel
theorem dX4_put_15 : decode cX4_put 15 = .ok (.istore 4, 2) := by decide +kernel
theorem dX4_put_17 : decode cX4_put 17 = .ok (.aload_n 0, 1) := by decide +kernel
theorem dX4_put_18 : decode cX4_put 18 = .ok (.getfield 18, 3) := by decide +kernel
theorem dX4_put_21 : decode cX4_put 21 = .ok (.iload_n 1, 1) := by decide +kernel
theorem dX4_put_22 : decode cX4_put 22 = .ok (.aaload, 1) := by decide +kernel
theorem dX4_put_23 : decode cX4_put 23 = .ok (.iload_n 2, 1) := by decide +kernel
theorem dX4_put_24 : decode cX4_put 24 = .ok (.aload_n 0, 1) := by decide +kernel
theorem dX4_put_25 : decode cX4_put 25 = .ok (.getfield 9, 3) := by decide +kernel
theorem dX4_put_28 : decode cX4_put 28 = .ok (.iload_n 1, 1) := by decide +kernel
theorem dX4_put_29 : decode cX4_put 29 = .ok (.iaload, 1) := by decide +kernel
theorem dX4_put_30 : decode cX4_put 30 = .ok (.iconst 1, 1) := by decide +kernel
theorem dX4_put_31 : decode cX4_put 31 = .ok (.if_icmp .ne 8, 3) := by decide +kernel
theorem dX4_put_34 : decode cX4_put 34 = .ok (.iload_n 3, 1) := by decide +kernel
theorem dX4_put_35 : decode cX4_put 35 = .ok (.i2s, 1) := by decide +kernel
theorem dX4_put_36 : decode cX4_put 36 = .ok (.goto 5, 3) := by decide +kernel
theorem dX4_put_39 : decode cX4_put 39 = .ok (.iload 4, 2) := by decide +kernel
theorem dX4_put_41 : decode cX4_put 41 = .ok (.iastore, 1) := by decide +kernel
theorem dX4_put_42 : decode cX4_put 42 = .ok (.return_, 1) := by decide +kernel
theorem dX5_init_0 : decode cX5_init 0 = .ok (.aload_n 0, 1) := by decide +kernel
theorem dX5_init_1 : decode cX5_init 1 = .ok (.invokespecial 3, 3) := by decide +kernel
theorem dX5_init_4 : decode cX5_init 4 = .ok (.aload_n 0, 1) := by decide +kernel
theorem dX5_init_5 : decode cX5_init 5 = .ok (.iconst 5, 1) := by decide +kernel
theorem dX5_init_6 : decode cX5_init 6 = .ok (.putfield 9, 3) := by decide +kernel
theorem dX5_init_9 : decode cX5_init 9 = .ok (.aload_n 0, 1) := by decide +kernel
theorem dX5_init_10 : decode cX5_init 10 = .ok (.bipush 40, 2) := by decide +kernel
theorem dX5_init_12 : decode cX5_init 12 = .ok (.putfield 15, 3) := by decide +kernel
theorem dX5_init_15 : decode cX5_init 15 = .ok (.aload_n 0, 1) := by decide +kernel
theorem dX5_init_16 : decode cX5_init 16 = .ok (.bipush 7, 2) := by decide +kernel
theorem dX5_init_18 : decode cX5_init 18 = .ok (.newarray .int, 2) := by decide +kernel
theorem dX5_init_20 : decode cX5_init 20 = .ok (.putfield 18, 3) := by decide +kernel
theorem dX5_init_23 : decode cX5_init 23 = .ok (.aload_n 0, 1) := by decide +kernel
theorem dX5_init_24 : decode cX5_init 24 = .ok (.bipush 7, 2) := by decide +kernel
theorem dX5_init_26 : decode cX5_init 26 = .ok (.newarray .int, 2) := by decide +kernel
theorem dX5_init_28 : decode cX5_init 28 = .ok (.putfield 22, 3) := by decide +kernel
theorem dX5_init_31 : decode cX5_init 31 = .ok (.aload_n 0, 1) := by decide +kernel
theorem dX5_init_32 : decode cX5_init 32 = .ok (.bipush 7, 2) := by decide +kernel
theorem dX5_init_34 : decode cX5_init 34 = .ok (.newarray .int, 2) := by decide +kernel
theorem dX5_init_36 : decode cX5_init 36 = .ok (.putfield 25, 3) := by decide +kernel
theorem dX5_init_39 : decode cX5_init 39 = .ok (.aload_n 0, 1) := by decide +kernel
theorem dX5_init_40 : decode cX5_init 40 = .ok (.bipush 7, 2) := by decide +kernel
theorem dX5_init_42 : decode cX5_init 42 = .ok (.newarray .int, 2) := by decide +kernel
theorem dX5_init_44 : decode cX5_init 44 = .ok (.putfield 28, 3) := by decide +kernel
theorem dX5_init_47 : decode cX5_init 47 = .ok (.return_, 1) := by decide +kernel
theorem dX5_has_0 : decode cX5_has 0 = .ok (.iload_n 1, 1) := by decide +kernel
theorem dX5_has_1 : decode cX5_has 1 = .ok (.ifCond .lt 15, 3) := by decide +kernel
theorem dX5_has_4 : decode cX5_has 4 = .ok (.iload_n 1, 1) := by decide +kernel
theorem dX5_has_5 : decode cX5_has 5 = .ok (.aload_n 0, 1) := by decide +kernel
theorem dX5_has_6 : decode cX5_has 6 = .ok (.getfield 31, 3) := by decide +kernel
theorem dX5_has_9 : decode cX5_has 9 = .ok (.if_icmp .ge 7, 3) := by decide +kernel
theorem dX5_has_12 : decode cX5_has 12 = .ok (.iconst 1, 1) := by decide +kernel
theorem dX5_has_13 : decode cX5_has 13 = .ok (.goto 4, 3) := by decide +kernel
theorem dX5_has_16 : decode cX5_has 16 = .ok (.iconst 0, 1) := by decide +kernel
theorem dX5_has_17 : decode cX5_has 17 = .ok (.ireturn, 1) := by decide +kernel
theorem dX5_add_0 : decode cX5_add 0 = .ok (.aload_n 0, 1) := by decide +kernel
theorem dX5_add_1 : decode cX5_add 1 = .ok (.getfield 31, 3) := by decide +kernel
theorem dX5_add_4 : decode cX5_add 4 = .ok (.bipush 7, 2) := by decide +kernel
theorem dX5_add_6 : decode cX5_add 6 = .ok (.if_icmp .lt 5, 3) := by decide +kernel
theorem dX5_add_9 : decode cX5_add 9 = .ok (.iconst 0, 1) := by decide +kernel
theorem dX5_add_10 : decode cX5_add 10 = .ok (.ireturn, 1) := by decide +kernel
theorem dX5_add_11 : decode cX5_add 11 = .ok (.aload_n 0, 1) := by decide +kernel
theorem dX5_add_12 : decode cX5_add 12 = .ok (.getfield 18, 3) := by decide +kernel
theorem dX5_add_15 : decode cX5_add 15 = .ok (.aload_n 0, 1) := by decide +kernel
theorem dX5_add_16 : decode cX5_add 16 = .ok (.getfield 31, 3) := by decide +kernel
theorem dX5_add_19 : decode cX5_add 19 = .ok (.iload_n 1, 1) := by decide +kernel
theorem dX5_add_20 : decode cX5_add 20 = .ok (.iastore, 1) := by decide +kernel
theorem dX5_add_21 : decode cX5_add 21 = .ok (.aload_n 0, 1) := by decide +kernel
theorem dX5_add_22 : decode cX5_add 22 = .ok (.getfield 22, 3) := by decide +kernel
theorem dX5_add_25 : decode cX5_add 25 = .ok (.aload_n 0, 1) := by decide +kernel
theorem dX5_add_26 : decode cX5_add 26 = .ok (.getfield 31, 3) := by decide +kernel
theorem dX5_add_29 : decode cX5_add 29 = .ok (.iload_n 2, 1) := by decide +kernel
theorem dX5_add_30 : decode cX5_add 30 = .ok (.iastore, 1) := by decide +kernel
theorem dX5_add_31 : decode cX5_add 31 = .ok (.aload_n 0, 1) := by decide +kernel
theorem dX5_add_32 : decode cX5_add 32 = .ok (.getfield 25, 3) := by decide +kernel
theorem dX5_add_35 : decode cX5_add 35 = .ok (.aload_n 0, 1) := by decide +kernel
theorem dX5_add_36 : decode cX5_add 36 = .ok (.getfield 31, 3) := by decide +kernel
theorem dX5_add_39 : decode cX5_add 39 = .ok (.bipush 50, 2) := by decide +kernel
theorem dX5_add_41 : decode cX5_add 41 = .ok (.iastore, 1) := by decide +kernel
theorem dX5_add_42 : decode cX5_add 42 = .ok (.aload_n 0, 1) := by decide +kernel
theorem dX5_add_43 : decode cX5_add 43 = .ok (.getfield 28, 3) := by decide +kernel
theorem dX5_add_46 : decode cX5_add 46 = .ok (.aload_n 0, 1) := by decide +kernel
theorem dX5_add_47 : decode cX5_add 47 = .ok (.getfield 31, 3) := by decide +kernel
theorem dX5_add_50 : decode cX5_add 50 = .ok (.iconst 0, 1) := by decide +kernel
theorem dX5_add_51 : decode cX5_add 51 = .ok (.iastore, 1) := by decide +kernel
theorem dX5_add_52 : decode cX5_add 52 = .ok (.aload_n 0, 1) := by decide +kernel
theorem dX5_add_53 : decode cX5_add 53 = .ok (.dup, 1) := by decide +kernel
theorem dX5_add_54 : decode cX5_add 54 = .ok (.getfield 31, 3) := by decide +kernel
theorem dX5_add_57 : decode cX5_add 57 = .ok (.iconst 1, 1) := by decide +kernel
theorem dX5_add_58 : decode cX5_add 58 = .ok (.iadd, 1) := by decide +kernel
theorem dX5_add_59 : decode cX5_add 59 = .ok (.putfield 31, 3) := by decide +kernel
theorem dX5_add_62 : decode cX5_add 62 = .ok (.iconst 1, 1) := by decide +kernel
theorem dX5_add_63 : decode cX5_add 63 = .ok (.ireturn, 1) := by decide +kernel
theorem dX5_item_0 : decode cX5_item 0 = .ok (.iload_n 1, 1) := by decide +kernel
theorem dX5_item_1 : decode cX5_item 1 = .ok (.lookupswitch 50 #[(0, 35), (1, 40), (10, 45)], 35) := by decide +kernel
theorem dX5_item_36 : decode cX5_item 36 = .ok (.aload_n 0, 1) := by decide +kernel
theorem dX5_item_37 : decode cX5_item 37 = .ok (.getfield 9, 3) := by decide +kernel
theorem dX5_item_40 : decode cX5_item 40 = .ok (.ireturn, 1) := by decide +kernel
theorem dX5_item_41 : decode cX5_item 41 = .ok (.aload_n 0, 1) := by decide +kernel
theorem dX5_item_42 : decode cX5_item 42 = .ok (.getfield 15, 3) := by decide +kernel
theorem dX5_item_45 : decode cX5_item 45 = .ok (.ireturn, 1) := by decide +kernel
theorem dX5_item_46 : decode cX5_item 46 = .ok (.aload_n 0, 1) := by decide +kernel
theorem dX5_item_47 : decode cX5_item 47 = .ok (.getfield 34, 3) := by decide +kernel
theorem dX5_item_50 : decode cX5_item 50 = .ok (.ireturn, 1) := by decide +kernel
theorem dX5_item_51 : decode cX5_item 51 = .ok (.aload_n 0, 1) := by decide +kernel
theorem dX5_item_52 : decode cX5_item 52 = .ok (.iload_n 2, 1) := by decide +kernel
theorem dX5_item_53 : decode cX5_item 53 = .ok (.invokevirtual 37, 3) := by decide +kernel
theorem dX5_item_56 : decode cX5_item 56 = .ok (.ifCond .eq 12, 3) := by decide +kernel
theorem dX5_item_59 : decode cX5_item 59 = .ok (.aload_n 0, 1) := by decide +kernel
theorem dX5_item_60 : decode cX5_item 60 = .ok (.iload_n 1, 1) := by decide +kernel
theorem dX5_item_61 : decode cX5_item 61 = .ok (.iload_n 2, 1) := by decide +kernel
theorem dX5_item_62 : decode cX5_item 62 = .ok (.invokevirtual 41, 3) := by decide +kernel
theorem dX5_item_65 : decode cX5_item 65 = .ok (.goto 4, 3) := by decide +kernel
theorem dX5_item_68 : decode cX5_item 68 = .ok (.iconst (-1), 1) := by decide +kernel
theorem dX5_item_69 : decode cX5_item 69 = .ok (.ireturn, 1) := by decide +kernel
theorem dX5_itemOf_0 : decode cX5_itemOf 0 = .ok (.iload_n 1, 1) := by decide +kernel
theorem dX5_itemOf_1 : decode cX5_itemOf 1 = .ok (.tableswitch 48 2 4 #[27, 34, 41], 27) := by decide +kernel
theorem dX5_itemOf_28 : decode cX5_itemOf 28 = .ok (.aload_n 0, 1) := by decide +kernel
theorem dX5_itemOf_29 : decode cX5_itemOf 29 = .ok (.getfield 22, 3) := by decide +kernel
theorem dX5_itemOf_32 : decode cX5_itemOf 32 = .ok (.iload_n 2, 1) := by decide +kernel
theorem dX5_itemOf_33 : decode cX5_itemOf 33 = .ok (.iaload, 1) := by decide +kernel
theorem dX5_itemOf_34 : decode cX5_itemOf 34 = .ok (.ireturn, 1) := by decide +kernel
theorem dX5_itemOf_35 : decode cX5_itemOf 35 = .ok (.aload_n 0, 1) := by decide +kernel
theorem dX5_itemOf_36 : decode cX5_itemOf 36 = .ok (.getfield 25, 3) := by decide +kernel
theorem dX5_itemOf_39 : decode cX5_itemOf 39 = .ok (.iload_n 2, 1) := by decide +kernel
theorem dX5_itemOf_40 : decode cX5_itemOf 40 = .ok (.iaload, 1) := by decide +kernel
theorem dX5_itemOf_41 : decode cX5_itemOf 41 = .ok (.ireturn, 1) := by decide +kernel
theorem dX5_itemOf_42 : decode cX5_itemOf 42 = .ok (.aload_n 0, 1) := by decide +kernel
theorem dX5_itemOf_43 : decode cX5_itemOf 43 = .ok (.getfield 28, 3) := by decide +kernel
theorem dX5_itemOf_46 : decode cX5_itemOf 46 = .ok (.iload_n 2, 1) := by decide +kernel
theorem dX5_itemOf_47 : decode cX5_itemOf 47 = .ok (.iaload, 1) := by decide +kernel
theorem dX5_itemOf_48 : decode cX5_itemOf 48 = .ok (.ireturn, 1) := by decide +kernel
theorem dX5_itemOf_49 : decode cX5_itemOf 49 = .ok (.aload_n 0, 1) := by decide +kernel
theorem dX5_itemOf_50 : decode cX5_itemOf 50 = .ok (.getfield 18, 3) := by decide +kernel
theorem dX5_itemOf_53 : decode cX5_itemOf 53 = .ok (.iload_n 2, 1) := by decide +kernel
theorem dX5_itemOf_54 : decode cX5_itemOf 54 = .ok (.iaload, 1) := by decide +kernel
theorem dX5_itemOf_55 : decode cX5_itemOf 55 = .ok (.ireturn, 1) := by decide +kernel
theorem dX5_put_0 : decode cX5_put 0 = .ok (.iload_n 1, 1) := by decide +kernel
theorem dX5_put_1 : decode cX5_put 1 = .ok (.lookupswitch 59 #[(0, 35), (1, 43), (10, 51)], 35) := by decide +kernel
theorem dX5_put_36 : decode cX5_put 36 = .ok (.aload_n 0, 1) := by decide +kernel
theorem dX5_put_37 : decode cX5_put 37 = .ok (.iload_n 3, 1) := by decide +kernel
theorem dX5_put_38 : decode cX5_put 38 = .ok (.putfield 9, 3) := by decide +kernel
theorem dX5_put_41 : decode cX5_put 41 = .ok (.goto 34, 3) := by decide +kernel
theorem dX5_put_44 : decode cX5_put 44 = .ok (.aload_n 0, 1) := by decide +kernel
theorem dX5_put_45 : decode cX5_put 45 = .ok (.iload_n 3, 1) := by decide +kernel
theorem dX5_put_46 : decode cX5_put 46 = .ok (.putfield 15, 3) := by decide +kernel
theorem dX5_put_49 : decode cX5_put 49 = .ok (.goto 26, 3) := by decide +kernel
theorem dX5_put_52 : decode cX5_put 52 = .ok (.aload_n 0, 1) := by decide +kernel
theorem dX5_put_53 : decode cX5_put 53 = .ok (.iload_n 3, 1) := by decide +kernel
theorem dX5_put_54 : decode cX5_put 54 = .ok (.putfield 34, 3) := by decide +kernel
theorem dX5_put_57 : decode cX5_put 57 = .ok (.goto 18, 3) := by decide +kernel
theorem dX5_put_60 : decode cX5_put 60 = .ok (.aload_n 0, 1) := by decide +kernel
theorem dX5_put_61 : decode cX5_put 61 = .ok (.iload_n 2, 1) := by decide +kernel
theorem dX5_put_62 : decode cX5_put 62 = .ok (.invokevirtual 37, 3) := by decide +kernel
theorem dX5_put_65 : decode cX5_put 65 = .ok (.ifCond .eq 10, 3) := by decide +kernel
theorem dX5_put_68 : decode cX5_put 68 = .ok (.aload_n 0, 1) := by decide +kernel
theorem dX5_put_69 : decode cX5_put 69 = .ok (.iload_n 1, 1) := by decide +kernel
theorem dX5_put_70 : decode cX5_put 70 = .ok (.iload_n 2, 1) := by decide +kernel
theorem dX5_put_71 : decode cX5_put 71 = .ok (.iload_n 3, 1) := by decide +kernel
theorem dX5_put_72 : decode cX5_put 72 = .ok (.invokevirtual 45, 3) := by decide +kernel
theorem dX5_put_75 : decode cX5_put 75 = .ok (.return_, 1) := by decide +kernel
theorem dX5_putOf_0 : decode cX5_putOf 0 = .ok (.iload_n 1, 1) := by decide +kernel
theorem dX5_putOf_1 : decode cX5_putOf 1 = .ok (.tableswitch 57 2 4 #[27, 37, 47], 27) := by decide +kernel
theorem dX5_putOf_28 : decode cX5_putOf 28 = .ok (.aload_n 0, 1) := by decide +kernel
theorem dX5_putOf_29 : decode cX5_putOf 29 = .ok (.getfield 22, 3) := by decide +kernel
theorem dX5_putOf_32 : decode cX5_putOf 32 = .ok (.iload_n 2, 1) := by decide +kernel
theorem dX5_putOf_33 : decode cX5_putOf 33 = .ok (.iload_n 3, 1) := by decide +kernel
theorem dX5_putOf_34 : decode cX5_putOf 34 = .ok (.iastore, 1) := by decide +kernel
theorem dX5_putOf_35 : decode cX5_putOf 35 = .ok (.goto 30, 3) := by decide +kernel
theorem dX5_putOf_38 : decode cX5_putOf 38 = .ok (.aload_n 0, 1) := by decide +kernel
theorem dX5_putOf_39 : decode cX5_putOf 39 = .ok (.getfield 25, 3) := by decide +kernel
theorem dX5_putOf_42 : decode cX5_putOf 42 = .ok (.iload_n 2, 1) := by decide +kernel
theorem dX5_putOf_43 : decode cX5_putOf 43 = .ok (.iload_n 3, 1) := by decide +kernel
theorem dX5_putOf_44 : decode cX5_putOf 44 = .ok (.iastore, 1) := by decide +kernel
theorem dX5_putOf_45 : decode cX5_putOf 45 = .ok (.goto 20, 3) := by decide +kernel
theorem dX5_putOf_48 : decode cX5_putOf 48 = .ok (.aload_n 0, 1) := by decide +kernel
theorem dX5_putOf_49 : decode cX5_putOf 49 = .ok (.getfield 28, 3) := by decide +kernel
theorem dX5_putOf_52 : decode cX5_putOf 52 = .ok (.iload_n 2, 1) := by decide +kernel
theorem dX5_putOf_53 : decode cX5_putOf 53 = .ok (.iload_n 3, 1) := by decide +kernel
theorem dX5_putOf_54 : decode cX5_putOf 54 = .ok (.iastore, 1) := by decide +kernel
theorem dX5_putOf_55 : decode cX5_putOf 55 = .ok (.goto 10, 3) := by decide +kernel
theorem dX5_putOf_58 : decode cX5_putOf 58 = .ok (.aload_n 0, 1) := by decide +kernel
theorem dX5_putOf_59 : decode cX5_putOf 59 = .ok (.getfield 18, 3) := by decide +kernel
theorem dX5_putOf_62 : decode cX5_putOf 62 = .ok (.iload_n 2, 1) := by decide +kernel
theorem dX5_putOf_63 : decode cX5_putOf 63 = .ok (.iload_n 3, 1) := by decide +kernel
theorem dX5_putOf_64 : decode cX5_putOf 64 = .ok (.iastore, 1) := by decide +kernel
theorem dX5_putOf_65 : decode cX5_putOf 65 = .ok (.return_, 1) := by decide +kernel
theorem dX5_become_0 : decode cX5_become 0 = .ok (.aload_n 0, 1) := by decide +kernel
theorem dX5_become_1 : decode cX5_become 1 = .ok (.aload_n 1, 1) := by decide +kernel
theorem dX5_become_2 : decode cX5_become 2 = .ok (.getfield 9, 3) := by decide +kernel
theorem dX5_become_5 : decode cX5_become 5 = .ok (.putfield 9, 3) := by decide +kernel
theorem dX5_become_8 : decode cX5_become 8 = .ok (.aload_n 0, 1) := by decide +kernel
theorem dX5_become_9 : decode cX5_become 9 = .ok (.aload_n 1, 1) := by decide +kernel
theorem dX5_become_10 : decode cX5_become 10 = .ok (.getfield 15, 3) := by decide +kernel
theorem dX5_become_13 : decode cX5_become 13 = .ok (.putfield 15, 3) := by decide +kernel
theorem dX5_become_16 : decode cX5_become 16 = .ok (.aload_n 0, 1) := by decide +kernel
theorem dX5_become_17 : decode cX5_become 17 = .ok (.aload_n 1, 1) := by decide +kernel
theorem dX5_become_18 : decode cX5_become 18 = .ok (.getfield 34, 3) := by decide +kernel
theorem dX5_become_21 : decode cX5_become 21 = .ok (.putfield 34, 3) := by decide +kernel
theorem dX5_become_24 : decode cX5_become 24 = .ok (.aload_n 0, 1) := by decide +kernel
theorem dX5_become_25 : decode cX5_become 25 = .ok (.aload_n 1, 1) := by decide +kernel
theorem dX5_become_26 : decode cX5_become 26 = .ok (.getfield 31, 3) := by decide +kernel
theorem dX5_become_29 : decode cX5_become 29 = .ok (.putfield 31, 3) := by decide +kernel
theorem dX5_become_32 : decode cX5_become 32 = .ok (.aload_n 1, 1) := by decide +kernel
theorem dX5_become_33 : decode cX5_become 33 = .ok (.getfield 18, 3) := by decide +kernel
theorem dX5_become_36 : decode cX5_become 36 = .ok (.iconst 0, 1) := by decide +kernel
theorem dX5_become_37 : decode cX5_become 37 = .ok (.aload_n 0, 1) := by decide +kernel
theorem dX5_become_38 : decode cX5_become 38 = .ok (.getfield 18, 3) := by decide +kernel
theorem dX5_become_41 : decode cX5_become 41 = .ok (.iconst 0, 1) := by decide +kernel
theorem dX5_become_42 : decode cX5_become 42 = .ok (.bipush 7, 2) := by decide +kernel
theorem dX5_become_44 : decode cX5_become 44 = .ok (.invokestatic 49, 3) := by decide +kernel
theorem dX5_become_47 : decode cX5_become 47 = .ok (.aload_n 1, 1) := by decide +kernel
theorem dX5_become_48 : decode cX5_become 48 = .ok (.getfield 22, 3) := by decide +kernel
theorem dX5_become_51 : decode cX5_become 51 = .ok (.iconst 0, 1) := by decide +kernel
theorem dX5_become_52 : decode cX5_become 52 = .ok (.aload_n 0, 1) := by decide +kernel
theorem dX5_become_53 : decode cX5_become 53 = .ok (.getfield 22, 3) := by decide +kernel
theorem dX5_become_56 : decode cX5_become 56 = .ok (.iconst 0, 1) := by decide +kernel
theorem dX5_become_57 : decode cX5_become 57 = .ok (.bipush 7, 2) := by decide +kernel
theorem dX5_become_59 : decode cX5_become 59 = .ok (.invokestatic 49, 3) := by decide +kernel
theorem dX5_become_62 : decode cX5_become 62 = .ok (.aload_n 1, 1) := by decide +kernel
theorem dX5_become_63 : decode cX5_become 63 = .ok (.getfield 25, 3) := by decide +kernel
theorem dX5_become_66 : decode cX5_become 66 = .ok (.iconst 0, 1) := by decide +kernel
theorem dX5_become_67 : decode cX5_become 67 = .ok (.aload_n 0, 1) := by decide +kernel
theorem dX5_become_68 : decode cX5_become 68 = .ok (.getfield 25, 3) := by decide +kernel
theorem dX5_become_71 : decode cX5_become 71 = .ok (.iconst 0, 1) := by decide +kernel
theorem dX5_become_72 : decode cX5_become 72 = .ok (.bipush 7, 2) := by decide +kernel
theorem dX5_become_74 : decode cX5_become 74 = .ok (.invokestatic 49, 3) := by decide +kernel
theorem dX5_become_77 : decode cX5_become 77 = .ok (.aload_n 1, 1) := by decide +kernel
theorem dX5_become_78 : decode cX5_become 78 = .ok (.getfield 28, 3) := by decide +kernel
theorem dX5_become_81 : decode cX5_become 81 = .ok (.iconst 0, 1) := by decide +kernel
theorem dX5_become_82 : decode cX5_become 82 = .ok (.aload_n 0, 1) := by decide +kernel
theorem dX5_become_83 : decode cX5_become 83 = .ok (.getfield 28, 3) := by decide +kernel
theorem dX5_become_86 : decode cX5_become 86 = .ok (.iconst 0, 1) := by decide +kernel
theorem dX5_become_87 : decode cX5_become 87 = .ok (.bipush 7, 2) := by decide +kernel
theorem dX5_become_89 : decode cX5_become 89 = .ok (.invokestatic 49, 3) := by decide +kernel
theorem dX5_become_92 : decode cX5_become 92 = .ok (.return_, 1) := by decide +kernel
theorem dX5_draw_0 : decode cX5_draw 0 = .ok (.iload_n 1, 1) := by decide +kernel
theorem dX5_draw_1 : decode cX5_draw 1 = .ok (.istore_n 2, 1) := by decide +kernel
theorem dX5_draw_2 : decode cX5_draw 2 = .ok (.iconst 0, 1) := by decide +kernel
theorem dX5_draw_3 : decode cX5_draw 3 = .ok (.istore_n 3, 1) := by decide +kernel
theorem dX5_draw_4 : decode cX5_draw 4 = .ok (.iload_n 3, 1) := by decide +kernel
theorem dX5_draw_5 : decode cX5_draw 5 = .ok (.aload_n 0, 1) := by decide +kernel
theorem dX5_draw_6 : decode cX5_draw 6 = .ok (.getfield 31, 3) := by decide +kernel
theorem dX5_draw_9 : decode cX5_draw 9 = .ok (.if_icmp .ge 31, 3) := by decide +kernel
theorem dX5_draw_12 : decode cX5_draw 12 = .ok (.iload_n 2, 1) := by decide +kernel
theorem dX5_draw_13 : decode cX5_draw 13 = .ok (.ldc 55, 2) := by decide +kernel
theorem dX5_draw_15 : decode cX5_draw 15 = .ok (.imul, 1) := by decide +kernel
theorem dX5_draw_16 : decode cX5_draw 16 = .ok (.sipush 12345, 3) := by decide +kernel
theorem dX5_draw_19 : decode cX5_draw 19 = .ok (.iadd, 1) := by decide +kernel
theorem dX5_draw_20 : decode cX5_draw 20 = .ok (.istore_n 2, 1) := by decide +kernel
theorem dX5_draw_21 : decode cX5_draw 21 = .ok (.aload_n 0, 1) := by decide +kernel
theorem dX5_draw_22 : decode cX5_draw 22 = .ok (.getfield 25, 3) := by decide +kernel
theorem dX5_draw_25 : decode cX5_draw 25 = .ok (.iload_n 3, 1) := by decide +kernel
theorem dX5_draw_26 : decode cX5_draw 26 = .ok (.iload_n 2, 1) := by decide +kernel
theorem dX5_draw_27 : decode cX5_draw 27 = .ok (.bipush 9, 2) := by decide +kernel
theorem dX5_draw_29 : decode cX5_draw 29 = .ok (.iushr, 1) := by decide +kernel
theorem dX5_draw_30 : decode cX5_draw 30 = .ok (.bipush 100, 2) := by decide +kernel
theorem dX5_draw_32 : decode cX5_draw 32 = .ok (.irem, 1) := by decide +kernel
theorem dX5_draw_33 : decode cX5_draw 33 = .ok (.iastore, 1) := by decide +kernel
theorem dX5_draw_34 : decode cX5_draw 34 = .ok (.iinc 3 1, 3) := by decide +kernel
theorem dX5_draw_37 : decode cX5_draw 37 = .ok (.goto (-33), 3) := by decide +kernel
theorem dX5_draw_40 : decode cX5_draw 40 = .ok (.return_, 1) := by decide +kernel
theorem dX5_creasedBy_0 : decode cX5_creasedBy 0 = .ok (.iconst 0, 1) := by decide +kernel
theorem dX5_creasedBy_1 : decode cX5_creasedBy 1 = .ok (.istore_n 2, 1) := by decide +kernel
theorem dX5_creasedBy_2 : decode cX5_creasedBy 2 = .ok (.iconst 0, 1) := by decide +kernel
theorem dX5_creasedBy_3 : decode cX5_creasedBy 3 = .ok (.istore_n 3, 1) := by decide +kernel
theorem dX5_creasedBy_4 : decode cX5_creasedBy 4 = .ok (.iload_n 3, 1) := by decide +kernel
theorem dX5_creasedBy_5 : decode cX5_creasedBy 5 = .ok (.aload_n 0, 1) := by decide +kernel
theorem dX5_creasedBy_6 : decode cX5_creasedBy 6 = .ok (.getfield 31, 3) := by decide +kernel
theorem dX5_creasedBy_9 : decode cX5_creasedBy 9 = .ok (.if_icmp .ge 25, 3) := by decide +kernel
theorem dX5_creasedBy_12 : decode cX5_creasedBy 12 = .ok (.iload_n 2, 1) := by decide +kernel
theorem dX5_creasedBy_13 : decode cX5_creasedBy 13 = .ok (.aload_n 1, 1) := by decide +kernel
theorem dX5_creasedBy_14 : decode cX5_creasedBy 14 = .ok (.iload_n 3, 1) := by decide +kernel
theorem dX5_creasedBy_15 : decode cX5_creasedBy 15 = .ok (.iaload, 1) := by decide +kernel
theorem dX5_creasedBy_16 : decode cX5_creasedBy 16 = .ok (.aload_n 0, 1) := by decide +kernel
theorem dX5_creasedBy_17 : decode cX5_creasedBy 17 = .ok (.getfield 18, 3) := by decide +kernel
theorem dX5_creasedBy_20 : decode cX5_creasedBy 20 = .ok (.iload_n 3, 1) := by decide +kernel
theorem dX5_creasedBy_21 : decode cX5_creasedBy 21 = .ok (.iaload, 1) := by decide +kernel
theorem dX5_creasedBy_22 : decode cX5_creasedBy 22 = .ok (.invokestatic 56, 3) := by decide +kernel
theorem dX5_creasedBy_25 : decode cX5_creasedBy 25 = .ok (.imul, 1) := by decide +kernel
theorem dX5_creasedBy_26 : decode cX5_creasedBy 26 = .ok (.iadd, 1) := by decide +kernel
theorem dX5_creasedBy_27 : decode cX5_creasedBy 27 = .ok (.istore_n 2, 1) := by decide +kernel
theorem dX5_creasedBy_28 : decode cX5_creasedBy 28 = .ok (.iinc 3 1, 3) := by decide +kernel
theorem dX5_creasedBy_31 : decode cX5_creasedBy 31 = .ok (.goto (-27), 3) := by decide +kernel
theorem dX5_creasedBy_34 : decode cX5_creasedBy 34 = .ok (.iload_n 2, 1) := by decide +kernel
theorem dX5_creasedBy_35 : decode cX5_creasedBy 35 = .ok (.ireturn, 1) := by decide +kernel
theorem dX6_init_0 : decode cX6_init 0 = .ok (.aload_n 0, 1) := by decide +kernel
theorem dX6_init_1 : decode cX6_init 1 = .ok (.invokespecial 3, 3) := by decide +kernel
theorem dX6_init_4 : decode cX6_init 4 = .ok (.aload_n 0, 1) := by decide +kernel
theorem dX6_init_5 : decode cX6_init 5 = .ok (.bipush 6, 2) := by decide +kernel
theorem dX6_init_7 : decode cX6_init 7 = .ok (.sipush 160, 3) := by decide +kernel
theorem dX6_init_10 : decode cX6_init 10 = .ok (.multianewarray 9 2, 4) := by decide +kernel
theorem dX6_init_14 : decode cX6_init 14 = .ok (.putfield 11, 3) := by decide +kernel
theorem dX6_init_17 : decode cX6_init 17 = .ok (.aload_n 0, 1) := by decide +kernel
theorem dX6_init_18 : decode cX6_init 18 = .ok (.bipush 6, 2) := by decide +kernel
theorem dX6_init_20 : decode cX6_init 20 = .ok (.iconst 3, 1) := by decide +kernel
theorem dX6_init_21 : decode cX6_init 21 = .ok (.multianewarray 9 2, 4) := by decide +kernel
theorem dX6_init_25 : decode cX6_init 25 = .ok (.putfield 16, 3) := by decide +kernel
theorem dX6_init_28 : decode cX6_init 28 = .ok (.aload_n 0, 1) := by decide +kernel
theorem dX6_init_29 : decode cX6_init 29 = .ok (.bipush 6, 2) := by decide +kernel
theorem dX6_init_31 : decode cX6_init 31 = .ok (.newarray .int, 2) := by decide +kernel
theorem dX6_init_33 : decode cX6_init 33 = .ok (.putfield 19, 3) := by decide +kernel
theorem dX6_init_36 : decode cX6_init 36 = .ok (.aload_n 0, 1) := by decide +kernel
theorem dX6_init_37 : decode cX6_init 37 = .ok (.sipush 160, 3) := by decide +kernel
theorem dX6_init_40 : decode cX6_init 40 = .ok (.newarray .int, 2) := by decide +kernel
theorem dX6_init_42 : decode cX6_init 42 = .ok (.putfield 23, 3) := by decide +kernel
theorem dX6_init_45 : decode cX6_init 45 = .ok (.aload_n 0, 1) := by decide +kernel
theorem dX6_init_46 : decode cX6_init 46 = .ok (.iconst 1, 1) := by decide +kernel
theorem dX6_init_47 : decode cX6_init 47 = .ok (.putfield 26, 3) := by decide +kernel
theorem dX6_init_50 : decode cX6_init 50 = .ok (.getstatic 30, 3) := by decide +kernel
theorem dX6_init_53 : decode cX6_init 53 = .ok (.iconst 0, 1) := by decide +kernel
theorem dX6_init_54 : decode cX6_init 54 = .ok (.aload_n 0, 1) := by decide +kernel
theorem dX6_init_55 : decode cX6_init 55 = .ok (.getfield 11, 3) := by decide +kernel
theorem dX6_init_58 : decode cX6_init 58 = .ok (.iconst 0, 1) := by decide +kernel
theorem dX6_init_59 : decode cX6_init 59 = .ok (.aaload, 1) := by decide +kernel
theorem dX6_init_60 : decode cX6_init 60 = .ok (.iconst 0, 1) := by decide +kernel
theorem dX6_init_61 : decode cX6_init 61 = .ok (.getstatic 30, 3) := by decide +kernel
theorem dX6_init_64 : decode cX6_init 64 = .ok (.arraylength, 1) := by decide +kernel
theorem dX6_init_65 : decode cX6_init 65 = .ok (.invokestatic 33, 3) := by decide +kernel
theorem dX6_init_68 : decode cX6_init 68 = .ok (.getstatic 39, 3) := by decide +kernel
theorem dX6_init_71 : decode cX6_init 71 = .ok (.iconst 0, 1) := by decide +kernel
theorem dX6_init_72 : decode cX6_init 72 = .ok (.aload_n 0, 1) := by decide +kernel
theorem dX6_init_73 : decode cX6_init 73 = .ok (.getfield 16, 3) := by decide +kernel
theorem dX6_init_76 : decode cX6_init 76 = .ok (.iconst 0, 1) := by decide +kernel
theorem dX6_init_77 : decode cX6_init 77 = .ok (.aaload, 1) := by decide +kernel
theorem dX6_init_78 : decode cX6_init 78 = .ok (.iconst 0, 1) := by decide +kernel
theorem dX6_init_79 : decode cX6_init 79 = .ok (.iconst 3, 1) := by decide +kernel
theorem dX6_init_80 : decode cX6_init 80 = .ok (.invokestatic 33, 3) := by decide +kernel
theorem dX6_init_83 : decode cX6_init 83 = .ok (.return_, 1) := by decide +kernel
theorem dX6_bounded_0 : decode cX6_bounded 0 = .ok (.aload_n 0, 1) := by decide +kernel
theorem dX6_bounded_1 : decode cX6_bounded 1 = .ok (.getfield 11, 3) := by decide +kernel
theorem dX6_bounded_4 : decode cX6_bounded 4 = .ok (.iload_n 1, 1) := by decide +kernel
theorem dX6_bounded_5 : decode cX6_bounded 5 = .ok (.aaload, 1) := by decide +kernel
theorem dX6_bounded_6 : decode cX6_bounded 6 = .ok (.astore_n 3, 1) := by decide +kernel
theorem dX6_bounded_7 : decode cX6_bounded 7 = .ok (.iconst 0, 1) := by decide +kernel
theorem dX6_bounded_8 : decode cX6_bounded 8 = .ok (.istore 4, 2) := by decide +kernel
theorem dX6_bounded_10 : decode cX6_bounded 10 = .ok (.aload_n 0, 1) := by decide +kernel
theorem dX6_bounded_11 : decode cX6_bounded 11 = .ok (.getfield 16, 3) := by decide +kernel
theorem dX6_bounded_14 : decode cX6_bounded 14 = .ok (.iload_n 1, 1) := by decide +kernel
theorem dX6_bounded_15 : decode cX6_bounded 15 = .ok (.aaload, 1) := by decide +kernel
theorem dX6_bounded_16 : decode cX6_bounded 16 = .ok (.iload_n 2, 1) := by decide +kernel
theorem dX6_bounded_17 : decode cX6_bounded 17 = .ok (.iaload, 1) := by decide +kernel
theorem dX6_bounded_18 : decode cX6_bounded 18 = .ok (.istore 5, 2) := by decide +kernel
theorem dX6_bounded_20 : decode cX6_bounded 20 = .ok (.iload 5, 2) := by decide +kernel
theorem dX6_bounded_22 : decode cX6_bounded 22 = .ok (.aload_n 3, 1) := by decide +kernel
theorem dX6_bounded_23 : decode cX6_bounded 23 = .ok (.arraylength, 1) := by decide +kernel
theorem dX6_bounded_24 : decode cX6_bounded 24 = .ok (.if_icmp .ge 187, 3) := by decide +kernel
theorem dX6_bounded_27 : decode cX6_bounded 27 = .ok (.aload_n 3, 1) := by decide +kernel
theorem dX6_bounded_28 : decode cX6_bounded 28 = .ok (.iload 5, 2) := by decide +kernel
theorem dX6_bounded_30 : decode cX6_bounded 30 = .ok (.iaload, 1) := by decide +kernel
theorem dX6_bounded_31 : decode cX6_bounded 31 = .ok (.sipush 10019, 3) := by decide +kernel
theorem dX6_bounded_34 : decode cX6_bounded 34 = .ok (.if_icmp .eq 177, 3) := by decide +kernel
theorem dX6_bounded_37 : decode cX6_bounded 37 = .ok (.iload 4, 2) := by decide +kernel
theorem dX6_bounded_39 : decode cX6_bounded 39 = .ok (.sipush 160, 3) := by decide +kernel
theorem dX6_bounded_42 : decode cX6_bounded 42 = .ok (.if_icmp .ge 169, 3) := by decide +kernel
theorem dX6_bounded_45 : decode cX6_bounded 45 = .ok (.aload_n 3, 1) := by decide +kernel
theorem dX6_bounded_46 : decode cX6_bounded 46 = .ok (.iload 5, 2) := by decide +kernel
theorem dX6_bounded_48 : decode cX6_bounded 48 = .ok (.iaload, 1) := by decide +kernel
theorem dX6_bounded_49 : decode cX6_bounded 49 = .ok (.istore 6, 2) := by decide +kernel
theorem dX6_bounded_51 : decode cX6_bounded 51 = .ok (.iload 6, 2) := by decide +kernel
theorem dX6_bounded_53 : decode cX6_bounded 53 = .ok (.sipush 10000, 3) := by decide +kernel
theorem dX6_bounded_56 : decode cX6_bounded 56 = .ok (.if_icmp .ge 18, 3) := by decide +kernel
theorem dX6_bounded_59 : decode cX6_bounded 59 = .ok (.aload_n 0, 1) := by decide +kernel
theorem dX6_bounded_60 : decode cX6_bounded 60 = .ok (.getfield 23, 3) := by decide +kernel
theorem dX6_bounded_63 : decode cX6_bounded 63 = .ok (.iload 4, 2) := by decide +kernel
theorem dX6_bounded_65 : decode cX6_bounded 65 = .ok (.iinc 4 1, 3) := by decide +kernel
theorem dX6_bounded_68 : decode cX6_bounded 68 = .ok (.iload 6, 2) := by decide +kernel
theorem dX6_bounded_70 : decode cX6_bounded 70 = .ok (.iastore, 1) := by decide +kernel
theorem dX6_bounded_71 : decode cX6_bounded 71 = .ok (.goto 134, 3) := by decide +kernel
theorem dX6_bounded_74 : decode cX6_bounded 74 = .ok (.iload 6, 2) := by decide +kernel
theorem dX6_bounded_76 : decode cX6_bounded 76 = .ok (.sipush 10006, 3) := by decide +kernel
theorem dX6_bounded_79 : decode cX6_bounded 79 = .ok (.if_icmp .ge 27, 3) := by decide +kernel
theorem dX6_bounded_82 : decode cX6_bounded 82 = .ok (.aload_n 0, 1) := by decide +kernel
theorem dX6_bounded_83 : decode cX6_bounded 83 = .ok (.getfield 23, 3) := by decide +kernel
theorem dX6_bounded_86 : decode cX6_bounded 86 = .ok (.iload 4, 2) := by decide +kernel
theorem dX6_bounded_88 : decode cX6_bounded 88 = .ok (.iinc 4 1, 3) := by decide +kernel
theorem dX6_bounded_91 : decode cX6_bounded 91 = .ok (.aload_n 0, 1) := by decide +kernel
theorem dX6_bounded_92 : decode cX6_bounded 92 = .ok (.getfield 19, 3) := by decide +kernel
theorem dX6_bounded_95 : decode cX6_bounded 95 = .ok (.iload 6, 2) := by decide +kernel
theorem dX6_bounded_97 : decode cX6_bounded 97 = .ok (.sipush 10000, 3) := by decide +kernel
theorem dX6_bounded_100 : decode cX6_bounded 100 = .ok (.isub, 1) := by decide +kernel
theorem dX6_bounded_101 : decode cX6_bounded 101 = .ok (.iaload, 1) := by decide +kernel
theorem dX6_bounded_102 : decode cX6_bounded 102 = .ok (.iastore, 1) := by decide +kernel
theorem dX6_bounded_103 : decode cX6_bounded 103 = .ok (.goto 102, 3) := by decide +kernel
theorem dX6_bounded_106 : decode cX6_bounded 106 = .ok (.iload 6, 2) := by decide +kernel
theorem dX6_bounded_108 : decode cX6_bounded 108 = .ok (.sipush 10011, 3) := by decide +kernel
theorem dX6_bounded_111 : decode cX6_bounded 111 = .ok (.if_icmp .gt 55, 3) := by decide +kernel
theorem dX6_bounded_114 : decode cX6_bounded 114 = .ok (.iload 4, 2) := by decide +kernel
theorem dX6_bounded_116 : decode cX6_bounded 116 = .ok (.ifCond .le 50, 3) := by decide +kernel
theorem dX6_bounded_119 : decode cX6_bounded 119 = .ok (.aload_n 0, 1) := by decide +kernel
theorem dX6_bounded_120 : decode cX6_bounded 120 = .ok (.getfield 23, 3) := by decide +kernel
theorem dX6_bounded_123 : decode cX6_bounded 123 = .ok (.iload 4, 2) := by decide +kernel
theorem dX6_bounded_125 : decode cX6_bounded 125 = .ok (.iconst 1, 1) := by decide +kernel
theorem dX6_bounded_126 : decode cX6_bounded 126 = .ok (.isub, 1) := by decide +kernel
theorem dX6_bounded_127 : decode cX6_bounded 127 = .ok (.iaload, 1) := by decide +kernel
theorem dX6_bounded_128 : decode cX6_bounded 128 = .ok (.istore 7, 2) := by decide +kernel
theorem dX6_bounded_130 : decode cX6_bounded 130 = .ok (.aload_n 0, 1) := by decide +kernel
theorem dX6_bounded_131 : decode cX6_bounded 131 = .ok (.getfield 23, 3) := by decide +kernel
theorem dX6_bounded_134 : decode cX6_bounded 134 = .ok (.iload 4, 2) := by decide +kernel
theorem dX6_bounded_136 : decode cX6_bounded 136 = .ok (.iconst 1, 1) := by decide +kernel
theorem dX6_bounded_137 : decode cX6_bounded 137 = .ok (.isub, 1) := by decide +kernel
theorem dX6_bounded_138 : decode cX6_bounded 138 = .ok (.iload 6, 2) := by decide +kernel
theorem dX6_bounded_140 : decode cX6_bounded 140 = .ok (.sipush 10010, 3) := by decide +kernel
theorem dX6_bounded_143 : decode cX6_bounded 143 = .ok (.if_icmp .ne 9, 3) := by decide +kernel
theorem dX6_bounded_146 : decode cX6_bounded 146 = .ok (.iload 7, 2) := by decide +kernel
theorem dX6_bounded_148 : decode cX6_bounded 148 = .ok (.ineg, 1) := by decide +kernel
theorem dX6_bounded_149 : decode cX6_bounded 149 = .ok (.goto 13, 3) := by decide +kernel
theorem dX6_bounded_152 : decode cX6_bounded 152 = .ok (.iload 7, 2) := by decide +kernel
theorem dX6_bounded_154 : decode cX6_bounded 154 = .ok (.ifCond .ne 7, 3) := by decide +kernel
theorem dX6_bounded_157 : decode cX6_bounded 157 = .ok (.iconst 1, 1) := by decide +kernel
theorem dX6_bounded_158 : decode cX6_bounded 158 = .ok (.goto 4, 3) := by decide +kernel
theorem dX6_bounded_161 : decode cX6_bounded 161 = .ok (.iconst 0, 1) := by decide +kernel
theorem dX6_bounded_162 : decode cX6_bounded 162 = .ok (.iastore, 1) := by decide +kernel
theorem dX6_bounded_163 : decode cX6_bounded 163 = .ok (.goto 42, 3) := by decide +kernel
theorem dX6_bounded_166 : decode cX6_bounded 166 = .ok (.iload 4, 2) := by decide +kernel
theorem dX6_bounded_168 : decode cX6_bounded 168 = .ok (.iconst 1, 1) := by decide +kernel
theorem dX6_bounded_169 : decode cX6_bounded 169 = .ok (.if_icmp .le 36, 3) := by decide +kernel
theorem dX6_bounded_172 : decode cX6_bounded 172 = .ok (.iinc 4 (-1), 3) := by decide +kernel
theorem dX6_bounded_175 : decode cX6_bounded 175 = .ok (.aload_n 0, 1) := by decide +kernel
theorem dX6_bounded_176 : decode cX6_bounded 176 = .ok (.getfield 23, 3) := by decide +kernel
theorem dX6_bounded_179 : decode cX6_bounded 179 = .ok (.iload 4, 2) := by decide +kernel
theorem dX6_bounded_181 : decode cX6_bounded 181 = .ok (.iconst 1, 1) := by decide +kernel
theorem dX6_bounded_182 : decode cX6_bounded 182 = .ok (.isub, 1) := by decide +kernel
theorem dX6_bounded_183 : decode cX6_bounded 183 = .ok (.iload 6, 2) := by decide +kernel
theorem dX6_bounded_185 : decode cX6_bounded 185 = .ok (.aload_n 0, 1) := by decide +kernel
theorem dX6_bounded_186 : decode cX6_bounded 186 = .ok (.getfield 23, 3) := by decide +kernel
theorem dX6_bounded_189 : decode cX6_bounded 189 = .ok (.iload 4, 2) := by decide +kernel
theorem dX6_bounded_191 : decode cX6_bounded 191 = .ok (.iconst 1, 1) := by decide +kernel
theorem dX6_bounded_192 : decode cX6_bounded 192 = .ok (.isub, 1) := by decide +kernel
theorem dX6_bounded_193 : decode cX6_bounded 193 = .ok (.iaload, 1) := by decide +kernel
theorem dX6_bounded_194 : decode cX6_bounded 194 = .ok (.aload_n 0, 1) := by decide +kernel
theorem dX6_bounded_195 : decode cX6_bounded 195 = .ok (.getfield 23, 3) := by decide +kernel
theorem dX6_bounded_198 : decode cX6_bounded 198 = .ok (.iload 4, 2) := by decide +kernel
theorem dX6_bounded_200 : decode cX6_bounded 200 = .ok (.iaload, 1) := by decide +kernel
theorem dX6_bounded_201 : decode cX6_bounded 201 = .ok (.invokestatic 42, 3) := by decide +kernel
theorem dX6_bounded_204 : decode cX6_bounded 204 = .ok (.iastore, 1) := by decide +kernel
theorem dX6_bounded_205 : decode cX6_bounded 205 = .ok (.iinc 5 1, 3) := by decide +kernel
theorem dX6_bounded_208 : decode cX6_bounded 208 = .ok (.goto (-188), 3) := by decide +kernel
theorem dX6_bounded_211 : decode cX6_bounded 211 = .ok (.iconst 0, 1) := by decide +kernel
theorem dX6_bounded_212 : decode cX6_bounded 212 = .ok (.getstatic 46, 3) := by decide +kernel
theorem dX6_bounded_215 : decode cX6_bounded 215 = .ok (.iload_n 2, 1) := by decide +kernel
theorem dX6_bounded_216 : decode cX6_bounded 216 = .ok (.iaload, 1) := by decide +kernel
theorem dX6_bounded_217 : decode cX6_bounded 217 = .ok (.aload_n 0, 1) := by decide +kernel
theorem dX6_bounded_218 : decode cX6_bounded 218 = .ok (.getfield 23, 3) := by decide +kernel
theorem dX6_bounded_221 : decode cX6_bounded 221 = .ok (.iconst 0, 1) := by decide +kernel
theorem dX6_bounded_222 : decode cX6_bounded 222 = .ok (.iaload, 1) := by decide +kernel
theorem dX6_bounded_223 : decode cX6_bounded 223 = .ok (.invokestatic 49, 3) := by decide +kernel
theorem dX6_bounded_226 : decode cX6_bounded 226 = .ok (.invokestatic 55, 3) := by decide +kernel
theorem dX6_bounded_229 : decode cX6_bounded 229 = .ok (.ireturn, 1) := by decide +kernel
theorem dX6_joined_0 : decode cX6_joined 0 = .ok (.iload_n 0, 1) := by decide +kernel
theorem dX6_joined_1 : decode cX6_joined 1 = .ok (.tableswitch 87 10012 10017 #[39, 43, 47, 51, 62, 73], 39) := by decide +kernel
theorem dX6_joined_40 : decode cX6_joined 40 = .ok (.iload_n 1, 1) := by decide +kernel
theorem dX6_joined_41 : decode cX6_joined 41 = .ok (.iload_n 2, 1) := by decide +kernel
theorem dX6_joined_42 : decode cX6_joined 42 = .ok (.iadd, 1) := by decide +kernel
theorem dX6_joined_43 : decode cX6_joined 43 = .ok (.ireturn, 1) := by decide +kernel
theorem dX6_joined_44 : decode cX6_joined 44 = .ok (.iload_n 1, 1) := by decide +kernel
theorem dX6_joined_45 : decode cX6_joined 45 = .ok (.iload_n 2, 1) := by decide +kernel
theorem dX6_joined_46 : decode cX6_joined 46 = .ok (.isub, 1) := by decide +kernel
theorem dX6_joined_47 : decode cX6_joined 47 = .ok (.ireturn, 1) := by decide +kernel
theorem dX6_joined_48 : decode cX6_joined 48 = .ok (.iload_n 1, 1) := by decide +kernel
theorem dX6_joined_49 : decode cX6_joined 49 = .ok (.iload_n 2, 1) := by decide +kernel
theorem dX6_joined_50 : decode cX6_joined 50 = .ok (.imul, 1) := by decide +kernel
theorem dX6_joined_51 : decode cX6_joined 51 = .ok (.ireturn, 1) := by decide +kernel
theorem dX6_joined_52 : decode cX6_joined 52 = .ok (.iload_n 1, 1) := by decide +kernel
theorem dX6_joined_53 : decode cX6_joined 53 = .ok (.iload_n 2, 1) := by decide +kernel
theorem dX6_joined_54 : decode cX6_joined 54 = .ok (.if_icmp .ge 7, 3) := by decide +kernel
theorem dX6_joined_57 : decode cX6_joined 57 = .ok (.iconst 1, 1) := by decide +kernel
theorem dX6_joined_58 : decode cX6_joined 58 = .ok (.goto 4, 3) := by decide +kernel
theorem dX6_joined_61 : decode cX6_joined 61 = .ok (.iconst 0, 1) := by decide +kernel
theorem dX6_joined_62 : decode cX6_joined 62 = .ok (.ireturn, 1) := by decide +kernel
theorem dX6_joined_63 : decode cX6_joined 63 = .ok (.iload_n 1, 1) := by decide +kernel
theorem dX6_joined_64 : decode cX6_joined 64 = .ok (.iload_n 2, 1) := by decide +kernel
theorem dX6_joined_65 : decode cX6_joined 65 = .ok (.if_icmp .ne 7, 3) := by decide +kernel
theorem dX6_joined_68 : decode cX6_joined 68 = .ok (.iconst 1, 1) := by decide +kernel
theorem dX6_joined_69 : decode cX6_joined 69 = .ok (.goto 4, 3) := by decide +kernel
theorem dX6_joined_72 : decode cX6_joined 72 = .ok (.iconst 0, 1) := by decide +kernel
theorem dX6_joined_73 : decode cX6_joined 73 = .ok (.ireturn, 1) := by decide +kernel
theorem dX6_joined_74 : decode cX6_joined 74 = .ok (.iload_n 1, 1) := by decide +kernel
theorem dX6_joined_75 : decode cX6_joined 75 = .ok (.ifCond .eq 11, 3) := by decide +kernel
theorem dX6_joined_78 : decode cX6_joined 78 = .ok (.iload_n 2, 1) := by decide +kernel
theorem dX6_joined_79 : decode cX6_joined 79 = .ok (.ifCond .eq 7, 3) := by decide +kernel
theorem dX6_joined_82 : decode cX6_joined 82 = .ok (.iconst 1, 1) := by decide +kernel
theorem dX6_joined_83 : decode cX6_joined 83 = .ok (.goto 4, 3) := by decide +kernel
theorem dX6_joined_86 : decode cX6_joined 86 = .ok (.iconst 0, 1) := by decide +kernel
theorem dX6_joined_87 : decode cX6_joined 87 = .ok (.ireturn, 1) := by decide +kernel
theorem dX6_joined_88 : decode cX6_joined 88 = .ok (.iload_n 1, 1) := by decide +kernel
theorem dX6_joined_89 : decode cX6_joined 89 = .ok (.ifCond .ne 7, 3) := by decide +kernel
theorem dX6_joined_92 : decode cX6_joined 92 = .ok (.iload_n 2, 1) := by decide +kernel
theorem dX6_joined_93 : decode cX6_joined 93 = .ok (.ifCond .eq 7, 3) := by decide +kernel
theorem dX6_joined_96 : decode cX6_joined 96 = .ok (.iconst 1, 1) := by decide +kernel
theorem dX6_joined_97 : decode cX6_joined 97 = .ok (.goto 4, 3) := by decide +kernel
theorem dX6_joined_100 : decode cX6_joined 100 = .ok (.iconst 0, 1) := by decide +kernel
theorem dX6_joined_101 : decode cX6_joined 101 = .ok (.ireturn, 1) := by decide +kernel
theorem dJ6_bitCount_0f7a4_0 : decode cJ6_bitCount_0f7a4 0 = .ok (.iload_n 0, 1) := by decide +kernel
theorem dJ6_bitCount_0f7a4_1 : decode cJ6_bitCount_0f7a4 1 = .ok (.iload_n 0, 1) := by decide +kernel
theorem dJ6_bitCount_0f7a4_2 : decode cJ6_bitCount_0f7a4 2 = .ok (.iconst 1, 1) := by decide +kernel
theorem dJ6_bitCount_0f7a4_3 : decode cJ6_bitCount_0f7a4 3 = .ok (.iushr, 1) := by decide +kernel
theorem dJ6_bitCount_0f7a4_4 : decode cJ6_bitCount_0f7a4 4 = .ok (.ldc_w 265, 3) := by decide +kernel
theorem dJ6_bitCount_0f7a4_7 : decode cJ6_bitCount_0f7a4 7 = .ok (.iand, 1) := by decide +kernel
theorem dJ6_bitCount_0f7a4_8 : decode cJ6_bitCount_0f7a4 8 = .ok (.isub, 1) := by decide +kernel
theorem dJ6_bitCount_0f7a4_9 : decode cJ6_bitCount_0f7a4 9 = .ok (.istore_n 0, 1) := by decide +kernel
theorem dJ6_bitCount_0f7a4_10 : decode cJ6_bitCount_0f7a4 10 = .ok (.iload_n 0, 1) := by decide +kernel
theorem dJ6_bitCount_0f7a4_11 : decode cJ6_bitCount_0f7a4 11 = .ok (.ldc_w 266, 3) := by decide +kernel
theorem dJ6_bitCount_0f7a4_14 : decode cJ6_bitCount_0f7a4 14 = .ok (.iand, 1) := by decide +kernel
theorem dJ6_bitCount_0f7a4_15 : decode cJ6_bitCount_0f7a4 15 = .ok (.iload_n 0, 1) := by decide +kernel
theorem dJ6_bitCount_0f7a4_16 : decode cJ6_bitCount_0f7a4 16 = .ok (.iconst 2, 1) := by decide +kernel
theorem dJ6_bitCount_0f7a4_17 : decode cJ6_bitCount_0f7a4 17 = .ok (.iushr, 1) := by decide +kernel
theorem dJ6_bitCount_0f7a4_18 : decode cJ6_bitCount_0f7a4 18 = .ok (.ldc_w 266, 3) := by decide +kernel
theorem dJ6_bitCount_0f7a4_21 : decode cJ6_bitCount_0f7a4 21 = .ok (.iand, 1) := by decide +kernel
theorem dJ6_bitCount_0f7a4_22 : decode cJ6_bitCount_0f7a4 22 = .ok (.iadd, 1) := by decide +kernel
theorem dJ6_bitCount_0f7a4_23 : decode cJ6_bitCount_0f7a4 23 = .ok (.istore_n 0, 1) := by decide +kernel
theorem dJ6_bitCount_0f7a4_24 : decode cJ6_bitCount_0f7a4 24 = .ok (.iload_n 0, 1) := by decide +kernel
theorem dJ6_bitCount_0f7a4_25 : decode cJ6_bitCount_0f7a4 25 = .ok (.iload_n 0, 1) := by decide +kernel
theorem dJ6_bitCount_0f7a4_26 : decode cJ6_bitCount_0f7a4 26 = .ok (.iconst 4, 1) := by decide +kernel
theorem dJ6_bitCount_0f7a4_27 : decode cJ6_bitCount_0f7a4 27 = .ok (.iushr, 1) := by decide +kernel
theorem dJ6_bitCount_0f7a4_28 : decode cJ6_bitCount_0f7a4 28 = .ok (.iadd, 1) := by decide +kernel
theorem dJ6_bitCount_0f7a4_29 : decode cJ6_bitCount_0f7a4 29 = .ok (.ldc_w 267, 3) := by decide +kernel
theorem dJ6_bitCount_0f7a4_32 : decode cJ6_bitCount_0f7a4 32 = .ok (.iand, 1) := by decide +kernel
theorem dJ6_bitCount_0f7a4_33 : decode cJ6_bitCount_0f7a4 33 = .ok (.istore_n 0, 1) := by decide +kernel
theorem dJ6_bitCount_0f7a4_34 : decode cJ6_bitCount_0f7a4 34 = .ok (.iload_n 0, 1) := by decide +kernel
theorem dJ6_bitCount_0f7a4_35 : decode cJ6_bitCount_0f7a4 35 = .ok (.iload_n 0, 1) := by decide +kernel
theorem dJ6_bitCount_0f7a4_36 : decode cJ6_bitCount_0f7a4 36 = .ok (.bipush 8, 2) := by decide +kernel
theorem dJ6_bitCount_0f7a4_38 : decode cJ6_bitCount_0f7a4 38 = .ok (.iushr, 1) := by decide +kernel
theorem dJ6_bitCount_0f7a4_39 : decode cJ6_bitCount_0f7a4 39 = .ok (.iadd, 1) := by decide +kernel
theorem dJ6_bitCount_0f7a4_40 : decode cJ6_bitCount_0f7a4 40 = .ok (.istore_n 0, 1) := by decide +kernel
theorem dJ6_bitCount_0f7a4_41 : decode cJ6_bitCount_0f7a4 41 = .ok (.iload_n 0, 1) := by decide +kernel
theorem dJ6_bitCount_0f7a4_42 : decode cJ6_bitCount_0f7a4 42 = .ok (.iload_n 0, 1) := by decide +kernel
theorem dJ6_bitCount_0f7a4_43 : decode cJ6_bitCount_0f7a4 43 = .ok (.bipush 16, 2) := by decide +kernel
theorem dJ6_bitCount_0f7a4_45 : decode cJ6_bitCount_0f7a4 45 = .ok (.iushr, 1) := by decide +kernel
theorem dJ6_bitCount_0f7a4_46 : decode cJ6_bitCount_0f7a4 46 = .ok (.iadd, 1) := by decide +kernel
theorem dJ6_bitCount_0f7a4_47 : decode cJ6_bitCount_0f7a4 47 = .ok (.istore_n 0, 1) := by decide +kernel
theorem dJ6_bitCount_0f7a4_48 : decode cJ6_bitCount_0f7a4 48 = .ok (.iload_n 0, 1) := by decide +kernel
theorem dJ6_bitCount_0f7a4_49 : decode cJ6_bitCount_0f7a4 49 = .ok (.bipush 63, 2) := by decide +kernel
theorem dJ6_bitCount_0f7a4_51 : decode cJ6_bitCount_0f7a4 51 = .ok (.iand, 1) := by decide +kernel
theorem dJ6_bitCount_0f7a4_52 : decode cJ6_bitCount_0f7a4 52 = .ok (.ireturn, 1) := by decide +kernel
theorem dJ9_max_7cf53_0 : decode cJ9_max_7cf53 0 = .ok (.iload_n 0, 1) := by decide +kernel
theorem dJ9_max_7cf53_1 : decode cJ9_max_7cf53 1 = .ok (.iload_n 1, 1) := by decide +kernel
theorem dJ9_max_7cf53_2 : decode cJ9_max_7cf53 2 = .ok (.if_icmp .lt 7, 3) := by decide +kernel
theorem dJ9_max_7cf53_5 : decode cJ9_max_7cf53 5 = .ok (.iload_n 0, 1) := by decide +kernel
theorem dJ9_max_7cf53_6 : decode cJ9_max_7cf53 6 = .ok (.goto 4, 3) := by decide +kernel
theorem dJ9_max_7cf53_9 : decode cJ9_max_7cf53 9 = .ok (.iload_n 1, 1) := by decide +kernel
theorem dJ9_max_7cf53_10 : decode cJ9_max_7cf53 10 = .ok (.ireturn, 1) := by decide +kernel
theorem dJ9_min_7cf53_0 : decode cJ9_min_7cf53 0 = .ok (.iload_n 0, 1) := by decide +kernel
theorem dJ9_min_7cf53_1 : decode cJ9_min_7cf53 1 = .ok (.iload_n 1, 1) := by decide +kernel
theorem dJ9_min_7cf53_2 : decode cJ9_min_7cf53 2 = .ok (.if_icmp .gt 7, 3) := by decide +kernel
theorem dJ9_min_7cf53_5 : decode cJ9_min_7cf53 5 = .ok (.iload_n 0, 1) := by decide +kernel
theorem dJ9_min_7cf53_6 : decode cJ9_min_7cf53 6 = .ok (.goto 4, 3) := by decide +kernel
theorem dJ9_min_7cf53_9 : decode cJ9_min_7cf53 9 = .ok (.iload_n 1, 1) := by decide +kernel
theorem dJ9_min_7cf53_10 : decode cJ9_min_7cf53 10 = .ok (.ireturn, 1) := by decide +kernel
theorem dJ0_length_8abf5_0 : decode cJ0_length_8abf5 0 = .ok (.aload_n 0, 1) := by decide +kernel
theorem dJ0_length_8abf5_1 : decode cJ0_length_8abf5 1 = .ok (.getfield 9, 3) := by decide +kernel
theorem dJ0_length_8abf5_4 : decode cJ0_length_8abf5 4 = .ok (.arraylength, 1) := by decide +kernel
theorem dJ0_length_8abf5_5 : decode cJ0_length_8abf5 5 = .ok (.aload_n 0, 1) := by decide +kernel
theorem dJ0_length_8abf5_6 : decode cJ0_length_8abf5 6 = .ok (.invokevirtual 335, 3) := by decide +kernel
theorem dJ0_length_8abf5_9 : decode cJ0_length_8abf5 9 = .ok (.ishr, 1) := by decide +kernel
theorem dJ0_length_8abf5_10 : decode cJ0_length_8abf5 10 = .ok (.ireturn, 1) := by decide +kernel
theorem dJ0_charAt_5068e_0 : decode cJ0_charAt_5068e 0 = .ok (.aload_n 0, 1) := by decide +kernel
theorem dJ0_charAt_5068e_1 : decode cJ0_charAt_5068e 1 = .ok (.invokevirtual 492, 3) := by decide +kernel
theorem dJ0_charAt_5068e_4 : decode cJ0_charAt_5068e 4 = .ok (.ifCond .eq 12, 3) := by decide +kernel
theorem dJ0_charAt_5068e_7 : decode cJ0_charAt_5068e 7 = .ok (.aload_n 0, 1) := by decide +kernel
theorem dJ0_charAt_5068e_8 : decode cJ0_charAt_5068e 8 = .ok (.getfield 9, 3) := by decide +kernel
theorem dJ0_charAt_5068e_11 : decode cJ0_charAt_5068e 11 = .ok (.iload_n 1, 1) := by decide +kernel
theorem dJ0_charAt_5068e_12 : decode cJ0_charAt_5068e 12 = .ok (.invokestatic 495, 3) := by decide +kernel
theorem dJ0_charAt_5068e_15 : decode cJ0_charAt_5068e 15 = .ok (.ireturn, 1) := by decide +kernel
theorem dJ0_charAt_5068e_16 : decode cJ0_charAt_5068e 16 = .ok (.aload_n 0, 1) := by decide +kernel
theorem dJ0_charAt_5068e_17 : decode cJ0_charAt_5068e 17 = .ok (.getfield 9, 3) := by decide +kernel
theorem dJ0_charAt_5068e_20 : decode cJ0_charAt_5068e 20 = .ok (.iload_n 1, 1) := by decide +kernel
theorem dJ0_charAt_5068e_21 : decode cJ0_charAt_5068e 21 = .ok (.invokestatic 498, 3) := by decide +kernel
theorem dJ0_charAt_5068e_24 : decode cJ0_charAt_5068e 24 = .ok (.ireturn, 1) := by decide +kernel
theorem dJ0_coder_7d493_0 : decode cJ0_coder_7d493 0 = .ok (.getstatic 38, 3) := by decide +kernel
theorem dJ0_coder_7d493_3 : decode cJ0_coder_7d493 3 = .ok (.ifCond .eq 10, 3) := by decide +kernel
theorem dJ0_coder_7d493_6 : decode cJ0_coder_7d493 6 = .ok (.aload_n 0, 1) := by decide +kernel
theorem dJ0_coder_7d493_7 : decode cJ0_coder_7d493 7 = .ok (.getfield 15, 3) := by decide +kernel
theorem dJ0_coder_7d493_10 : decode cJ0_coder_7d493 10 = .ok (.goto 4, 3) := by decide +kernel
theorem dJ0_coder_7d493_13 : decode cJ0_coder_7d493 13 = .ok (.iconst 1, 1) := by decide +kernel
theorem dJ0_coder_7d493_14 : decode cJ0_coder_7d493 14 = .ok (.ireturn, 1) := by decide +kernel
theorem dJ0_isLatin1_aae02_0 : decode cJ0_isLatin1_aae02 0 = .ok (.getstatic 38, 3) := by decide +kernel
theorem dJ0_isLatin1_aae02_3 : decode cJ0_isLatin1_aae02 3 = .ok (.ifCond .eq 14, 3) := by decide +kernel
theorem dJ0_isLatin1_aae02_6 : decode cJ0_isLatin1_aae02 6 = .ok (.aload_n 0, 1) := by decide +kernel
theorem dJ0_isLatin1_aae02_7 : decode cJ0_isLatin1_aae02 7 = .ok (.getfield 15, 3) := by decide +kernel
theorem dJ0_isLatin1_aae02_10 : decode cJ0_isLatin1_aae02 10 = .ok (.ifCond .ne 7, 3) := by decide +kernel
theorem dJ0_isLatin1_aae02_13 : decode cJ0_isLatin1_aae02 13 = .ok (.iconst 1, 1) := by decide +kernel
theorem dJ0_isLatin1_aae02_14 : decode cJ0_isLatin1_aae02 14 = .ok (.goto 4, 3) := by decide +kernel
theorem dJ0_isLatin1_aae02_17 : decode cJ0_isLatin1_aae02 17 = .ok (.iconst 0, 1) := by decide +kernel
theorem dJ0_isLatin1_aae02_18 : decode cJ0_isLatin1_aae02 18 = .ok (.ireturn, 1) := by decide +kernel
theorem dJ0_checkIndex_df160_0 : decode cJ0_checkIndex_df160 0 = .ok (.iload_n 0, 1) := by decide +kernel
theorem dJ0_checkIndex_df160_1 : decode cJ0_checkIndex_df160 1 = .ok (.iload_n 1, 1) := by decide +kernel
theorem dJ0_checkIndex_df160_2 : decode cJ0_checkIndex_df160 2 = .ok (.getstatic 1053, 3) := by decide +kernel
theorem dJ0_checkIndex_df160_5 : decode cJ0_checkIndex_df160 5 = .ok (.invokestatic 1059, 3) := by decide +kernel
theorem dJ0_checkIndex_df160_8 : decode cJ0_checkIndex_df160 8 = .ok (.pop, 1) := by decide +kernel
theorem dJ0_checkIndex_df160_9 : decode cJ0_checkIndex_df160 9 = .ok (.return_, 1) := by decide +kernel
theorem dJ1_charAt_3b067_0 : decode cJ1_charAt_3b067 0 = .ok (.iload_n 1, 1) := by decide +kernel
theorem dJ1_charAt_3b067_1 : decode cJ1_charAt_3b067 1 = .ok (.aload_n 0, 1) := by decide +kernel
theorem dJ1_charAt_3b067_2 : decode cJ1_charAt_3b067 2 = .ok (.arraylength, 1) := by decide +kernel
theorem dJ1_charAt_3b067_3 : decode cJ1_charAt_3b067 3 = .ok (.invokestatic 9, 3) := by decide +kernel
theorem dJ1_charAt_3b067_6 : decode cJ1_charAt_3b067 6 = .ok (.aload_n 0, 1) := by decide +kernel
theorem dJ1_charAt_3b067_7 : decode cJ1_charAt_3b067 7 = .ok (.iload_n 1, 1) := by decide +kernel
theorem dJ1_charAt_3b067_8 : decode cJ1_charAt_3b067 8 = .ok (.baload, 1) := by decide +kernel
theorem dJ1_charAt_3b067_9 : decode cJ1_charAt_3b067 9 = .ok (.sipush 255, 3) := by decide +kernel
theorem dJ1_charAt_3b067_12 : decode cJ1_charAt_3b067 12 = .ok (.iand, 1) := by decide +kernel
theorem dJ1_charAt_3b067_13 : decode cJ1_charAt_3b067 13 = .ok (.i2c, 1) := by decide +kernel
theorem dJ1_charAt_3b067_14 : decode cJ1_charAt_3b067 14 = .ok (.ireturn, 1) := by decide +kernel
theorem dJ2_getChar_3b067_0 : decode cJ2_getChar_3b067 0 = .ok (.getstatic 44, 3) := by decide +kernel
theorem dJ2_getChar_3b067_3 : decode cJ2_getChar_3b067 3 = .ok (.ifCond .ne 25, 3) := by decide +kernel
theorem dJ2_getChar_3b067_6 : decode cJ2_getChar_3b067 6 = .ok (.iload_n 1, 1) := by decide +kernel
theorem dJ2_getChar_3b067_7 : decode cJ2_getChar_3b067 7 = .ok (.ifCond .lt 11, 3) := by decide +kernel
theorem dJ2_getChar_3b067_10 : decode cJ2_getChar_3b067 10 = .ok (.iload_n 1, 1) := by decide +kernel
theorem dJ2_getChar_3b067_11 : decode cJ2_getChar_3b067 11 = .ok (.aload_n 0, 1) := by decide +kernel
theorem dJ2_getChar_3b067_12 : decode cJ2_getChar_3b067 12 = .ok (.invokestatic 48, 3) := by decide +kernel
theorem dJ2_getChar_3b067_15 : decode cJ2_getChar_3b067 15 = .ok (.if_icmp .lt 13, 3) := by decide +kernel
theorem dJ2_getChar_3b067_18 : decode cJ2_getChar_3b067 18 = .ok (.new 52, 3) := by decide +kernel
theorem dJ2_getChar_3b067_21 : decode cJ2_getChar_3b067 21 = .ok (.dup, 1) := by decide +kernel
theorem dJ2_getChar_3b067_22 : decode cJ2_getChar_3b067 22 = .ok (.ldc 54, 2) := by decide +kernel
theorem dJ2_getChar_3b067_24 : decode cJ2_getChar_3b067 24 = .ok (.invokespecial 56, 3) := by decide +kernel
theorem dJ2_getChar_3b067_27 : decode cJ2_getChar_3b067 27 = .ok (.athrow, 1) := by decide +kernel
theorem dJ2_getChar_3b067_28 : decode cJ2_getChar_3b067 28 = .ok (.iload_n 1, 1) := by decide +kernel
theorem dJ2_getChar_3b067_29 : decode cJ2_getChar_3b067 29 = .ok (.iconst 1, 1) := by decide +kernel
theorem dJ2_getChar_3b067_30 : decode cJ2_getChar_3b067 30 = .ok (.ishl, 1) := by decide +kernel
theorem dJ2_getChar_3b067_31 : decode cJ2_getChar_3b067 31 = .ok (.istore_n 1, 1) := by decide +kernel
theorem dJ2_getChar_3b067_32 : decode cJ2_getChar_3b067 32 = .ok (.aload_n 0, 1) := by decide +kernel
theorem dJ2_getChar_3b067_33 : decode cJ2_getChar_3b067 33 = .ok (.iload_n 1, 1) := by decide +kernel
theorem dJ2_getChar_3b067_34 : decode cJ2_getChar_3b067 34 = .ok (.iinc 1 1, 3) := by decide +kernel
theorem dJ2_getChar_3b067_37 : decode cJ2_getChar_3b067 37 = .ok (.baload, 1) := by decide +kernel
theorem dJ2_getChar_3b067_38 : decode cJ2_getChar_3b067 38 = .ok (.sipush 255, 3) := by decide +kernel
theorem dJ2_getChar_3b067_41 : decode cJ2_getChar_3b067 41 = .ok (.iand, 1) := by decide +kernel
theorem dJ2_getChar_3b067_42 : decode cJ2_getChar_3b067 42 = .ok (.getstatic 59, 3) := by decide +kernel
theorem dJ2_getChar_3b067_45 : decode cJ2_getChar_3b067 45 = .ok (.ishl, 1) := by decide +kernel
theorem dJ2_getChar_3b067_46 : decode cJ2_getChar_3b067 46 = .ok (.aload_n 0, 1) := by decide +kernel
theorem dJ2_getChar_3b067_47 : decode cJ2_getChar_3b067 47 = .ok (.iload_n 1, 1) := by decide +kernel
theorem dJ2_getChar_3b067_48 : decode cJ2_getChar_3b067 48 = .ok (.baload, 1) := by decide +kernel
theorem dJ2_getChar_3b067_49 : decode cJ2_getChar_3b067 49 = .ok (.sipush 255, 3) := by decide +kernel
theorem dJ2_getChar_3b067_52 : decode cJ2_getChar_3b067 52 = .ok (.iand, 1) := by decide +kernel
theorem dJ2_getChar_3b067_53 : decode cJ2_getChar_3b067 53 = .ok (.getstatic 63, 3) := by decide +kernel
theorem dJ2_getChar_3b067_56 : decode cJ2_getChar_3b067 56 = .ok (.ishl, 1) := by decide +kernel
theorem dJ2_getChar_3b067_57 : decode cJ2_getChar_3b067 57 = .ok (.ior, 1) := by decide +kernel
theorem dJ2_getChar_3b067_58 : decode cJ2_getChar_3b067 58 = .ok (.i2c, 1) := by decide +kernel
theorem dJ2_getChar_3b067_59 : decode cJ2_getChar_3b067 59 = .ok (.ireturn, 1) := by decide +kernel
theorem dJ2_length_9d52b_0 : decode cJ2_length_9d52b 0 = .ok (.aload_n 0, 1) := by decide +kernel
theorem dJ2_length_9d52b_1 : decode cJ2_length_9d52b 1 = .ok (.arraylength, 1) := by decide +kernel
theorem dJ2_length_9d52b_2 : decode cJ2_length_9d52b 2 = .ok (.iconst 1, 1) := by decide +kernel
theorem dJ2_length_9d52b_3 : decode cJ2_length_9d52b 3 = .ok (.ishr, 1) := by decide +kernel
theorem dJ2_length_9d52b_4 : decode cJ2_length_9d52b 4 = .ok (.ireturn, 1) := by decide +kernel
theorem dJ2_charAt_3b067_0 : decode cJ2_charAt_3b067 0 = .ok (.iload_n 1, 1) := by decide +kernel
theorem dJ2_charAt_3b067_1 : decode cJ2_charAt_3b067 1 = .ok (.aload_n 0, 1) := by decide +kernel
theorem dJ2_charAt_3b067_2 : decode cJ2_charAt_3b067 2 = .ok (.invokestatic 67, 3) := by decide +kernel
theorem dJ2_charAt_3b067_5 : decode cJ2_charAt_3b067 5 = .ok (.aload_n 0, 1) := by decide +kernel
theorem dJ2_charAt_3b067_6 : decode cJ2_charAt_3b067 6 = .ok (.iload_n 1, 1) := by decide +kernel
theorem dJ2_charAt_3b067_7 : decode cJ2_charAt_3b067 7 = .ok (.invokestatic 71, 3) := by decide +kernel
theorem dJ2_charAt_3b067_10 : decode cJ2_charAt_3b067 10 = .ok (.ireturn, 1) := by decide +kernel
theorem dJ2_checkIndex_2214a_0 : decode cJ2_checkIndex_2214a 0 = .ok (.iload_n 0, 1) := by decide +kernel
theorem dJ2_checkIndex_2214a_1 : decode cJ2_checkIndex_2214a 1 = .ok (.aload_n 1, 1) := by decide +kernel
theorem dJ2_checkIndex_2214a_2 : decode cJ2_checkIndex_2214a 2 = .ok (.invokestatic 48, 3) := by decide +kernel
theorem dJ2_checkIndex_2214a_5 : decode cJ2_checkIndex_2214a 5 = .ok (.invokestatic 414, 3) := by decide +kernel
theorem dJ2_checkIndex_2214a_8 : decode cJ2_checkIndex_2214a 8 = .ok (.return_, 1) := by decide +kernel
theorem dJ7_fill_53178_0 : decode cJ7_fill_53178 0 = .ok (.iconst 0, 1) := by decide +kernel
theorem dJ7_fill_53178_1 : decode cJ7_fill_53178 1 = .ok (.istore_n 2, 1) := by decide +kernel
theorem dJ7_fill_53178_2 : decode cJ7_fill_53178 2 = .ok (.aload_n 0, 1) := by decide +kernel
theorem dJ7_fill_53178_3 : decode cJ7_fill_53178 3 = .ok (.arraylength, 1) := by decide +kernel
theorem dJ7_fill_53178_4 : decode cJ7_fill_53178 4 = .ok (.istore_n 3, 1) := by decide +kernel
theorem dJ7_fill_53178_5 : decode cJ7_fill_53178 5 = .ok (.iload_n 2, 1) := by decide +kernel
theorem dJ7_fill_53178_6 : decode cJ7_fill_53178 6 = .ok (.iload_n 3, 1) := by decide +kernel
theorem dJ7_fill_53178_7 : decode cJ7_fill_53178 7 = .ok (.if_icmp .ge 13, 3) := by decide +kernel
theorem dJ7_fill_53178_10 : decode cJ7_fill_53178 10 = .ok (.aload_n 0, 1) := by decide +kernel
theorem dJ7_fill_53178_11 : decode cJ7_fill_53178 11 = .ok (.iload_n 2, 1) := by decide +kernel
theorem dJ7_fill_53178_12 : decode cJ7_fill_53178 12 = .ok (.iload_n 1, 1) := by decide +kernel
theorem dJ7_fill_53178_13 : decode cJ7_fill_53178 13 = .ok (.iastore, 1) := by decide +kernel
theorem dJ7_fill_53178_14 : decode cJ7_fill_53178 14 = .ok (.iinc 2 1, 3) := by decide +kernel
theorem dJ7_fill_53178_17 : decode cJ7_fill_53178 17 = .ok (.goto (-12), 3) := by decide +kernel
theorem dJ7_fill_53178_20 : decode cJ7_fill_53178 20 = .ok (.return_, 1) := by decide +kernel
theorem dJ3_checkIndex_8e157_0 : decode cJ3_checkIndex_8e157 0 = .ok (.iload_n 0, 1) := by decide +kernel
theorem dJ3_checkIndex_8e157_1 : decode cJ3_checkIndex_8e157 1 = .ok (.ifCond .lt 8, 3) := by decide +kernel
theorem dJ3_checkIndex_8e157_4 : decode cJ3_checkIndex_8e157 4 = .ok (.iload_n 0, 1) := by decide +kernel
theorem dJ3_checkIndex_8e157_5 : decode cJ3_checkIndex_8e157 5 = .ok (.iload_n 1, 1) := by decide +kernel
theorem dJ3_checkIndex_8e157_6 : decode cJ3_checkIndex_8e157 6 = .ok (.if_icmp .lt 10, 3) := by decide +kernel
theorem dJ3_checkIndex_8e157_9 : decode cJ3_checkIndex_8e157 9 = .ok (.aload_n 2, 1) := by decide +kernel
theorem dJ3_checkIndex_8e157_10 : decode cJ3_checkIndex_8e157 10 = .ok (.iload_n 0, 1) := by decide +kernel
theorem dJ3_checkIndex_8e157_11 : decode cJ3_checkIndex_8e157 11 = .ok (.iload_n 1, 1) := by decide +kernel
theorem dJ3_checkIndex_8e157_12 : decode cJ3_checkIndex_8e157 12 = .ok (.invokestatic 95, 3) := by decide +kernel
theorem dJ3_checkIndex_8e157_15 : decode cJ3_checkIndex_8e157 15 = .ok (.athrow, 1) := by decide +kernel
theorem dJ3_checkIndex_8e157_16 : decode cJ3_checkIndex_8e157 16 = .ok (.iload_n 0, 1) := by decide +kernel
theorem dJ3_checkIndex_8e157_17 : decode cJ3_checkIndex_8e157 17 = .ok (.ireturn, 1) := by decide +kernel
