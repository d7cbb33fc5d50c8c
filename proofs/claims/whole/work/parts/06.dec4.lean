theorem dX8_irons_106 : decode cX8_irons 106 = .ok (.goto (-64), 3) := by decide +kernel
theorem dX8_irons_109 : decode cX8_irons 109 = .ok (.return_, 1) := by decide +kernel
theorem dX8_creased_0 : decode cX8_creased 0 = .ok (.iconst 0, 1) := by decide +kernel
theorem dX8_creased_1 : decode cX8_creased 1 = .ok (.istore_n 1, 1) := by decide +kernel
theorem dX8_creased_2 : decode cX8_creased 2 = .ok (.iconst 0, 1) := by decide +kernel
theorem dX8_creased_3 : decode cX8_creased 3 = .ok (.istore_n 2, 1) := by decide +kernel
theorem dX8_creased_4 : decode cX8_creased 4 = .ok (.iload_n 2, 1) := by decide +kernel
theorem dX8_creased_5 : decode cX8_creased 5 = .ok (.aload_n 0, 1) := by decide +kernel
theorem dX8_creased_6 : decode cX8_creased 6 = .ok (.getfield 73, 3) := by decide +kernel
theorem dX8_creased_9 : decode cX8_creased 9 = .ok (.if_icmp .ge 24, 3) := by decide +kernel
theorem dX8_creased_12 : decode cX8_creased 12 = .ok (.iload_n 1, 1) := by decide +kernel
theorem dX8_creased_13 : decode cX8_creased 13 = .ok (.aload_n 0, 1) := by decide +kernel
theorem dX8_creased_14 : decode cX8_creased 14 = .ok (.getfield 35, 3) := by decide +kernel
theorem dX8_creased_17 : decode cX8_creased 17 = .ok (.iload_n 2, 1) := by decide +kernel
theorem dX8_creased_18 : decode cX8_creased 18 = .ok (.iaload, 1) := by decide +kernel
theorem dX8_creased_19 : decode cX8_creased 19 = .ok (.aload_n 0, 1) := by decide +kernel
theorem dX8_creased_20 : decode cX8_creased 20 = .ok (.iload_n 2, 1) := by decide +kernel
theorem dX8_creased_21 : decode cX8_creased 21 = .ok (.invokevirtual 105, 3) := by decide +kernel
theorem dX8_creased_24 : decode cX8_creased 24 = .ok (.imul, 1) := by decide +kernel
theorem dX8_creased_25 : decode cX8_creased 25 = .ok (.iadd, 1) := by decide +kernel
theorem dX8_creased_26 : decode cX8_creased 26 = .ok (.istore_n 1, 1) := by decide +kernel
theorem dX8_creased_27 : decode cX8_creased 27 = .ok (.iinc 2 1, 3) := by decide +kernel
theorem dX8_creased_30 : decode cX8_creased 30 = .ok (.goto (-26), 3) := by decide +kernel
theorem dX8_creased_33 : decode cX8_creased 33 = .ok (.iload_n 1, 1) := by decide +kernel
theorem dX8_creased_34 : decode cX8_creased 34 = .ok (.ireturn, 1) := by decide +kernel
theorem dX8_iron_0 : decode cX8_iron 0 = .ok (.aload_n 0, 1) := by decide +kernel
theorem dX8_iron_1 : decode cX8_iron 1 = .ok (.iload_n 1, 1) := by decide +kernel
theorem dX8_iron_2 : decode cX8_iron 2 = .ok (.invokevirtual 82, 3) := by decide +kernel
theorem dX8_iron_5 : decode cX8_iron 5 = .ok (.ifCond .ne 6, 3) := by decide +kernel
theorem dX8_iron_8 : decode cX8_iron 8 = .ok (.bipush (-2), 2) := by decide +kernel
theorem dX8_iron_10 : decode cX8_iron 10 = .ok (.ireturn, 1) := by decide +kernel
theorem dX8_iron_11 : decode cX8_iron 11 = .ok (.aload_n 0, 1) := by decide +kernel
theorem dX8_iron_12 : decode cX8_iron 12 = .ok (.invokevirtual 108, 3) := by decide +kernel
theorem dX8_iron_15 : decode cX8_iron 15 = .ok (.aload_n 0, 1) := by decide +kernel
theorem dX8_iron_16 : decode cX8_iron 16 = .ok (.iload_n 1, 1) := by decide +kernel
theorem dX8_iron_17 : decode cX8_iron 17 = .ok (.invokevirtual 252, 3) := by decide +kernel
theorem dX8_iron_20 : decode cX8_iron 20 = .ok (.iconst 0, 1) := by decide +kernel
theorem dX8_iron_21 : decode cX8_iron 21 = .ok (.istore_n 2, 1) := by decide +kernel
theorem dX8_iron_22 : decode cX8_iron 22 = .ok (.iload_n 2, 1) := by decide +kernel
theorem dX8_iron_23 : decode cX8_iron 23 = .ok (.aload_n 0, 1) := by decide +kernel
theorem dX8_iron_24 : decode cX8_iron 24 = .ok (.getfield 73, 3) := by decide +kernel
theorem dX8_iron_27 : decode cX8_iron 27 = .ok (.if_icmp .ge 25, 3) := by decide +kernel
theorem dX8_iron_30 : decode cX8_iron 30 = .ok (.aload_n 0, 1) := by decide +kernel
theorem dX8_iron_31 : decode cX8_iron 31 = .ok (.getfield 32, 3) := by decide +kernel
theorem dX8_iron_34 : decode cX8_iron 34 = .ok (.iconst 3, 1) := by decide +kernel
theorem dX8_iron_35 : decode cX8_iron 35 = .ok (.iload_n 2, 1) := by decide +kernel
theorem dX8_iron_36 : decode cX8_iron 36 = .ok (.imul, 1) := by decide +kernel
theorem dX8_iron_37 : decode cX8_iron 37 = .ok (.iconst 1, 1) := by decide +kernel
theorem dX8_iron_38 : decode cX8_iron 38 = .ok (.iadd, 1) := by decide +kernel
theorem dX8_iron_39 : decode cX8_iron 39 = .ok (.aload_n 0, 1) := by decide +kernel
theorem dX8_iron_40 : decode cX8_iron 40 = .ok (.getfield 35, 3) := by decide +kernel
theorem dX8_iron_43 : decode cX8_iron 43 = .ok (.iload_n 2, 1) := by decide +kernel
theorem dX8_iron_44 : decode cX8_iron 44 = .ok (.iaload, 1) := by decide +kernel
theorem dX8_iron_45 : decode cX8_iron 45 = .ok (.iastore, 1) := by decide +kernel
theorem dX8_iron_46 : decode cX8_iron 46 = .ok (.iinc 2 1, 3) := by decide +kernel
theorem dX8_iron_49 : decode cX8_iron 49 = .ok (.goto (-27), 3) := by decide +kernel
theorem dX8_iron_52 : decode cX8_iron 52 = .ok (.aload_n 0, 1) := by decide +kernel
theorem dX8_iron_53 : decode cX8_iron 53 = .ok (.getfield 35, 3) := by decide +kernel
theorem dX8_iron_56 : decode cX8_iron 56 = .ok (.iload_n 1, 1) := by decide +kernel
theorem dX8_iron_57 : decode cX8_iron 57 = .ok (.iaload, 1) := by decide +kernel
theorem dX8_iron_58 : decode cX8_iron 58 = .ok (.ireturn, 1) := by decide +kernel
theorem dX8_plainBut_0 : decode cX8_plainBut 0 = .ok (.aload_n 0, 1) := by decide +kernel
theorem dX8_plainBut_1 : decode cX8_plainBut 1 = .ok (.invokevirtual 108, 3) := by decide +kernel
theorem dX8_plainBut_4 : decode cX8_plainBut 4 = .ok (.iconst 0, 1) := by decide +kernel
theorem dX8_plainBut_5 : decode cX8_plainBut 5 = .ok (.istore_n 2, 1) := by decide +kernel
theorem dX8_plainBut_6 : decode cX8_plainBut 6 = .ok (.iload_n 2, 1) := by decide +kernel
theorem dX8_plainBut_7 : decode cX8_plainBut 7 = .ok (.aload_n 0, 1) := by decide +kernel
theorem dX8_plainBut_8 : decode cX8_plainBut 8 = .ok (.getfield 73, 3) := by decide +kernel
theorem dX8_plainBut_11 : decode cX8_plainBut 11 = .ok (.if_icmp .ge 19, 3) := by decide +kernel
theorem dX8_plainBut_14 : decode cX8_plainBut 14 = .ok (.iload_n 2, 1) := by decide +kernel
theorem dX8_plainBut_15 : decode cX8_plainBut 15 = .ok (.iload_n 1, 1) := by decide +kernel
theorem dX8_plainBut_16 : decode cX8_plainBut 16 = .ok (.if_icmp .eq 8, 3) := by decide +kernel
theorem dX8_plainBut_19 : decode cX8_plainBut 19 = .ok (.aload_n 0, 1) := by decide +kernel
theorem dX8_plainBut_20 : decode cX8_plainBut 20 = .ok (.iload_n 2, 1) := by decide +kernel
theorem dX8_plainBut_21 : decode cX8_plainBut 21 = .ok (.invokevirtual 252, 3) := by decide +kernel
theorem dX8_plainBut_24 : decode cX8_plainBut 24 = .ok (.iinc 2 1, 3) := by decide +kernel
theorem dX8_plainBut_27 : decode cX8_plainBut 27 = .ok (.goto (-21), 3) := by decide +kernel
theorem dX8_plainBut_30 : decode cX8_plainBut 30 = .ok (.aload_n 0, 1) := by decide +kernel
theorem dX8_plainBut_31 : decode cX8_plainBut 31 = .ok (.invokevirtual 256, 3) := by decide +kernel
theorem dX8_plainBut_34 : decode cX8_plainBut 34 = .ok (.ireturn, 1) := by decide +kernel
theorem dX8_isTold_0 : decode cX8_isTold 0 = .ok (.iload_n 1, 1) := by decide +kernel
theorem dX8_isTold_1 : decode cX8_isTold 1 = .ok (.i2l, 1) := by decide +kernel
theorem dX8_isTold_2 : decode cX8_isTold 2 = .ok (.lconst 0, 1) := by decide +kernel
theorem dX8_isTold_3 : decode cX8_isTold 3 = .ok (.lconst 1, 1) := by decide +kernel
theorem dX8_isTold_4 : decode cX8_isTold 4 = .ok (.invokestatic 76, 3) := by decide +kernel
theorem dX8_isTold_7 : decode cX8_isTold 7 = .ok (.ifCond .ne 28, 3) := by decide +kernel
theorem dX8_isTold_10 : decode cX8_isTold 10 = .ok (.iload_n 1, 1) := by decide +kernel
theorem dX8_isTold_11 : decode cX8_isTold 11 = .ok (.i2l, 1) := by decide +kernel
theorem dX8_isTold_12 : decode cX8_isTold 12 = .ok (.ldc2_w 155, 3) := by decide +kernel
theorem dX8_isTold_15 : decode cX8_isTold 15 = .ok (.ldc2_w 259, 3) := by decide +kernel
theorem dX8_isTold_18 : decode cX8_isTold 18 = .ok (.invokestatic 76, 3) := by decide +kernel
theorem dX8_isTold_21 : decode cX8_isTold 21 = .ok (.ifCond .eq 18, 3) := by decide +kernel
theorem dX8_isTold_24 : decode cX8_isTold 24 = .ok (.aload_n 0, 1) := by decide +kernel
theorem dX8_isTold_25 : decode cX8_isTold 25 = .ok (.iload_n 1, 1) := by decide +kernel
theorem dX8_isTold_26 : decode cX8_isTold 26 = .ok (.bipush 10, 2) := by decide +kernel
theorem dX8_isTold_28 : decode cX8_isTold 28 = .ok (.irem, 1) := by decide +kernel
theorem dX8_isTold_29 : decode cX8_isTold 29 = .ok (.invokevirtual 82, 3) := by decide +kernel
theorem dX8_isTold_32 : decode cX8_isTold 32 = .ok (.ifCond .eq 7, 3) := by decide +kernel
theorem dX8_isTold_35 : decode cX8_isTold 35 = .ok (.iconst 1, 1) := by decide +kernel
theorem dX8_isTold_36 : decode cX8_isTold 36 = .ok (.goto 4, 3) := by decide +kernel
theorem dX8_isTold_39 : decode cX8_isTold 39 = .ok (.iconst 0, 1) := by decide +kernel
theorem dX8_isTold_40 : decode cX8_isTold 40 = .ok (.ireturn, 1) := by decide +kernel
theorem dX8_tellsOf_0 : decode cX8_tellsOf 0 = .ok (.iload_n 1, 1) := by decide +kernel
theorem dX8_tellsOf_1 : decode cX8_tellsOf 1 = .ok (.ifCond .ne 10, 3) := by decide +kernel
theorem dX8_tellsOf_4 : decode cX8_tellsOf 4 = .ok (.aload_n 0, 1) := by decide +kernel
theorem dX8_tellsOf_5 : decode cX8_tellsOf 5 = .ok (.invokevirtual 256, 3) := by decide +kernel
theorem dX8_tellsOf_8 : decode cX8_tellsOf 8 = .ok (.goto 42, 3) := by decide +kernel
theorem dX8_tellsOf_11 : decode cX8_tellsOf 11 = .ok (.iload_n 1, 1) := by decide +kernel
theorem dX8_tellsOf_12 : decode cX8_tellsOf 12 = .ok (.iconst 1, 1) := by decide +kernel
theorem dX8_tellsOf_13 : decode cX8_tellsOf 13 = .ok (.if_icmp .ne 10, 3) := by decide +kernel
theorem dX8_tellsOf_16 : decode cX8_tellsOf 16 = .ok (.aload_n 0, 1) := by decide +kernel
theorem dX8_tellsOf_17 : decode cX8_tellsOf 17 = .ok (.getfield 239, 3) := by decide +kernel
theorem dX8_tellsOf_20 : decode cX8_tellsOf 20 = .ok (.goto 30, 3) := by decide +kernel
theorem dX8_tellsOf_23 : decode cX8_tellsOf 23 = .ok (.iload_n 1, 1) := by decide +kernel
theorem dX8_tellsOf_24 : decode cX8_tellsOf 24 = .ok (.bipush 20, 2) := by decide +kernel
theorem dX8_tellsOf_26 : decode cX8_tellsOf 26 = .ok (.if_icmp .ge 15, 3) := by decide +kernel
theorem dX8_tellsOf_29 : decode cX8_tellsOf 29 = .ok (.aload_n 0, 1) := by decide +kernel
theorem dX8_tellsOf_30 : decode cX8_tellsOf 30 = .ok (.getfield 35, 3) := by decide +kernel
theorem dX8_tellsOf_33 : decode cX8_tellsOf 33 = .ok (.iload_n 1, 1) := by decide +kernel
theorem dX8_tellsOf_34 : decode cX8_tellsOf 34 = .ok (.bipush 10, 2) := by decide +kernel
theorem dX8_tellsOf_36 : decode cX8_tellsOf 36 = .ok (.isub, 1) := by decide +kernel
theorem dX8_tellsOf_37 : decode cX8_tellsOf 37 = .ok (.iaload, 1) := by decide +kernel
theorem dX8_tellsOf_38 : decode cX8_tellsOf 38 = .ok (.goto 12, 3) := by decide +kernel
theorem dX8_tellsOf_41 : decode cX8_tellsOf 41 = .ok (.aload_n 0, 1) := by decide +kernel
theorem dX8_tellsOf_42 : decode cX8_tellsOf 42 = .ok (.getfield 38, 3) := by decide +kernel
theorem dX8_tellsOf_45 : decode cX8_tellsOf 45 = .ok (.iload_n 1, 1) := by decide +kernel
theorem dX8_tellsOf_46 : decode cX8_tellsOf 46 = .ok (.bipush 20, 2) := by decide +kernel
theorem dX8_tellsOf_48 : decode cX8_tellsOf 48 = .ok (.isub, 1) := by decide +kernel
theorem dX8_tellsOf_49 : decode cX8_tellsOf 49 = .ok (.iaload, 1) := by decide +kernel
theorem dX8_tellsOf_50 : decode cX8_tellsOf 50 = .ok (.ireturn, 1) := by decide +kernel
theorem dX8_plain_0 : decode cX8_plain 0 = .ok (.aload_n 0, 1) := by decide +kernel
theorem dX8_plain_1 : decode cX8_plain 1 = .ok (.iload_n 1, 1) := by decide +kernel
theorem dX8_plain_2 : decode cX8_plain 2 = .ok (.invokevirtual 261, 3) := by decide +kernel
theorem dX8_plain_5 : decode cX8_plain 5 = .ok (.ifCond .ne 6, 3) := by decide +kernel
theorem dX8_plain_8 : decode cX8_plain 8 = .ok (.bipush (-2), 2) := by decide +kernel
theorem dX8_plain_10 : decode cX8_plain 10 = .ok (.ireturn, 1) := by decide +kernel
theorem dX8_plain_11 : decode cX8_plain 11 = .ok (.aload_n 0, 1) := by decide +kernel
theorem dX8_plain_12 : decode cX8_plain 12 = .ok (.iconst (-1), 1) := by decide +kernel
theorem dX8_plain_13 : decode cX8_plain 13 = .ok (.invokevirtual 264, 3) := by decide +kernel
theorem dX8_plain_16 : decode cX8_plain 16 = .ok (.pop, 1) := by decide +kernel
theorem dX8_plain_17 : decode cX8_plain 17 = .ok (.aload_n 0, 1) := by decide +kernel
theorem dX8_plain_18 : decode cX8_plain 18 = .ok (.iload_n 1, 1) := by decide +kernel
theorem dX8_plain_19 : decode cX8_plain 19 = .ok (.invokevirtual 267, 3) := by decide +kernel
theorem dX8_plain_22 : decode cX8_plain 22 = .ok (.ireturn, 1) := by decide +kernel
theorem dX8_isOrder_0 : decode cX8_isOrder 0 = .ok (.iconst 0, 1) := by decide +kernel
theorem dX8_isOrder_1 : decode cX8_isOrder 1 = .ok (.istore_n 2, 1) := by decide +kernel
theorem dX8_isOrder_2 : decode cX8_isOrder 2 = .ok (.iconst 0, 1) := by decide +kernel
theorem dX8_isOrder_3 : decode cX8_isOrder 3 = .ok (.istore_n 3, 1) := by decide +kernel
theorem dX8_isOrder_4 : decode cX8_isOrder 4 = .ok (.iload_n 3, 1) := by decide +kernel
theorem dX8_isOrder_5 : decode cX8_isOrder 5 = .ok (.aload_n 0, 1) := by decide +kernel
theorem dX8_isOrder_6 : decode cX8_isOrder 6 = .ok (.getfield 60, 3) := by decide +kernel
theorem dX8_isOrder_9 : decode cX8_isOrder 9 = .ok (.iload_n 1, 1) := by decide +kernel
theorem dX8_isOrder_10 : decode cX8_isOrder 10 = .ok (.iaload, 1) := by decide +kernel
theorem dX8_isOrder_11 : decode cX8_isOrder 11 = .ok (.if_icmp .ge 50, 3) := by decide +kernel
theorem dX8_isOrder_14 : decode cX8_isOrder 14 = .ok (.aload_n 0, 1) := by decide +kernel
theorem dX8_isOrder_15 : decode cX8_isOrder 15 = .ok (.getfield 63, 3) := by decide +kernel
theorem dX8_isOrder_18 : decode cX8_isOrder 18 = .ok (.bipush 40, 2) := by decide +kernel
theorem dX8_isOrder_20 : decode cX8_isOrder 20 = .ok (.iload_n 1, 1) := by decide +kernel
theorem dX8_isOrder_21 : decode cX8_isOrder 21 = .ok (.imul, 1) := by decide +kernel
theorem dX8_isOrder_22 : decode cX8_isOrder 22 = .ok (.iload_n 3, 1) := by decide +kernel
theorem dX8_isOrder_23 : decode cX8_isOrder 23 = .ok (.iadd, 1) := by decide +kernel
theorem dX8_isOrder_24 : decode cX8_isOrder 24 = .ok (.iaload, 1) := by decide +kernel
theorem dX8_isOrder_25 : decode cX8_isOrder 25 = .ok (.istore 4, 2) := by decide +kernel
theorem dX8_isOrder_27 : decode cX8_isOrder 27 = .ok (.aload_n 0, 1) := by decide +kernel
theorem dX8_isOrder_28 : decode cX8_isOrder 28 = .ok (.iload 4, 2) := by decide +kernel
theorem dX8_isOrder_30 : decode cX8_isOrder 30 = .ok (.invokevirtual 82, 3) := by decide +kernel
theorem dX8_isOrder_33 : decode cX8_isOrder 33 = .ok (.ifCond .eq 13, 3) := by decide +kernel
theorem dX8_isOrder_36 : decode cX8_isOrder 36 = .ok (.iload_n 2, 1) := by decide +kernel
theorem dX8_isOrder_37 : decode cX8_isOrder 37 = .ok (.iload 4, 2) := by decide +kernel
theorem dX8_isOrder_39 : decode cX8_isOrder 39 = .ok (.ishr, 1) := by decide +kernel
theorem dX8_isOrder_40 : decode cX8_isOrder 40 = .ok (.iconst 1, 1) := by decide +kernel
theorem dX8_isOrder_41 : decode cX8_isOrder 41 = .ok (.iand, 1) := by decide +kernel
theorem dX8_isOrder_42 : decode cX8_isOrder 42 = .ok (.iconst 1, 1) := by decide +kernel
theorem dX8_isOrder_43 : decode cX8_isOrder 43 = .ok (.if_icmp .ne 5, 3) := by decide +kernel
theorem dX8_isOrder_46 : decode cX8_isOrder 46 = .ok (.iconst 0, 1) := by decide +kernel
theorem dX8_isOrder_47 : decode cX8_isOrder 47 = .ok (.ireturn, 1) := by decide +kernel
theorem dX8_isOrder_48 : decode cX8_isOrder 48 = .ok (.iload_n 2, 1) := by decide +kernel
theorem dX8_isOrder_49 : decode cX8_isOrder 49 = .ok (.iconst 1, 1) := by decide +kernel
theorem dX8_isOrder_50 : decode cX8_isOrder 50 = .ok (.iload 4, 2) := by decide +kernel
theorem dX8_isOrder_52 : decode cX8_isOrder 52 = .ok (.ishl, 1) := by decide +kernel
theorem dX8_isOrder_53 : decode cX8_isOrder 53 = .ok (.ior, 1) := by decide +kernel
theorem dX8_isOrder_54 : decode cX8_isOrder 54 = .ok (.istore_n 2, 1) := by decide +kernel
theorem dX8_isOrder_55 : decode cX8_isOrder 55 = .ok (.iinc 3 1, 3) := by decide +kernel
theorem dX8_isOrder_58 : decode cX8_isOrder 58 = .ok (.goto (-54), 3) := by decide +kernel
theorem dX8_isOrder_61 : decode cX8_isOrder 61 = .ok (.iconst 1, 1) := by decide +kernel
theorem dX8_isOrder_62 : decode cX8_isOrder 62 = .ok (.ireturn, 1) := by decide +kernel
theorem dX8_order_0 : decode cX8_order 0 = .ok (.iload_n 1, 1) := by decide +kernel
theorem dX8_order_1 : decode cX8_order 1 = .ok (.invokestatic 270, 3) := by decide +kernel
theorem dX8_order_4 : decode cX8_order 4 = .ok (.ifCond .eq 11, 3) := by decide +kernel
theorem dX8_order_7 : decode cX8_order 7 = .ok (.aload_n 0, 1) := by decide +kernel
theorem dX8_order_8 : decode cX8_order 8 = .ok (.iload_n 2, 1) := by decide +kernel
theorem dX8_order_9 : decode cX8_order 9 = .ok (.invokevirtual 261, 3) := by decide +kernel
theorem dX8_order_12 : decode cX8_order 12 = .ok (.ifCond .ne 6, 3) := by decide +kernel
theorem dX8_order_15 : decode cX8_order 15 = .ok (.bipush (-2), 2) := by decide +kernel
theorem dX8_order_17 : decode cX8_order 17 = .ok (.ireturn, 1) := by decide +kernel
theorem dX8_order_18 : decode cX8_order 18 = .ok (.aload_n 0, 1) := by decide +kernel
theorem dX8_order_19 : decode cX8_order 19 = .ok (.getfield 53, 3) := by decide +kernel
theorem dX8_order_22 : decode cX8_order 22 = .ok (.iload_n 1, 1) := by decide +kernel
theorem dX8_order_23 : decode cX8_order 23 = .ok (.baload, 1) := by decide +kernel
theorem dX8_order_24 : decode cX8_order 24 = .ok (.ifCond .ne 6, 3) := by decide +kernel
theorem dX8_order_27 : decode cX8_order 27 = .ok (.bipush (-11), 2) := by decide +kernel
theorem dX8_order_29 : decode cX8_order 29 = .ok (.ireturn, 1) := by decide +kernel
theorem dX8_order_30 : decode cX8_order 30 = .ok (.aload_n 0, 1) := by decide +kernel
theorem dX8_order_31 : decode cX8_order 31 = .ok (.iload_n 1, 1) := by decide +kernel
theorem dX8_order_32 : decode cX8_order 32 = .ok (.invokevirtual 273, 3) := by decide +kernel
theorem dX8_order_35 : decode cX8_order 35 = .ok (.ifCond .ne 6, 3) := by decide +kernel
theorem dX8_order_38 : decode cX8_order 38 = .ok (.bipush (-2), 2) := by decide +kernel
theorem dX8_order_40 : decode cX8_order 40 = .ok (.ireturn, 1) := by decide +kernel
theorem dX8_order_41 : decode cX8_order 41 = .ok (.aload_n 0, 1) := by decide +kernel
theorem dX8_order_42 : decode cX8_order 42 = .ok (.invokevirtual 108, 3) := by decide +kernel
theorem dX8_order_45 : decode cX8_order 45 = .ok (.iconst 0, 1) := by decide +kernel
theorem dX8_order_46 : decode cX8_order 46 = .ok (.istore_n 3, 1) := by decide +kernel
theorem dX8_order_47 : decode cX8_order 47 = .ok (.iload_n 3, 1) := by decide +kernel
theorem dX8_order_48 : decode cX8_order 48 = .ok (.aload_n 0, 1) := by decide +kernel
theorem dX8_order_49 : decode cX8_order 49 = .ok (.getfield 60, 3) := by decide +kernel
theorem dX8_order_52 : decode cX8_order 52 = .ok (.iload_n 1, 1) := by decide +kernel
theorem dX8_order_53 : decode cX8_order 53 = .ok (.iaload, 1) := by decide +kernel
theorem dX8_order_54 : decode cX8_order 54 = .ok (.if_icmp .ge 24, 3) := by decide +kernel
theorem dX8_order_57 : decode cX8_order 57 = .ok (.aload_n 0, 1) := by decide +kernel
theorem dX8_order_58 : decode cX8_order 58 = .ok (.aload_n 0, 1) := by decide +kernel
theorem dX8_order_59 : decode cX8_order 59 = .ok (.getfield 63, 3) := by decide +kernel
theorem dX8_order_62 : decode cX8_order 62 = .ok (.bipush 40, 2) := by decide +kernel
theorem dX8_order_64 : decode cX8_order 64 = .ok (.iload_n 1, 1) := by decide +kernel
theorem dX8_order_65 : decode cX8_order 65 = .ok (.imul, 1) := by decide +kernel
theorem dX8_order_66 : decode cX8_order 66 = .ok (.iload_n 3, 1) := by decide +kernel
theorem dX8_order_67 : decode cX8_order 67 = .ok (.iadd, 1) := by decide +kernel
theorem dX8_order_68 : decode cX8_order 68 = .ok (.iaload, 1) := by decide +kernel
theorem dX8_order_69 : decode cX8_order 69 = .ok (.invokevirtual 252, 3) := by decide +kernel
theorem dX8_order_72 : decode cX8_order 72 = .ok (.iinc 3 1, 3) := by decide +kernel
theorem dX8_order_75 : decode cX8_order 75 = .ok (.goto (-28), 3) := by decide +kernel
theorem dX8_order_78 : decode cX8_order 78 = .ok (.aload_n 0, 1) := by decide +kernel
theorem dX8_order_79 : decode cX8_order 79 = .ok (.iload_n 2, 1) := by decide +kernel
theorem dX8_order_80 : decode cX8_order 80 = .ok (.invokevirtual 267, 3) := by decide +kernel
theorem dX8_order_83 : decode cX8_order 83 = .ok (.ireturn, 1) := by decide +kernel
theorem dX8_seeks_0 : decode cX8_seeks 0 = .ok (.iload_n 1, 1) := by decide +kernel
theorem dX8_seeks_1 : decode cX8_seeks 1 = .ok (.aload_n 0, 1) := by decide +kernel
theorem dX8_seeks_2 : decode cX8_seeks 2 = .ok (.getfield 73, 3) := by decide +kernel
theorem dX8_seeks_5 : decode cX8_seeks 5 = .ok (.if_icmp .ne 42, 3) := by decide +kernel
theorem dX8_seeks_8 : decode cX8_seeks 8 = .ok (.aload_n 0, 1) := by decide +kernel
theorem dX8_seeks_9 : decode cX8_seeks 9 = .ok (.invokevirtual 256, 3) := by decide +kernel
theorem dX8_seeks_12 : decode cX8_seeks 12 = .ok (.istore 4, 2) := by decide +kernel
theorem dX8_seeks_14 : decode cX8_seeks 14 = .ok (.aload_n 0, 1) := by decide +kernel
theorem dX8_seeks_15 : decode cX8_seeks 15 = .ok (.getfield 276, 3) := by decide +kernel
theorem dX8_seeks_18 : decode cX8_seeks 18 = .ok (.ifCond .eq 12, 3) := by decide +kernel
theorem dX8_seeks_21 : decode cX8_seeks 21 = .ok (.iload 4, 2) := by decide +kernel
theorem dX8_seeks_23 : decode cX8_seeks 23 = .ok (.aload_n 0, 1) := by decide +kernel
theorem dX8_seeks_24 : decode cX8_seeks 24 = .ok (.getfield 279, 3) := by decide +kernel
theorem dX8_seeks_27 : decode cX8_seeks 27 = .ok (.if_icmp .ge 19, 3) := by decide +kernel
theorem dX8_seeks_30 : decode cX8_seeks 30 = .ok (.aload_n 0, 1) := by decide +kernel
theorem dX8_seeks_31 : decode cX8_seeks 31 = .ok (.iconst 1, 1) := by decide +kernel
theorem dX8_seeks_32 : decode cX8_seeks 32 = .ok (.putfield 276, 3) := by decide +kernel
theorem dX8_seeks_35 : decode cX8_seeks 35 = .ok (.aload_n 0, 1) := by decide +kernel
theorem dX8_seeks_36 : decode cX8_seeks 36 = .ok (.iload 4, 2) := by decide +kernel
theorem dX8_seeks_38 : decode cX8_seeks 38 = .ok (.putfield 279, 3) := by decide +kernel
theorem dX8_seeks_41 : decode cX8_seeks 41 = .ok (.aload_n 0, 1) := by decide +kernel
theorem dX8_seeks_42 : decode cX8_seeks 42 = .ok (.iload_n 3, 1) := by decide +kernel
theorem dX8_seeks_43 : decode cX8_seeks 43 = .ok (.putfield 282, 3) := by decide +kernel
theorem dX8_seeks_46 : decode cX8_seeks 46 = .ok (.return_, 1) := by decide +kernel
theorem dX8_seeks_47 : decode cX8_seeks 47 = .ok (.iconst 0, 1) := by decide +kernel
theorem dX8_seeks_48 : decode cX8_seeks 48 = .ok (.istore 4, 2) := by decide +kernel
theorem dX8_seeks_50 : decode cX8_seeks 50 = .ok (.iload 4, 2) := by decide +kernel
theorem dX8_seeks_52 : decode cX8_seeks 52 = .ok (.aload_n 0, 1) := by decide +kernel
theorem dX8_seeks_53 : decode cX8_seeks 53 = .ok (.getfield 73, 3) := by decide +kernel
theorem dX8_seeks_56 : decode cX8_seeks 56 = .ok (.if_icmp .ge 28, 3) := by decide +kernel
theorem dX8_seeks_59 : decode cX8_seeks 59 = .ok (.aload_n 0, 1) := by decide +kernel
theorem dX8_seeks_60 : decode cX8_seeks 60 = .ok (.getfield 41, 3) := by decide +kernel
theorem dX8_seeks_63 : decode cX8_seeks 63 = .ok (.bipush 8, 2) := by decide +kernel
theorem dX8_seeks_65 : decode cX8_seeks 65 = .ok (.iload_n 1, 1) := by decide +kernel
theorem dX8_seeks_66 : decode cX8_seeks 66 = .ok (.imul, 1) := by decide +kernel
theorem dX8_seeks_67 : decode cX8_seeks 67 = .ok (.iload 4, 2) := by decide +kernel
theorem dX8_seeks_69 : decode cX8_seeks 69 = .ok (.iadd, 1) := by decide +kernel
theorem dX8_seeks_70 : decode cX8_seeks 70 = .ok (.aload_n 0, 1) := by decide +kernel
theorem dX8_seeks_71 : decode cX8_seeks 71 = .ok (.getfield 35, 3) := by decide +kernel
theorem dX8_seeks_74 : decode cX8_seeks 74 = .ok (.iload 4, 2) := by decide +kernel
theorem dX8_seeks_76 : decode cX8_seeks 76 = .ok (.iaload, 1) := by decide +kernel
theorem dX8_seeks_77 : decode cX8_seeks 77 = .ok (.iastore, 1) := by decide +kernel
theorem dX8_seeks_78 : decode cX8_seeks 78 = .ok (.iinc 4 1, 3) := by decide +kernel
theorem dX8_seeks_81 : decode cX8_seeks 81 = .ok (.goto (-31), 3) := by decide +kernel
theorem dX8_seeks_84 : decode cX8_seeks 84 = .ok (.aload_n 0, 1) := by decide +kernel
theorem dX8_seeks_85 : decode cX8_seeks 85 = .ok (.getfield 41, 3) := by decide +kernel
theorem dX8_seeks_88 : decode cX8_seeks 88 = .ok (.bipush 8, 2) := by decide +kernel
theorem dX8_seeks_90 : decode cX8_seeks 90 = .ok (.iload_n 1, 1) := by decide +kernel
theorem dX8_seeks_91 : decode cX8_seeks 91 = .ok (.imul, 1) := by decide +kernel
theorem dX8_seeks_92 : decode cX8_seeks 92 = .ok (.bipush 7, 2) := by decide +kernel
theorem dX8_seeks_94 : decode cX8_seeks 94 = .ok (.iadd, 1) := by decide +kernel
theorem dX8_seeks_95 : decode cX8_seeks 95 = .ok (.aload_n 0, 1) := by decide +kernel
theorem dX8_seeks_96 : decode cX8_seeks 96 = .ok (.getfield 239, 3) := by decide +kernel
theorem dX8_seeks_99 : decode cX8_seeks 99 = .ok (.iastore, 1) := by decide +kernel
theorem dX8_seeks_100 : decode cX8_seeks 100 = .ok (.iconst 0, 1) := by decide +kernel
theorem dX8_seeks_101 : decode cX8_seeks 101 = .ok (.istore 4, 2) := by decide +kernel
theorem dX8_seeks_103 : decode cX8_seeks 103 = .ok (.iload 4, 2) := by decide +kernel
theorem dX8_seeks_105 : decode cX8_seeks 105 = .ok (.aload_n 0, 1) := by decide +kernel
theorem dX8_seeks_106 : decode cX8_seeks 106 = .ok (.getfield 73, 3) := by decide +kernel
theorem dX8_seeks_109 : decode cX8_seeks 109 = .ok (.if_icmp .ge 99, 3) := by decide +kernel
theorem dX8_seeks_112 : decode cX8_seeks 112 = .ok (.iload_n 2, 1) := by decide +kernel
theorem dX8_seeks_113 : decode cX8_seeks 113 = .ok (.iload 4, 2) := by decide +kernel
theorem dX8_seeks_115 : decode cX8_seeks 115 = .ok (.ishr, 1) := by decide +kernel
theorem dX8_seeks_116 : decode cX8_seeks 116 = .ok (.iconst 1, 1) := by decide +kernel
theorem dX8_seeks_117 : decode cX8_seeks 117 = .ok (.iand, 1) := by decide +kernel
theorem dX8_seeks_118 : decode cX8_seeks 118 = .ok (.ifCond .ne 84, 3) := by decide +kernel
theorem dX8_seeks_121 : decode cX8_seeks 121 = .ok (.aload_n 0, 1) := by decide +kernel
theorem dX8_seeks_122 : decode cX8_seeks 122 = .ok (.iload 4, 2) := by decide +kernel
theorem dX8_seeks_124 : decode cX8_seeks 124 = .ok (.invokevirtual 252, 3) := by decide +kernel
theorem dX8_seeks_127 : decode cX8_seeks 127 = .ok (.aload_n 0, 1) := by decide +kernel
theorem dX8_seeks_128 : decode cX8_seeks 128 = .ok (.iload_n 1, 1) := by decide +kernel
theorem dX8_seeks_129 : decode cX8_seeks 129 = .ok (.iconst 1, 1) := by decide +kernel
theorem dX8_seeks_130 : decode cX8_seeks 130 = .ok (.iadd, 1) := by decide +kernel
theorem dX8_seeks_131 : decode cX8_seeks 131 = .ok (.iload_n 2, 1) := by decide +kernel
theorem dX8_seeks_132 : decode cX8_seeks 132 = .ok (.iconst 1, 1) := by decide +kernel
theorem dX8_seeks_133 : decode cX8_seeks 133 = .ok (.iload 4, 2) := by decide +kernel
theorem dX8_seeks_135 : decode cX8_seeks 135 = .ok (.ishl, 1) := by decide +kernel
theorem dX8_seeks_136 : decode cX8_seeks 136 = .ok (.ior, 1) := by decide +kernel
theorem dX8_seeks_137 : decode cX8_seeks 137 = .ok (.bipush 10, 2) := by decide +kernel
theorem dX8_seeks_139 : decode cX8_seeks 139 = .ok (.iload_n 3, 1) := by decide +kernel
theorem dX8_seeks_140 : decode cX8_seeks 140 = .ok (.imul, 1) := by decide +kernel
theorem dX8_seeks_141 : decode cX8_seeks 141 = .ok (.iload 4, 2) := by decide +kernel
theorem dX8_seeks_143 : decode cX8_seeks 143 = .ok (.iadd, 1) := by decide +kernel
theorem dX8_seeks_144 : decode cX8_seeks 144 = .ok (.iconst 1, 1) := by decide +kernel
theorem dX8_seeks_145 : decode cX8_seeks 145 = .ok (.iadd, 1) := by decide +kernel
theorem dX8_seeks_146 : decode cX8_seeks 146 = .ok (.invokevirtual 285, 3) := by decide +kernel
theorem dX8_seeks_149 : decode cX8_seeks 149 = .ok (.iconst 0, 1) := by decide +kernel
theorem dX8_seeks_150 : decode cX8_seeks 150 = .ok (.istore 5, 2) := by decide +kernel
theorem dX8_seeks_152 : decode cX8_seeks 152 = .ok (.iload 5, 2) := by decide +kernel
theorem dX8_seeks_154 : decode cX8_seeks 154 = .ok (.aload_n 0, 1) := by decide +kernel
theorem dX8_seeks_155 : decode cX8_seeks 155 = .ok (.getfield 73, 3) := by decide +kernel
theorem dX8_seeks_158 : decode cX8_seeks 158 = .ok (.if_icmp .ge 28, 3) := by decide +kernel
theorem dX8_seeks_161 : decode cX8_seeks 161 = .ok (.aload_n 0, 1) := by decide +kernel
theorem dX8_seeks_162 : decode cX8_seeks 162 = .ok (.getfield 35, 3) := by decide +kernel
theorem dX8_seeks_165 : decode cX8_seeks 165 = .ok (.iload 5, 2) := by decide +kernel
theorem dX8_seeks_167 : decode cX8_seeks 167 = .ok (.aload_n 0, 1) := by decide +kernel
theorem dX8_seeks_168 : decode cX8_seeks 168 = .ok (.getfield 41, 3) := by decide +kernel
theorem dX8_seeks_171 : decode cX8_seeks 171 = .ok (.bipush 8, 2) := by decide +kernel
theorem dX8_seeks_173 : decode cX8_seeks 173 = .ok (.iload_n 1, 1) := by decide +kernel
theorem dX8_seeks_174 : decode cX8_seeks 174 = .ok (.imul, 1) := by decide +kernel
theorem dX8_seeks_175 : decode cX8_seeks 175 = .ok (.iload 5, 2) := by decide +kernel
theorem dX8_seeks_177 : decode cX8_seeks 177 = .ok (.iadd, 1) := by decide +kernel
theorem dX8_seeks_178 : decode cX8_seeks 178 = .ok (.iaload, 1) := by decide +kernel
theorem dX8_seeks_179 : decode cX8_seeks 179 = .ok (.iastore, 1) := by decide +kernel
theorem dX8_seeks_180 : decode cX8_seeks 180 = .ok (.iinc 5 1, 3) := by decide +kernel
theorem dX8_seeks_183 : decode cX8_seeks 183 = .ok (.goto (-31), 3) := by decide +kernel
theorem dX8_seeks_186 : decode cX8_seeks 186 = .ok (.aload_n 0, 1) := by decide +kernel
theorem dX8_seeks_187 : decode cX8_seeks 187 = .ok (.aload_n 0, 1) := by decide +kernel
theorem dX8_seeks_188 : decode cX8_seeks 188 = .ok (.getfield 41, 3) := by decide +kernel
theorem dX8_seeks_191 : decode cX8_seeks 191 = .ok (.bipush 8, 2) := by decide +kernel
theorem dX8_seeks_193 : decode cX8_seeks 193 = .ok (.iload_n 1, 1) := by decide +kernel
theorem dX8_seeks_194 : decode cX8_seeks 194 = .ok (.imul, 1) := by decide +kernel
theorem dX8_seeks_195 : decode cX8_seeks 195 = .ok (.bipush 7, 2) := by decide +kernel
theorem dX8_seeks_197 : decode cX8_seeks 197 = .ok (.iadd, 1) := by decide +kernel
theorem dX8_seeks_198 : decode cX8_seeks 198 = .ok (.iaload, 1) := by decide +kernel
theorem dX8_seeks_199 : decode cX8_seeks 199 = .ok (.putfield 239, 3) := by decide +kernel
theorem dX8_seeks_202 : decode cX8_seeks 202 = .ok (.iinc 4 1, 3) := by decide +kernel
theorem dX8_seeks_205 : decode cX8_seeks 205 = .ok (.goto (-102), 3) := by decide +kernel
theorem dX8_seeks_208 : decode cX8_seeks 208 = .ok (.return_, 1) := by decide +kernel
theorem dX8_best_0 : decode cX8_best 0 = .ok (.iload_n 1, 1) := by decide +kernel
theorem dX8_best_1 : decode cX8_best 1 = .ok (.i2l, 1) := by decide +kernel
theorem dX8_best_2 : decode cX8_best 2 = .ok (.lconst 0, 1) := by decide +kernel
theorem dX8_best_3 : decode cX8_best 3 = .ok (.lconst 1, 1) := by decide +kernel
theorem dX8_best_4 : decode cX8_best 4 = .ok (.invokestatic 76, 3) := by decide +kernel
theorem dX8_best_7 : decode cX8_best 7 = .ok (.ifCond .ne 6, 3) := by decide +kernel
theorem dX8_best_10 : decode cX8_best 10 = .ok (.bipush (-2), 2) := by decide +kernel
theorem dX8_best_12 : decode cX8_best 12 = .ok (.ireturn, 1) := by decide +kernel
theorem dX8_best_13 : decode cX8_best 13 = .ok (.aload_n 0, 1) := by decide +kernel
theorem dX8_best_14 : decode cX8_best 14 = .ok (.invokevirtual 108, 3) := by decide +kernel
theorem dX8_best_17 : decode cX8_best 17 = .ok (.aload_n 0, 1) := by decide +kernel
theorem dX8_best_18 : decode cX8_best 18 = .ok (.iconst 0, 1) := by decide +kernel
theorem dX8_best_19 : decode cX8_best 19 = .ok (.putfield 276, 3) := by decide +kernel
theorem dX8_best_22 : decode cX8_best 22 = .ok (.aload_n 0, 1) := by decide +kernel
theorem dX8_best_23 : decode cX8_best 23 = .ok (.iconst 0, 1) := by decide +kernel
theorem dX8_best_24 : decode cX8_best 24 = .ok (.iconst 0, 1) := by decide +kernel
theorem dX8_best_25 : decode cX8_best 25 = .ok (.iconst 0, 1) := by decide +kernel
theorem dX8_best_26 : decode cX8_best 26 = .ok (.invokevirtual 285, 3) := by decide +kernel
theorem dX8_best_29 : decode cX8_best 29 = .ok (.iload_n 1, 1) := by decide +kernel
theorem dX8_best_30 : decode cX8_best 30 = .ok (.ifCond .ne 10, 3) := by decide +kernel
theorem dX8_best_33 : decode cX8_best 33 = .ok (.aload_n 0, 1) := by decide +kernel
theorem dX8_best_34 : decode cX8_best 34 = .ok (.getfield 279, 3) := by decide +kernel
theorem dX8_best_37 : decode cX8_best 37 = .ok (.goto 7, 3) := by decide +kernel
theorem dX8_best_40 : decode cX8_best 40 = .ok (.aload_n 0, 1) := by decide +kernel
theorem dX8_best_41 : decode cX8_best 41 = .ok (.getfield 282, 3) := by decide +kernel
theorem dX8_best_44 : decode cX8_best 44 = .ok (.ireturn, 1) := by decide +kernel
theorem dX8_worstFirst_0 : decode cX8_worstFirst 0 = .ok (.aload_n 0, 1) := by decide +kernel
theorem dX8_worstFirst_1 : decode cX8_worstFirst 1 = .ok (.invokevirtual 108, 3) := by decide +kernel
theorem dX8_worstFirst_4 : decode cX8_worstFirst 4 = .ok (.aload_n 0, 1) := by decide +kernel
theorem dX8_worstFirst_5 : decode cX8_worstFirst 5 = .ok (.iconst 0, 1) := by decide +kernel
theorem dX8_worstFirst_6 : decode cX8_worstFirst 6 = .ok (.putfield 288, 3) := by decide +kernel
theorem dX8_worstFirst_9 : decode cX8_worstFirst 9 = .ok (.iconst 0, 1) := by decide +kernel
theorem dX8_worstFirst_10 : decode cX8_worstFirst 10 = .ok (.istore_n 1, 1) := by decide +kernel
theorem dX8_worstFirst_11 : decode cX8_worstFirst 11 = .ok (.iconst 0, 1) := by decide +kernel
theorem dX8_worstFirst_12 : decode cX8_worstFirst 12 = .ok (.istore_n 2, 1) := by decide +kernel
theorem dX8_worstFirst_13 : decode cX8_worstFirst 13 = .ok (.iload_n 2, 1) := by decide +kernel
theorem dX8_worstFirst_14 : decode cX8_worstFirst 14 = .ok (.aload_n 0, 1) := by decide +kernel
theorem dX8_worstFirst_15 : decode cX8_worstFirst 15 = .ok (.getfield 73, 3) := by decide +kernel
theorem dX8_worstFirst_18 : decode cX8_worstFirst 18 = .ok (.if_icmp .ge 109, 3) := by decide +kernel
theorem dX8_worstFirst_21 : decode cX8_worstFirst 21 = .ok (.iconst (-1), 1) := by decide +kernel
theorem dX8_worstFirst_22 : decode cX8_worstFirst 22 = .ok (.istore_n 3, 1) := by decide +kernel
theorem dX8_worstFirst_23 : decode cX8_worstFirst 23 = .ok (.iconst 0, 1) := by decide +kernel
theorem dX8_worstFirst_24 : decode cX8_worstFirst 24 = .ok (.istore 4, 2) := by decide +kernel
theorem dX8_worstFirst_26 : decode cX8_worstFirst 26 = .ok (.iload 4, 2) := by decide +kernel
theorem dX8_worstFirst_28 : decode cX8_worstFirst 28 = .ok (.aload_n 0, 1) := by decide +kernel
theorem dX8_worstFirst_29 : decode cX8_worstFirst 29 = .ok (.getfield 73, 3) := by decide +kernel
theorem dX8_worstFirst_32 : decode cX8_worstFirst 32 = .ok (.if_icmp .ge 63, 3) := by decide +kernel
theorem dX8_worstFirst_35 : decode cX8_worstFirst 35 = .ok (.iload_n 1, 1) := by decide +kernel
theorem dX8_worstFirst_36 : decode cX8_worstFirst 36 = .ok (.iload 4, 2) := by decide +kernel
theorem dX8_worstFirst_38 : decode cX8_worstFirst 38 = .ok (.ishr, 1) := by decide +kernel
theorem dX8_worstFirst_39 : decode cX8_worstFirst 39 = .ok (.iconst 1, 1) := by decide +kernel
theorem dX8_worstFirst_40 : decode cX8_worstFirst 40 = .ok (.iand, 1) := by decide +kernel
theorem dX8_worstFirst_41 : decode cX8_worstFirst 41 = .ok (.ifCond .ne 48, 3) := by decide +kernel
theorem dX8_worstFirst_44 : decode cX8_worstFirst 44 = .ok (.iload_n 3, 1) := by decide +kernel
theorem dX8_worstFirst_45 : decode cX8_worstFirst 45 = .ok (.iconst (-1), 1) := by decide +kernel
theorem dX8_worstFirst_46 : decode cX8_worstFirst 46 = .ok (.if_icmp .eq 40, 3) := by decide +kernel
theorem dX8_worstFirst_49 : decode cX8_worstFirst 49 = .ok (.aload_n 0, 1) := by decide +kernel
theorem dX8_worstFirst_50 : decode cX8_worstFirst 50 = .ok (.getfield 32, 3) := by decide +kernel
theorem dX8_worstFirst_53 : decode cX8_worstFirst 53 = .ok (.iconst 3, 1) := by decide +kernel
theorem dX8_worstFirst_54 : decode cX8_worstFirst 54 = .ok (.iload 4, 2) := by decide +kernel
theorem dX8_worstFirst_56 : decode cX8_worstFirst 56 = .ok (.imul, 1) := by decide +kernel
theorem dX8_worstFirst_57 : decode cX8_worstFirst 57 = .ok (.iconst 1, 1) := by decide +kernel
theorem dX8_worstFirst_58 : decode cX8_worstFirst 58 = .ok (.iadd, 1) := by decide +kernel
theorem dX8_worstFirst_59 : decode cX8_worstFirst 59 = .ok (.iaload, 1) := by decide +kernel
theorem dX8_worstFirst_60 : decode cX8_worstFirst 60 = .ok (.aload_n 0, 1) := by decide +kernel
theorem dX8_worstFirst_61 : decode cX8_worstFirst 61 = .ok (.iload 4, 2) := by decide +kernel
theorem dX8_worstFirst_63 : decode cX8_worstFirst 63 = .ok (.invokevirtual 105, 3) := by decide +kernel
theorem dX8_worstFirst_66 : decode cX8_worstFirst 66 = .ok (.imul, 1) := by decide +kernel
theorem dX8_worstFirst_67 : decode cX8_worstFirst 67 = .ok (.aload_n 0, 1) := by decide +kernel
theorem dX8_worstFirst_68 : decode cX8_worstFirst 68 = .ok (.getfield 32, 3) := by decide +kernel
theorem dX8_worstFirst_71 : decode cX8_worstFirst 71 = .ok (.iconst 3, 1) := by decide +kernel
theorem dX8_worstFirst_72 : decode cX8_worstFirst 72 = .ok (.iload_n 3, 1) := by decide +kernel
theorem dX8_worstFirst_73 : decode cX8_worstFirst 73 = .ok (.imul, 1) := by decide +kernel
theorem dX8_worstFirst_74 : decode cX8_worstFirst 74 = .ok (.iconst 1, 1) := by decide +kernel
theorem dX8_worstFirst_75 : decode cX8_worstFirst 75 = .ok (.iadd, 1) := by decide +kernel
theorem dX8_worstFirst_76 : decode cX8_worstFirst 76 = .ok (.iaload, 1) := by decide +kernel
theorem dX8_worstFirst_77 : decode cX8_worstFirst 77 = .ok (.aload_n 0, 1) := by decide +kernel
theorem dX8_worstFirst_78 : decode cX8_worstFirst 78 = .ok (.iload_n 3, 1) := by decide +kernel
theorem dX8_worstFirst_79 : decode cX8_worstFirst 79 = .ok (.invokevirtual 105, 3) := by decide +kernel
theorem dX8_worstFirst_82 : decode cX8_worstFirst 82 = .ok (.imul, 1) := by decide +kernel
theorem dX8_worstFirst_83 : decode cX8_worstFirst 83 = .ok (.if_icmp .le 6, 3) := by decide +kernel
theorem dX8_worstFirst_86 : decode cX8_worstFirst 86 = .ok (.iload 4, 2) := by decide +kernel
theorem dX8_worstFirst_88 : decode cX8_worstFirst 88 = .ok (.istore_n 3, 1) := by decide +kernel
theorem dX8_worstFirst_89 : decode cX8_worstFirst 89 = .ok (.iinc 4 1, 3) := by decide +kernel
theorem dX8_worstFirst_92 : decode cX8_worstFirst 92 = .ok (.goto (-66), 3) := by decide +kernel
theorem dX8_worstFirst_95 : decode cX8_worstFirst 95 = .ok (.iload_n 1, 1) := by decide +kernel
theorem dX8_worstFirst_96 : decode cX8_worstFirst 96 = .ok (.iconst 1, 1) := by decide +kernel
theorem dX8_worstFirst_97 : decode cX8_worstFirst 97 = .ok (.iload_n 3, 1) := by decide +kernel
theorem dX8_worstFirst_98 : decode cX8_worstFirst 98 = .ok (.ishl, 1) := by decide +kernel
theorem dX8_worstFirst_99 : decode cX8_worstFirst 99 = .ok (.ior, 1) := by decide +kernel
theorem dX8_worstFirst_100 : decode cX8_worstFirst 100 = .ok (.istore_n 1, 1) := by decide +kernel
theorem dX8_worstFirst_101 : decode cX8_worstFirst 101 = .ok (.aload_n 0, 1) := by decide +kernel
theorem dX8_worstFirst_102 : decode cX8_worstFirst 102 = .ok (.bipush 10, 2) := by decide +kernel
theorem dX8_worstFirst_104 : decode cX8_worstFirst 104 = .ok (.aload_n 0, 1) := by decide +kernel
theorem dX8_worstFirst_105 : decode cX8_worstFirst 105 = .ok (.getfield 288, 3) := by decide +kernel
theorem dX8_worstFirst_108 : decode cX8_worstFirst 108 = .ok (.imul, 1) := by decide +kernel
theorem dX8_worstFirst_109 : decode cX8_worstFirst 109 = .ok (.iload_n 3, 1) := by decide +kernel
theorem dX8_worstFirst_110 : decode cX8_worstFirst 110 = .ok (.iadd, 1) := by decide +kernel
theorem dX8_worstFirst_111 : decode cX8_worstFirst 111 = .ok (.iconst 1, 1) := by decide +kernel
theorem dX8_worstFirst_112 : decode cX8_worstFirst 112 = .ok (.iadd, 1) := by decide +kernel
theorem dX8_worstFirst_113 : decode cX8_worstFirst 113 = .ok (.putfield 288, 3) := by decide +kernel
theorem dX8_worstFirst_116 : decode cX8_worstFirst 116 = .ok (.aload_n 0, 1) := by decide +kernel
theorem dX8_worstFirst_117 : decode cX8_worstFirst 117 = .ok (.iload_n 3, 1) := by decide +kernel
theorem dX8_worstFirst_118 : decode cX8_worstFirst 118 = .ok (.invokevirtual 252, 3) := by decide +kernel
theorem dX8_worstFirst_121 : decode cX8_worstFirst 121 = .ok (.iinc 2 1, 3) := by decide +kernel
theorem dX8_worstFirst_124 : decode cX8_worstFirst 124 = .ok (.goto (-111), 3) := by decide +kernel
theorem dX8_worstFirst_127 : decode cX8_worstFirst 127 = .ok (.aload_n 0, 1) := by decide +kernel
theorem dX8_worstFirst_128 : decode cX8_worstFirst 128 = .ok (.invokevirtual 256, 3) := by decide +kernel
theorem dX8_worstFirst_131 : decode cX8_worstFirst 131 = .ok (.ireturn, 1) := by decide +kernel
theorem dX8_worst_0 : decode cX8_worst 0 = .ok (.iload_n 1, 1) := by decide +kernel
theorem dX8_worst_1 : decode cX8_worst 1 = .ok (.i2l, 1) := by decide +kernel
theorem dX8_worst_2 : decode cX8_worst 2 = .ok (.lconst 0, 1) := by decide +kernel
theorem dX8_worst_3 : decode cX8_worst 3 = .ok (.lconst 1, 1) := by decide +kernel
theorem dX8_worst_4 : decode cX8_worst 4 = .ok (.invokestatic 76, 3) := by decide +kernel
theorem dX8_worst_7 : decode cX8_worst 7 = .ok (.ifCond .ne 6, 3) := by decide +kernel
theorem dX8_worst_10 : decode cX8_worst 10 = .ok (.bipush (-2), 2) := by decide +kernel
theorem dX8_worst_12 : decode cX8_worst 12 = .ok (.ireturn, 1) := by decide +kernel
theorem dX8_worst_13 : decode cX8_worst 13 = .ok (.aload_n 0, 1) := by decide +kernel
theorem dX8_worst_14 : decode cX8_worst 14 = .ok (.invokevirtual 291, 3) := by decide +kernel
theorem dX8_worst_17 : decode cX8_worst 17 = .ok (.istore_n 2, 1) := by decide +kernel
theorem dX8_worst_18 : decode cX8_worst 18 = .ok (.iload_n 1, 1) := by decide +kernel
theorem dX8_worst_19 : decode cX8_worst 19 = .ok (.ifCond .ne 7, 3) := by decide +kernel
theorem dX8_worst_22 : decode cX8_worst 22 = .ok (.iload_n 2, 1) := by decide +kernel
theorem dX8_worst_23 : decode cX8_worst 23 = .ok (.goto 7, 3) := by decide +kernel
theorem dX8_worst_26 : decode cX8_worst 26 = .ok (.aload_n 0, 1) := by decide +kernel
theorem dX8_worst_27 : decode cX8_worst 27 = .ok (.getfield 288, 3) := by decide +kernel
theorem dX8_worst_30 : decode cX8_worst 30 = .ok (.ireturn, 1) := by decide +kernel
theorem dX8_changed_0 : decode cX8_changed 0 = .ok (.aload_n 0, 1) := by decide +kernel
theorem dX8_changed_1 : decode cX8_changed 1 = .ok (.invokevirtual 108, 3) := by decide +kernel
theorem dX8_changed_4 : decode cX8_changed 4 = .ok (.iconst 0, 1) := by decide +kernel
theorem dX8_changed_5 : decode cX8_changed 5 = .ok (.istore_n 3, 1) := by decide +kernel
theorem dX8_changed_6 : decode cX8_changed 6 = .ok (.iload_n 3, 1) := by decide +kernel
theorem dX8_changed_7 : decode cX8_changed 7 = .ok (.aload_n 0, 1) := by decide +kernel
theorem dX8_changed_8 : decode cX8_changed 8 = .ok (.getfield 73, 3) := by decide +kernel
theorem dX8_changed_11 : decode cX8_changed 11 = .ok (.if_icmp .ge 32, 3) := by decide +kernel
theorem dX8_changed_14 : decode cX8_changed 14 = .ok (.aload_n 0, 1) := by decide +kernel
theorem dX8_changed_15 : decode cX8_changed 15 = .ok (.iload_n 3, 1) := by decide +kernel
theorem dX8_changed_16 : decode cX8_changed 16 = .ok (.iload_n 1, 1) := by decide +kernel
theorem dX8_changed_17 : decode cX8_changed 17 = .ok (.if_icmp .ne 7, 3) := by decide +kernel
theorem dX8_changed_20 : decode cX8_changed 20 = .ok (.iload_n 2, 1) := by decide +kernel
theorem dX8_changed_21 : decode cX8_changed 21 = .ok (.goto 13, 3) := by decide +kernel
theorem dX8_changed_24 : decode cX8_changed 24 = .ok (.iload_n 3, 1) := by decide +kernel
theorem dX8_changed_25 : decode cX8_changed 25 = .ok (.iload_n 2, 1) := by decide +kernel
theorem dX8_changed_26 : decode cX8_changed 26 = .ok (.if_icmp .ne 7, 3) := by decide +kernel
theorem dX8_changed_29 : decode cX8_changed 29 = .ok (.iload_n 1, 1) := by decide +kernel
theorem dX8_changed_30 : decode cX8_changed 30 = .ok (.goto 4, 3) := by decide +kernel
theorem dX8_changed_33 : decode cX8_changed 33 = .ok (.iload_n 3, 1) := by decide +kernel
theorem dX8_changed_34 : decode cX8_changed 34 = .ok (.invokevirtual 252, 3) := by decide +kernel
theorem dX8_changed_37 : decode cX8_changed 37 = .ok (.iinc 3 1, 3) := by decide +kernel
theorem dX8_changed_40 : decode cX8_changed 40 = .ok (.goto (-34), 3) := by decide +kernel
theorem dX8_changed_43 : decode cX8_changed 43 = .ok (.aload_n 0, 1) := by decide +kernel
theorem dX8_changed_44 : decode cX8_changed 44 = .ok (.invokevirtual 256, 3) := by decide +kernel
theorem dX8_changed_47 : decode cX8_changed 47 = .ok (.ireturn, 1) := by decide +kernel
theorem dX8_change_0 : decode cX8_change 0 = .ok (.iload_n 1, 1) := by decide +kernel
theorem dX8_change_1 : decode cX8_change 1 = .ok (.i2l, 1) := by decide +kernel
theorem dX8_change_2 : decode cX8_change 2 = .ok (.lconst 0, 1) := by decide +kernel
theorem dX8_change_3 : decode cX8_change 3 = .ok (.lconst 1, 1) := by decide +kernel
theorem dX8_change_4 : decode cX8_change 4 = .ok (.invokestatic 76, 3) := by decide +kernel
theorem dX8_change_7 : decode cX8_change 7 = .ok (.ifCond .ne 6, 3) := by decide +kernel
theorem dX8_change_10 : decode cX8_change 10 = .ok (.bipush (-2), 2) := by decide +kernel
theorem dX8_change_12 : decode cX8_change 12 = .ok (.ireturn, 1) := by decide +kernel
theorem dX8_change_13 : decode cX8_change 13 = .ok (.aload_n 0, 1) := by decide +kernel
theorem dX8_change_14 : decode cX8_change 14 = .ok (.iconst (-1), 1) := by decide +kernel
theorem dX8_change_15 : decode cX8_change 15 = .ok (.invokevirtual 264, 3) := by decide +kernel
theorem dX8_change_18 : decode cX8_change 18 = .ok (.istore_n 2, 1) := by decide +kernel
theorem dX8_change_19 : decode cX8_change 19 = .ok (.iconst (-1), 1) := by decide +kernel
theorem dX8_change_20 : decode cX8_change 20 = .ok (.istore_n 3, 1) := by decide +kernel
theorem dX8_change_21 : decode cX8_change 21 = .ok (.iconst 0, 1) := by decide +kernel
theorem dX8_change_22 : decode cX8_change 22 = .ok (.istore 4, 2) := by decide +kernel
theorem dX8_change_24 : decode cX8_change 24 = .ok (.iload 4, 2) := by decide +kernel
theorem dX8_change_26 : decode cX8_change 26 = .ok (.aload_n 0, 1) := by decide +kernel
theorem dX8_change_27 : decode cX8_change 27 = .ok (.getfield 73, 3) := by decide +kernel
theorem dX8_change_30 : decode cX8_change 30 = .ok (.if_icmp .ge 58, 3) := by decide +kernel
theorem dX8_change_33 : decode cX8_change 33 = .ok (.iload 4, 2) := by decide +kernel
theorem dX8_change_35 : decode cX8_change 35 = .ok (.iconst 1, 1) := by decide +kernel
theorem dX8_change_36 : decode cX8_change 36 = .ok (.iadd, 1) := by decide +kernel
theorem dX8_change_37 : decode cX8_change 37 = .ok (.istore 5, 2) := by decide +kernel
theorem dX8_change_39 : decode cX8_change 39 = .ok (.iload 5, 2) := by decide +kernel
theorem dX8_change_41 : decode cX8_change 41 = .ok (.aload_n 0, 1) := by decide +kernel
theorem dX8_change_42 : decode cX8_change 42 = .ok (.getfield 73, 3) := by decide +kernel
theorem dX8_change_45 : decode cX8_change 45 = .ok (.if_icmp .ge 37, 3) := by decide +kernel
theorem dX8_change_48 : decode cX8_change 48 = .ok (.aload_n 0, 1) := by decide +kernel
theorem dX8_change_49 : decode cX8_change 49 = .ok (.iload 4, 2) := by decide +kernel
theorem dX8_change_51 : decode cX8_change 51 = .ok (.iload 5, 2) := by decide +kernel
theorem dX8_change_53 : decode cX8_change 53 = .ok (.invokevirtual 294, 3) := by decide +kernel
theorem dX8_change_56 : decode cX8_change 56 = .ok (.istore 6, 2) := by decide +kernel
theorem dX8_change_58 : decode cX8_change 58 = .ok (.iload 6, 2) := by decide +kernel
theorem dX8_change_60 : decode cX8_change 60 = .ok (.iload_n 2, 1) := by decide +kernel
theorem dX8_change_61 : decode cX8_change 61 = .ok (.if_icmp .ge 15, 3) := by decide +kernel
theorem dX8_change_64 : decode cX8_change 64 = .ok (.bipush 10, 2) := by decide +kernel
theorem dX8_change_66 : decode cX8_change 66 = .ok (.iload 4, 2) := by decide +kernel
theorem dX8_change_68 : decode cX8_change 68 = .ok (.imul, 1) := by decide +kernel
theorem dX8_change_69 : decode cX8_change 69 = .ok (.iload 5, 2) := by decide +kernel
theorem dX8_change_71 : decode cX8_change 71 = .ok (.iadd, 1) := by decide +kernel
theorem dX8_change_72 : decode cX8_change 72 = .ok (.istore_n 3, 1) := by decide +kernel
theorem dX8_change_73 : decode cX8_change 73 = .ok (.iload 6, 2) := by decide +kernel
theorem dX8_change_75 : decode cX8_change 75 = .ok (.istore_n 2, 1) := by decide +kernel
theorem dX8_change_76 : decode cX8_change 76 = .ok (.iinc 5 1, 3) := by decide +kernel
theorem dX8_change_79 : decode cX8_change 79 = .ok (.goto (-40), 3) := by decide +kernel
theorem dX8_change_82 : decode cX8_change 82 = .ok (.iinc 4 1, 3) := by decide +kernel
theorem dX8_change_85 : decode cX8_change 85 = .ok (.goto (-61), 3) := by decide +kernel
theorem dX8_change_88 : decode cX8_change 88 = .ok (.iload_n 1, 1) := by decide +kernel
theorem dX8_change_89 : decode cX8_change 89 = .ok (.ifCond .ne 7, 3) := by decide +kernel
theorem dX8_change_92 : decode cX8_change 92 = .ok (.iload_n 3, 1) := by decide +kernel
theorem dX8_change_93 : decode cX8_change 93 = .ok (.goto 4, 3) := by decide +kernel
theorem dX8_change_96 : decode cX8_change 96 = .ok (.iload_n 2, 1) := by decide +kernel
theorem dX8_change_97 : decode cX8_change 97 = .ok (.ireturn, 1) := by decide +kernel
theorem dX8_leave_0 : decode cX8_leave 0 = .ok (.iload_n 1, 1) := by decide +kernel
theorem dX8_leave_1 : decode cX8_leave 1 = .ok (.i2l, 1) := by decide +kernel
theorem dX8_leave_2 : decode cX8_leave 2 = .ok (.lconst 0, 1) := by decide +kernel
theorem dX8_leave_3 : decode cX8_leave 3 = .ok (.lconst 1, 1) := by decide +kernel
theorem dX8_leave_4 : decode cX8_leave 4 = .ok (.invokestatic 76, 3) := by decide +kernel
theorem dX8_leave_7 : decode cX8_leave 7 = .ok (.ifCond .ne 6, 3) := by decide +kernel
theorem dX8_leave_10 : decode cX8_leave 10 = .ok (.bipush (-2), 2) := by decide +kernel
theorem dX8_leave_12 : decode cX8_leave 12 = .ok (.ireturn, 1) := by decide +kernel
theorem dX8_leave_13 : decode cX8_leave 13 = .ok (.aload_n 0, 1) := by decide +kernel
theorem dX8_leave_14 : decode cX8_leave 14 = .ok (.iconst (-1), 1) := by decide +kernel
theorem dX8_leave_15 : decode cX8_leave 15 = .ok (.invokevirtual 264, 3) := by decide +kernel
theorem dX8_leave_18 : decode cX8_leave 18 = .ok (.istore_n 2, 1) := by decide +kernel
theorem dX8_leave_19 : decode cX8_leave 19 = .ok (.iconst (-1), 1) := by decide +kernel
theorem dX8_leave_20 : decode cX8_leave 20 = .ok (.istore_n 3, 1) := by decide +kernel
theorem dX8_leave_21 : decode cX8_leave 21 = .ok (.iconst 0, 1) := by decide +kernel
theorem dX8_leave_22 : decode cX8_leave 22 = .ok (.istore 4, 2) := by decide +kernel
theorem dX8_leave_24 : decode cX8_leave 24 = .ok (.iload 4, 2) := by decide +kernel
theorem dX8_leave_26 : decode cX8_leave 26 = .ok (.aload_n 0, 1) := by decide +kernel
theorem dX8_leave_27 : decode cX8_leave 27 = .ok (.getfield 73, 3) := by decide +kernel
theorem dX8_leave_30 : decode cX8_leave 30 = .ok (.if_icmp .ge 29, 3) := by decide +kernel
theorem dX8_leave_33 : decode cX8_leave 33 = .ok (.aload_n 0, 1) := by decide +kernel
theorem dX8_leave_34 : decode cX8_leave 34 = .ok (.iload 4, 2) := by decide +kernel
theorem dX8_leave_36 : decode cX8_leave 36 = .ok (.invokevirtual 264, 3) := by decide +kernel
theorem dX8_leave_39 : decode cX8_leave 39 = .ok (.istore 5, 2) := by decide +kernel
theorem dX8_leave_41 : decode cX8_leave 41 = .ok (.iload 5, 2) := by decide +kernel
theorem dX8_leave_43 : decode cX8_leave 43 = .ok (.iload_n 2, 1) := by decide +kernel
theorem dX8_leave_44 : decode cX8_leave 44 = .ok (.if_icmp .ge 9, 3) := by decide +kernel
theorem dX8_leave_47 : decode cX8_leave 47 = .ok (.iload 4, 2) := by decide +kernel
theorem dX8_leave_49 : decode cX8_leave 49 = .ok (.istore_n 3, 1) := by decide +kernel
theorem dX8_leave_50 : decode cX8_leave 50 = .ok (.iload 5, 2) := by decide +kernel
theorem dX8_leave_52 : decode cX8_leave 52 = .ok (.istore_n 2, 1) := by decide +kernel
theorem dX8_leave_53 : decode cX8_leave 53 = .ok (.iinc 4 1, 3) := by decide +kernel
theorem dX8_leave_56 : decode cX8_leave 56 = .ok (.goto (-32), 3) := by decide +kernel
theorem dX8_leave_59 : decode cX8_leave 59 = .ok (.iload_n 1, 1) := by decide +kernel
theorem dX8_leave_60 : decode cX8_leave 60 = .ok (.ifCond .ne 7, 3) := by decide +kernel
theorem dX8_leave_63 : decode cX8_leave 63 = .ok (.iload_n 3, 1) := by decide +kernel
theorem dX8_leave_64 : decode cX8_leave 64 = .ok (.goto 4, 3) := by decide +kernel
theorem dX8_leave_67 : decode cX8_leave 67 = .ok (.iload_n 2, 1) := by decide +kernel
theorem dX8_leave_68 : decode cX8_leave 68 = .ok (.ireturn, 1) := by decide +kernel
theorem dX8_spray_0 : decode cX8_spray 0 = .ok (.iload_n 1, 1) := by decide +kernel
theorem dX8_spray_1 : decode cX8_spray 1 = .ok (.i2l, 1) := by decide +kernel
theorem dX8_spray_2 : decode cX8_spray 2 = .ok (.lconst 0, 1) := by decide +kernel
theorem dX8_spray_3 : decode cX8_spray 3 = .ok (.lconst 1, 1) := by decide +kernel
theorem dX8_spray_4 : decode cX8_spray 4 = .ok (.invokestatic 76, 3) := by decide +kernel
theorem dX8_spray_7 : decode cX8_spray 7 = .ok (.ifCond .ne 6, 3) := by decide +kernel
theorem dX8_spray_10 : decode cX8_spray 10 = .ok (.bipush (-2), 2) := by decide +kernel
theorem dX8_spray_12 : decode cX8_spray 12 = .ok (.ireturn, 1) := by decide +kernel
theorem dX8_spray_13 : decode cX8_spray 13 = .ok (.aload_n 0, 1) := by decide +kernel
theorem dX8_spray_14 : decode cX8_spray 14 = .ok (.iconst (-1), 1) := by decide +kernel
theorem dX8_spray_15 : decode cX8_spray 15 = .ok (.invokevirtual 264, 3) := by decide +kernel
theorem dX8_spray_18 : decode cX8_spray 18 = .ok (.istore_n 2, 1) := by decide +kernel
theorem dX8_spray_19 : decode cX8_spray 19 = .ok (.iconst (-1), 1) := by decide +kernel
theorem dX8_spray_20 : decode cX8_spray 20 = .ok (.istore_n 3, 1) := by decide +kernel
theorem dX8_spray_21 : decode cX8_spray 21 = .ok (.iconst 0, 1) := by decide +kernel
theorem dX8_spray_22 : decode cX8_spray 22 = .ok (.istore 4, 2) := by decide +kernel
theorem dX8_spray_24 : decode cX8_spray 24 = .ok (.iload 4, 2) := by decide +kernel
theorem dX8_spray_26 : decode cX8_spray 26 = .ok (.aload_n 0, 1) := by decide +kernel
theorem dX8_spray_27 : decode cX8_spray 27 = .ok (.getfield 73, 3) := by decide +kernel
theorem dX8_spray_30 : decode cX8_spray 30 = .ok (.if_icmp .ge 75, 3) := by decide +kernel
theorem dX8_spray_33 : decode cX8_spray 33 = .ok (.aload_n 0, 1) := by decide +kernel
theorem dX8_spray_34 : decode cX8_spray 34 = .ok (.invokevirtual 108, 3) := by decide +kernel
theorem dX8_spray_37 : decode cX8_spray 37 = .ok (.iconst 0, 1) := by decide +kernel
theorem dX8_spray_38 : decode cX8_spray 38 = .ok (.istore 5, 2) := by decide +kernel
theorem dX8_spray_40 : decode cX8_spray 40 = .ok (.iload 5, 2) := by decide +kernel
theorem dX8_spray_42 : decode cX8_spray 42 = .ok (.aload_n 0, 1) := by decide +kernel
theorem dX8_spray_43 : decode cX8_spray 43 = .ok (.getfield 73, 3) := by decide +kernel
theorem dX8_spray_46 : decode cX8_spray 46 = .ok (.if_icmp .ge 37, 3) := by decide +kernel
theorem dX8_spray_49 : decode cX8_spray 49 = .ok (.aload_n 0, 1) := by decide +kernel
theorem dX8_spray_50 : decode cX8_spray 50 = .ok (.iload 5, 2) := by decide +kernel
theorem dX8_spray_52 : decode cX8_spray 52 = .ok (.iload 4, 2) := by decide +kernel
theorem dX8_spray_54 : decode cX8_spray 54 = .ok (.if_icmp .ne 10, 3) := by decide +kernel
theorem dX8_spray_57 : decode cX8_spray 57 = .ok (.aload_n 0, 1) := by decide +kernel
theorem dX8_spray_58 : decode cX8_spray 58 = .ok (.getfield 239, 3) := by decide +kernel
theorem dX8_spray_61 : decode cX8_spray 61 = .ok (.goto 7, 3) := by decide +kernel
theorem dX8_spray_64 : decode cX8_spray 64 = .ok (.aload_n 0, 1) := by decide +kernel
theorem dX8_spray_65 : decode cX8_spray 65 = .ok (.getfield 242, 3) := by decide +kernel
theorem dX8_spray_68 : decode cX8_spray 68 = .ok (.putfield 242, 3) := by decide +kernel
theorem dX8_spray_71 : decode cX8_spray 71 = .ok (.aload_n 0, 1) := by decide +kernel
theorem dX8_spray_72 : decode cX8_spray 72 = .ok (.iload 5, 2) := by decide +kernel
theorem dX8_spray_74 : decode cX8_spray 74 = .ok (.invokevirtual 252, 3) := by decide +kernel
theorem dX8_spray_77 : decode cX8_spray 77 = .ok (.iinc 5 1, 3) := by decide +kernel
theorem dX8_spray_80 : decode cX8_spray 80 = .ok (.goto (-40), 3) := by decide +kernel
theorem dX8_spray_83 : decode cX8_spray 83 = .ok (.aload_n 0, 1) := by decide +kernel
theorem dX8_spray_84 : decode cX8_spray 84 = .ok (.invokevirtual 256, 3) := by decide +kernel
theorem dX8_spray_87 : decode cX8_spray 87 = .ok (.iload_n 2, 1) := by decide +kernel
theorem dX8_spray_88 : decode cX8_spray 88 = .ok (.if_icmp .ge 11, 3) := by decide +kernel
theorem dX8_spray_91 : decode cX8_spray 91 = .ok (.iload 4, 2) := by decide +kernel
theorem dX8_spray_93 : decode cX8_spray 93 = .ok (.istore_n 3, 1) := by decide +kernel
theorem dX8_spray_94 : decode cX8_spray 94 = .ok (.aload_n 0, 1) := by decide +kernel
theorem dX8_spray_95 : decode cX8_spray 95 = .ok (.invokevirtual 256, 3) := by decide +kernel
theorem dX8_spray_98 : decode cX8_spray 98 = .ok (.istore_n 2, 1) := by decide +kernel
theorem dX8_spray_99 : decode cX8_spray 99 = .ok (.iinc 4 1, 3) := by decide +kernel
theorem dX8_spray_102 : decode cX8_spray 102 = .ok (.goto (-78), 3) := by decide +kernel
theorem dX8_spray_105 : decode cX8_spray 105 = .ok (.iload_n 1, 1) := by decide +kernel
theorem dX8_spray_106 : decode cX8_spray 106 = .ok (.ifCond .ne 7, 3) := by decide +kernel
theorem dX8_spray_109 : decode cX8_spray 109 = .ok (.iload_n 3, 1) := by decide +kernel
theorem dX8_spray_110 : decode cX8_spray 110 = .ok (.goto 4, 3) := by decide +kernel
theorem dX8_spray_113 : decode cX8_spray 113 = .ok (.iload_n 2, 1) := by decide +kernel
theorem dX8_spray_114 : decode cX8_spray 114 = .ok (.ireturn, 1) := by decide +kernel
theorem dX8_how_0 : decode cX8_how 0 = .ok (.iload_n 1, 1) := by decide +kernel
theorem dX8_how_1 : decode cX8_how 1 = .ok (.i2l, 1) := by decide +kernel
theorem dX8_how_2 : decode cX8_how 2 = .ok (.lconst 0, 1) := by decide +kernel
theorem dX8_how_3 : decode cX8_how 3 = .ok (.ldc2_w 297, 3) := by decide +kernel
theorem dX8_how_6 : decode cX8_how 6 = .ok (.invokestatic 76, 3) := by decide +kernel
theorem dX8_how_9 : decode cX8_how 9 = .ok (.ifCond .ne 6, 3) := by decide +kernel
theorem dX8_how_12 : decode cX8_how 12 = .ok (.bipush (-2), 2) := by decide +kernel
theorem dX8_how_14 : decode cX8_how 14 = .ok (.ireturn, 1) := by decide +kernel
theorem dX8_how_15 : decode cX8_how 15 = .ok (.iload_n 1, 1) := by decide +kernel
theorem dX8_how_16 : decode cX8_how 16 = .ok (.iconst 2, 1) := by decide +kernel
theorem dX8_how_17 : decode cX8_how 17 = .ok (.if_icmp .ge 7, 3) := by decide +kernel
theorem dX8_how_20 : decode cX8_how 20 = .ok (.iconst 1, 1) := by decide +kernel
theorem dX8_how_21 : decode cX8_how 21 = .ok (.goto 4, 3) := by decide +kernel
theorem dX8_how_24 : decode cX8_how 24 = .ok (.iconst 0, 1) := by decide +kernel
theorem dX8_how_25 : decode cX8_how 25 = .ok (.istore_n 2, 1) := by decide +kernel
theorem dX8_how_26 : decode cX8_how 26 = .ok (.iload_n 2, 1) := by decide +kernel
theorem dX8_how_27 : decode cX8_how 27 = .ok (.iconst 1, 1) := by decide +kernel
theorem dX8_how_28 : decode cX8_how 28 = .ok (.if_icmp .ne 10, 3) := by decide +kernel
theorem dX8_how_31 : decode cX8_how 31 = .ok (.aload_n 0, 1) := by decide +kernel
theorem dX8_how_32 : decode cX8_how 32 = .ok (.getfield 26, 3) := by decide +kernel
theorem dX8_how_35 : decode cX8_how 35 = .ok (.goto 7, 3) := by decide +kernel
theorem dX8_how_38 : decode cX8_how 38 = .ok (.aload_n 0, 1) := by decide +kernel
theorem dX8_how_39 : decode cX8_how 39 = .ok (.getfield 23, 3) := by decide +kernel
theorem dX8_how_42 : decode cX8_how 42 = .ok (.istore_n 3, 1) := by decide +kernel
theorem dX8_how_43 : decode cX8_how 43 = .ok (.iconst (-1), 1) := by decide +kernel
theorem dX8_how_44 : decode cX8_how 44 = .ok (.istore 4, 2) := by decide +kernel
theorem dX8_how_46 : decode cX8_how 46 = .ok (.iconst 0, 1) := by decide +kernel
theorem dX8_how_47 : decode cX8_how 47 = .ok (.istore 5, 2) := by decide +kernel
theorem dX8_how_49 : decode cX8_how 49 = .ok (.iconst 0, 1) := by decide +kernel
theorem dX8_how_50 : decode cX8_how 50 = .ok (.istore 6, 2) := by decide +kernel
theorem dX8_how_52 : decode cX8_how 52 = .ok (.iload 6, 2) := by decide +kernel
theorem dX8_how_54 : decode cX8_how 54 = .ok (.iload_n 2, 1) := by decide +kernel
theorem dX8_how_55 : decode cX8_how 55 = .ok (.invokestatic 86, 3) := by decide +kernel
theorem dX8_how_58 : decode cX8_how 58 = .ok (.if_icmp .gt 45, 3) := by decide +kernel
theorem dX8_how_61 : decode cX8_how 61 = .ok (.aload_n 0, 1) := by decide +kernel
theorem dX8_how_62 : decode cX8_how 62 = .ok (.iload_n 2, 1) := by decide +kernel
theorem dX8_how_63 : decode cX8_how 63 = .ok (.iconst 0, 1) := by decide +kernel
theorem dX8_how_64 : decode cX8_how 64 = .ok (.iload 6, 2) := by decide +kernel
theorem dX8_how_66 : decode cX8_how 66 = .ok (.invokevirtual 94, 3) := by decide +kernel
theorem dX8_how_69 : decode cX8_how 69 = .ok (.aload_n 0, 1) := by decide +kernel
theorem dX8_how_70 : decode cX8_how 70 = .ok (.iconst (-1), 1) := by decide +kernel
theorem dX8_how_71 : decode cX8_how 71 = .ok (.invokevirtual 264, 3) := by decide +kernel
theorem dX8_how_74 : decode cX8_how 74 = .ok (.istore 7, 2) := by decide +kernel
theorem dX8_how_76 : decode cX8_how 76 = .ok (.iload 4, 2) := by decide +kernel
theorem dX8_how_78 : decode cX8_how 78 = .ok (.iconst (-1), 1) := by decide +kernel
theorem dX8_how_79 : decode cX8_how 79 = .ok (.if_icmp .eq 10, 3) := by decide +kernel
theorem dX8_how_82 : decode cX8_how 82 = .ok (.iload 7, 2) := by decide +kernel
theorem dX8_how_84 : decode cX8_how 84 = .ok (.iload 5, 2) := by decide +kernel
theorem dX8_how_86 : decode cX8_how 86 = .ok (.if_icmp .ge 11, 3) := by decide +kernel
theorem dX8_how_89 : decode cX8_how 89 = .ok (.iload 6, 2) := by decide +kernel
theorem dX8_how_91 : decode cX8_how 91 = .ok (.istore 4, 2) := by decide +kernel
theorem dX8_how_93 : decode cX8_how 93 = .ok (.iload 7, 2) := by decide +kernel
theorem dX8_how_95 : decode cX8_how 95 = .ok (.istore 5, 2) := by decide +kernel
theorem dX8_how_97 : decode cX8_how 97 = .ok (.iinc 6 1, 3) := by decide +kernel
theorem dX8_how_100 : decode cX8_how 100 = .ok (.goto (-48), 3) := by decide +kernel
theorem dX8_how_103 : decode cX8_how 103 = .ok (.aload_n 0, 1) := by decide +kernel
theorem dX8_how_104 : decode cX8_how 104 = .ok (.iload_n 2, 1) := by decide +kernel
theorem dX8_how_105 : decode cX8_how 105 = .ok (.iconst 0, 1) := by decide +kernel
theorem dX8_how_106 : decode cX8_how 106 = .ok (.iload_n 3, 1) := by decide +kernel
theorem dX8_how_107 : decode cX8_how 107 = .ok (.invokevirtual 94, 3) := by decide +kernel
theorem dX8_how_110 : decode cX8_how 110 = .ok (.iload_n 1, 1) := by decide +kernel
theorem dX8_how_111 : decode cX8_how 111 = .ok (.iconst 2, 1) := by decide +kernel
theorem dX8_how_112 : decode cX8_how 112 = .ok (.irem, 1) := by decide +kernel
theorem dX8_how_113 : decode cX8_how 113 = .ok (.ifCond .ne 8, 3) := by decide +kernel
theorem dX8_how_116 : decode cX8_how 116 = .ok (.iload 4, 2) := by decide +kernel
theorem dX8_how_118 : decode cX8_how 118 = .ok (.goto 5, 3) := by decide +kernel
theorem dX8_how_121 : decode cX8_how 121 = .ok (.iload 5, 2) := by decide +kernel
theorem dX8_how_123 : decode cX8_how 123 = .ok (.ireturn, 1) := by decide +kernel
theorem dX8_bitsOf_0 : decode cX8_bitsOf 0 = .ok (.iconst 0, 1) := by decide +kernel
theorem dX8_bitsOf_1 : decode cX8_bitsOf 1 = .ok (.istore_n 1, 1) := by decide +kernel
theorem dX8_bitsOf_2 : decode cX8_bitsOf 2 = .ok (.iload_n 0, 1) := by decide +kernel
theorem dX8_bitsOf_3 : decode cX8_bitsOf 3 = .ok (.istore_n 2, 1) := by decide +kernel
theorem dX8_bitsOf_4 : decode cX8_bitsOf 4 = .ok (.iload_n 2, 1) := by decide +kernel
theorem dX8_bitsOf_5 : decode cX8_bitsOf 5 = .ok (.ifCond .eq 15, 3) := by decide +kernel
theorem dX8_bitsOf_8 : decode cX8_bitsOf 8 = .ok (.iinc 1 1, 3) := by decide +kernel
theorem dX8_bitsOf_11 : decode cX8_bitsOf 11 = .ok (.iload_n 2, 1) := by decide +kernel
theorem dX8_bitsOf_12 : decode cX8_bitsOf 12 = .ok (.iload_n 2, 1) := by decide +kernel
theorem dX8_bitsOf_13 : decode cX8_bitsOf 13 = .ok (.iconst 1, 1) := by decide +kernel
theorem dX8_bitsOf_14 : decode cX8_bitsOf 14 = .ok (.isub, 1) := by decide +kernel
theorem dX8_bitsOf_15 : decode cX8_bitsOf 15 = .ok (.iand, 1) := by decide +kernel
theorem dX8_bitsOf_16 : decode cX8_bitsOf 16 = .ok (.istore_n 2, 1) := by decide +kernel
theorem dX8_bitsOf_17 : decode cX8_bitsOf 17 = .ok (.goto (-13), 3) := by decide +kernel
theorem dX8_bitsOf_20 : decode cX8_bitsOf 20 = .ok (.iload_n 1, 1) := by decide +kernel
theorem dX8_bitsOf_21 : decode cX8_bitsOf 21 = .ok (.ireturn, 1) := by decide +kernel
theorem dX8_enough_0 : decode cX8_enough 0 = .ok (.iload_n 1, 1) := by decide +kernel
theorem dX8_enough_1 : decode cX8_enough 1 = .ok (.i2l, 1) := by decide +kernel
theorem dX8_enough_2 : decode cX8_enough 2 = .ok (.lconst 0, 1) := by decide +kernel
theorem dX8_enough_3 : decode cX8_enough 3 = .ok (.ldc2_w 299, 3) := by decide +kernel
theorem dX8_enough_6 : decode cX8_enough 6 = .ok (.invokestatic 76, 3) := by decide +kernel
theorem dX8_enough_9 : decode cX8_enough 9 = .ok (.ifCond .ne 6, 3) := by decide +kernel
theorem dX8_enough_12 : decode cX8_enough 12 = .ok (.bipush (-2), 2) := by decide +kernel
theorem dX8_enough_14 : decode cX8_enough 14 = .ok (.ireturn, 1) := by decide +kernel
theorem dX8_enough_15 : decode cX8_enough 15 = .ok (.iconst (-1), 1) := by decide +kernel
theorem dX8_enough_16 : decode cX8_enough 16 = .ok (.istore_n 2, 1) := by decide +kernel
theorem dX8_enough_17 : decode cX8_enough 17 = .ok (.iconst 0, 1) := by decide +kernel
theorem dX8_enough_18 : decode cX8_enough 18 = .ok (.istore_n 3, 1) := by decide +kernel
theorem dX8_enough_19 : decode cX8_enough 19 = .ok (.iload_n 3, 1) := by decide +kernel
theorem dX8_enough_20 : decode cX8_enough 20 = .ok (.iconst 1, 1) := by decide +kernel
theorem dX8_enough_21 : decode cX8_enough 21 = .ok (.aload_n 0, 1) := by decide +kernel
theorem dX8_enough_22 : decode cX8_enough 22 = .ok (.getfield 73, 3) := by decide +kernel
theorem dX8_enough_25 : decode cX8_enough 25 = .ok (.ishl, 1) := by decide +kernel
theorem dX8_enough_26 : decode cX8_enough 26 = .ok (.if_icmp .ge 77, 3) := by decide +kernel
theorem dX8_enough_29 : decode cX8_enough 29 = .ok (.iload_n 2, 1) := by decide +kernel
theorem dX8_enough_30 : decode cX8_enough 30 = .ok (.iconst (-1), 1) := by decide +kernel
theorem dX8_enough_31 : decode cX8_enough 31 = .ok (.if_icmp .eq 14, 3) := by decide +kernel
theorem dX8_enough_34 : decode cX8_enough 34 = .ok (.iload_n 3, 1) := by decide +kernel
theorem dX8_enough_35 : decode cX8_enough 35 = .ok (.invokestatic 301, 3) := by decide +kernel
theorem dX8_enough_38 : decode cX8_enough 38 = .ok (.iload_n 2, 1) := by decide +kernel
theorem dX8_enough_39 : decode cX8_enough 39 = .ok (.invokestatic 301, 3) := by decide +kernel
theorem dX8_enough_42 : decode cX8_enough 42 = .ok (.if_icmp .ge 55, 3) := by decide +kernel
theorem dX8_enough_45 : decode cX8_enough 45 = .ok (.aload_n 0, 1) := by decide +kernel
theorem dX8_enough_46 : decode cX8_enough 46 = .ok (.invokevirtual 108, 3) := by decide +kernel
theorem dX8_enough_49 : decode cX8_enough 49 = .ok (.iconst 0, 1) := by decide +kernel
theorem dX8_enough_50 : decode cX8_enough 50 = .ok (.istore 4, 2) := by decide +kernel
theorem dX8_enough_52 : decode cX8_enough 52 = .ok (.iload 4, 2) := by decide +kernel
theorem dX8_enough_54 : decode cX8_enough 54 = .ok (.aload_n 0, 1) := by decide +kernel
theorem dX8_enough_55 : decode cX8_enough 55 = .ok (.getfield 73, 3) := by decide +kernel
theorem dX8_enough_58 : decode cX8_enough 58 = .ok (.if_icmp .ge 25, 3) := by decide +kernel
theorem dX8_enough_61 : decode cX8_enough 61 = .ok (.iload_n 3, 1) := by decide +kernel
theorem dX8_enough_62 : decode cX8_enough 62 = .ok (.iload 4, 2) := by decide +kernel
theorem dX8_enough_64 : decode cX8_enough 64 = .ok (.ishr, 1) := by decide +kernel
theorem dX8_enough_65 : decode cX8_enough 65 = .ok (.iconst 1, 1) := by decide +kernel
theorem dX8_enough_66 : decode cX8_enough 66 = .ok (.iand, 1) := by decide +kernel
theorem dX8_enough_67 : decode cX8_enough 67 = .ok (.iconst 1, 1) := by decide +kernel
theorem dX8_enough_68 : decode cX8_enough 68 = .ok (.if_icmp .ne 9, 3) := by decide +kernel
theorem dX8_enough_71 : decode cX8_enough 71 = .ok (.aload_n 0, 1) := by decide +kernel
theorem dX8_enough_72 : decode cX8_enough 72 = .ok (.iload 4, 2) := by decide +kernel
theorem dX8_enough_74 : decode cX8_enough 74 = .ok (.invokevirtual 252, 3) := by decide +kernel
theorem dX8_enough_77 : decode cX8_enough 77 = .ok (.iinc 4 1, 3) := by decide +kernel
theorem dX8_enough_80 : decode cX8_enough 80 = .ok (.goto (-28), 3) := by decide +kernel
theorem dX8_enough_83 : decode cX8_enough 83 = .ok (.aload_n 0, 1) := by decide +kernel
theorem dX8_enough_84 : decode cX8_enough 84 = .ok (.invokevirtual 256, 3) := by decide +kernel
theorem dX8_enough_87 : decode cX8_enough 87 = .ok (.iload_n 1, 1) := by decide +kernel
theorem dX8_enough_88 : decode cX8_enough 88 = .ok (.if_icmp .gt 7, 3) := by decide +kernel
theorem dX8_enough_91 : decode cX8_enough 91 = .ok (.iload_n 3, 1) := by decide +kernel
theorem dX8_enough_92 : decode cX8_enough 92 = .ok (.goto 4, 3) := by decide +kernel
theorem dX8_enough_95 : decode cX8_enough 95 = .ok (.iload_n 2, 1) := by decide +kernel
theorem dX8_enough_96 : decode cX8_enough 96 = .ok (.istore_n 2, 1) := by decide +kernel
theorem dX8_enough_97 : decode cX8_enough 97 = .ok (.iinc 3 1, 3) := by decide +kernel
theorem dX8_enough_100 : decode cX8_enough 100 = .ok (.goto (-81), 3) := by decide +kernel
theorem dX8_enough_103 : decode cX8_enough 103 = .ok (.iload_n 2, 1) := by decide +kernel
theorem dX8_enough_104 : decode cX8_enough 104 = .ok (.ireturn, 1) := by decide +kernel
theorem dX8_unlike_0 : decode cX8_unlike 0 = .ok (.aload_n 0, 1) := by decide +kernel
theorem dX8_unlike_1 : decode cX8_unlike 1 = .ok (.iconst (-1), 1) := by decide +kernel
theorem dX8_unlike_2 : decode cX8_unlike 2 = .ok (.invokevirtual 264, 3) := by decide +kernel
theorem dX8_unlike_5 : decode cX8_unlike 5 = .ok (.pop, 1) := by decide +kernel
theorem dX8_unlike_6 : decode cX8_unlike 6 = .ok (.iconst 0, 1) := by decide +kernel
theorem dX8_unlike_7 : decode cX8_unlike 7 = .ok (.istore_n 2, 1) := by decide +kernel
theorem dX8_unlike_8 : decode cX8_unlike 8 = .ok (.iconst 0, 1) := by decide +kernel
theorem dX8_unlike_9 : decode cX8_unlike 9 = .ok (.istore_n 3, 1) := by decide +kernel
theorem dX8_unlike_10 : decode cX8_unlike 10 = .ok (.iload_n 3, 1) := by decide +kernel
theorem dX8_unlike_11 : decode cX8_unlike 11 = .ok (.aload_n 0, 1) := by decide +kernel
theorem dX8_unlike_12 : decode cX8_unlike 12 = .ok (.getfield 73, 3) := by decide +kernel
theorem dX8_unlike_15 : decode cX8_unlike 15 = .ok (.if_icmp .ge 39, 3) := by decide +kernel
theorem dX8_unlike_18 : decode cX8_unlike 18 = .ok (.iload_n 2, 1) := by decide +kernel
theorem dX8_unlike_19 : decode cX8_unlike 19 = .ok (.aload_n 0, 1) := by decide +kernel
theorem dX8_unlike_20 : decode cX8_unlike 20 = .ok (.getfield 35, 3) := by decide +kernel
theorem dX8_unlike_23 : decode cX8_unlike 23 = .ok (.iload_n 3, 1) := by decide +kernel
theorem dX8_unlike_24 : decode cX8_unlike 24 = .ok (.iaload, 1) := by decide +kernel
theorem dX8_unlike_25 : decode cX8_unlike 25 = .ok (.aload_n 0, 1) := by decide +kernel
theorem dX8_unlike_26 : decode cX8_unlike 26 = .ok (.getfield 63, 3) := by decide +kernel
theorem dX8_unlike_29 : decode cX8_unlike 29 = .ok (.bipush 40, 2) := by decide +kernel
theorem dX8_unlike_31 : decode cX8_unlike 31 = .ok (.iload_n 1, 1) := by decide +kernel
theorem dX8_unlike_32 : decode cX8_unlike 32 = .ok (.imul, 1) := by decide +kernel
theorem dX8_unlike_33 : decode cX8_unlike 33 = .ok (.iload_n 3, 1) := by decide +kernel
theorem dX8_unlike_34 : decode cX8_unlike 34 = .ok (.iadd, 1) := by decide +kernel
theorem dX8_unlike_35 : decode cX8_unlike 35 = .ok (.iaload, 1) := by decide +kernel
theorem dX8_unlike_36 : decode cX8_unlike 36 = .ok (.if_icmp .ne 7, 3) := by decide +kernel
theorem dX8_unlike_39 : decode cX8_unlike 39 = .ok (.iconst 0, 1) := by decide +kernel
theorem dX8_unlike_40 : decode cX8_unlike 40 = .ok (.goto 4, 3) := by decide +kernel
theorem dX8_unlike_43 : decode cX8_unlike 43 = .ok (.iconst 1, 1) := by decide +kernel
theorem dX8_unlike_44 : decode cX8_unlike 44 = .ok (.iload_n 3, 1) := by decide +kernel
theorem dX8_unlike_45 : decode cX8_unlike 45 = .ok (.ishl, 1) := by decide +kernel
theorem dX8_unlike_46 : decode cX8_unlike 46 = .ok (.ior, 1) := by decide +kernel
theorem dX8_unlike_47 : decode cX8_unlike 47 = .ok (.istore_n 2, 1) := by decide +kernel
theorem dX8_unlike_48 : decode cX8_unlike 48 = .ok (.iinc 3 1, 3) := by decide +kernel
theorem dX8_unlike_51 : decode cX8_unlike 51 = .ok (.goto (-41), 3) := by decide +kernel
theorem dX8_unlike_54 : decode cX8_unlike 54 = .ok (.iload_n 2, 1) := by decide +kernel
theorem dX8_unlike_55 : decode cX8_unlike 55 = .ok (.ireturn, 1) := by decide +kernel
theorem dX8_tells_0 : decode cX8_tells 0 = .ok (.iload_n 1, 1) := by decide +kernel
theorem dX8_tells_1 : decode cX8_tells 1 = .ok (.invokestatic 270, 3) := by decide +kernel
theorem dX8_tells_4 : decode cX8_tells 4 = .ok (.ifCond .eq 40, 3) := by decide +kernel
theorem dX8_tells_7 : decode cX8_tells 7 = .ok (.iload_n 2, 1) := by decide +kernel
theorem dX8_tells_8 : decode cX8_tells 8 = .ok (.i2l, 1) := by decide +kernel
theorem dX8_tells_9 : decode cX8_tells 9 = .ok (.lconst 0, 1) := by decide +kernel
theorem dX8_tells_10 : decode cX8_tells 10 = .ok (.ldc2_w 304, 3) := by decide +kernel
theorem dX8_tells_13 : decode cX8_tells 13 = .ok (.invokestatic 76, 3) := by decide +kernel
theorem dX8_tells_16 : decode cX8_tells 16 = .ok (.ifCond .ne 31, 3) := by decide +kernel
theorem dX8_tells_19 : decode cX8_tells 19 = .ok (.iload_n 2, 1) := by decide +kernel
theorem dX8_tells_20 : decode cX8_tells 20 = .ok (.i2l, 1) := by decide +kernel
theorem dX8_tells_21 : decode cX8_tells 21 = .ok (.ldc2_w 155, 3) := by decide +kernel
theorem dX8_tells_24 : decode cX8_tells 24 = .ok (.ldc2_w 306, 3) := by decide +kernel
theorem dX8_tells_27 : decode cX8_tells 27 = .ok (.invokestatic 76, 3) := by decide +kernel
theorem dX8_tells_30 : decode cX8_tells 30 = .ok (.ifCond .eq 14, 3) := by decide +kernel
theorem dX8_tells_33 : decode cX8_tells 33 = .ok (.aload_n 0, 1) := by decide +kernel
theorem dX8_tells_34 : decode cX8_tells 34 = .ok (.iload_n 2, 1) := by decide +kernel
theorem dX8_tells_35 : decode cX8_tells 35 = .ok (.bipush 10, 2) := by decide +kernel
theorem dX8_tells_37 : decode cX8_tells 37 = .ok (.irem, 1) := by decide +kernel
theorem dX8_tells_38 : decode cX8_tells 38 = .ok (.invokevirtual 82, 3) := by decide +kernel
theorem dX8_tells_41 : decode cX8_tells 41 = .ok (.ifCond .ne 6, 3) := by decide +kernel
theorem dX8_tells_44 : decode cX8_tells 44 = .ok (.bipush (-2), 2) := by decide +kernel
theorem dX8_tells_46 : decode cX8_tells 46 = .ok (.ireturn, 1) := by decide +kernel
theorem dX8_tells_47 : decode cX8_tells 47 = .ok (.aload_n 0, 1) := by decide +kernel
theorem dX8_tells_48 : decode cX8_tells 48 = .ok (.getfield 53, 3) := by decide +kernel
theorem dX8_tells_51 : decode cX8_tells 51 = .ok (.iload_n 1, 1) := by decide +kernel
theorem dX8_tells_52 : decode cX8_tells 52 = .ok (.baload, 1) := by decide +kernel
theorem dX8_tells_53 : decode cX8_tells 53 = .ok (.ifCond .ne 6, 3) := by decide +kernel
theorem dX8_tells_56 : decode cX8_tells 56 = .ok (.bipush (-11), 2) := by decide +kernel
theorem dX8_tells_58 : decode cX8_tells 58 = .ok (.ireturn, 1) := by decide +kernel
theorem dX8_tells_59 : decode cX8_tells 59 = .ok (.aload_n 0, 1) := by decide +kernel
theorem dX8_tells_60 : decode cX8_tells 60 = .ok (.getfield 60, 3) := by decide +kernel
theorem dX8_tells_63 : decode cX8_tells 63 = .ok (.iload_n 1, 1) := by decide +kernel
theorem dX8_tells_64 : decode cX8_tells 64 = .ok (.iaload, 1) := by decide +kernel
theorem dX8_tells_65 : decode cX8_tells 65 = .ok (.aload_n 0, 1) := by decide +kernel
theorem dX8_tells_66 : decode cX8_tells 66 = .ok (.getfield 73, 3) := by decide +kernel
theorem dX8_tells_69 : decode cX8_tells 69 = .ok (.if_icmp .eq 6, 3) := by decide +kernel
theorem dX8_tells_72 : decode cX8_tells 72 = .ok (.bipush (-2), 2) := by decide +kernel
theorem dX8_tells_74 : decode cX8_tells 74 = .ok (.ireturn, 1) := by decide +kernel
theorem dX8_tells_75 : decode cX8_tells 75 = .ok (.iload_n 2, 1) := by decide +kernel
theorem dX8_tells_76 : decode cX8_tells 76 = .ok (.ifCond .ne 9, 3) := by decide +kernel
theorem dX8_tells_79 : decode cX8_tells 79 = .ok (.aload_n 0, 1) := by decide +kernel
theorem dX8_tells_80 : decode cX8_tells 80 = .ok (.iload_n 1, 1) := by decide +kernel
theorem dX8_tells_81 : decode cX8_tells 81 = .ok (.invokevirtual 308, 3) := by decide +kernel
theorem dX8_tells_84 : decode cX8_tells 84 = .ok (.ireturn, 1) := by decide +kernel
theorem dX8_tells_85 : decode cX8_tells 85 = .ok (.iload_n 2, 1) := by decide +kernel
theorem dX8_tells_86 : decode cX8_tells 86 = .ok (.bipush 10, 2) := by decide +kernel
theorem dX8_tells_88 : decode cX8_tells 88 = .ok (.irem, 1) := by decide +kernel
theorem dX8_tells_89 : decode cX8_tells 89 = .ok (.istore_n 3, 1) := by decide +kernel
theorem dX8_tells_90 : decode cX8_tells 90 = .ok (.iload_n 2, 1) := by decide +kernel
theorem dX8_tells_91 : decode cX8_tells 91 = .ok (.iconst 1, 1) := by decide +kernel
theorem dX8_tells_92 : decode cX8_tells 92 = .ok (.if_icmp .ne 7, 3) := by decide +kernel
theorem dX8_tells_95 : decode cX8_tells 95 = .ok (.iconst 0, 1) := by decide +kernel
theorem dX8_tells_96 : decode cX8_tells 96 = .ok (.goto 34, 3) := by decide +kernel
theorem dX8_tells_99 : decode cX8_tells 99 = .ok (.iload_n 2, 1) := by decide +kernel
theorem dX8_tells_100 : decode cX8_tells 100 = .ok (.iconst 2, 1) := by decide +kernel
theorem dX8_tells_101 : decode cX8_tells 101 = .ok (.if_icmp .ne 8, 3) := by decide +kernel
theorem dX8_tells_104 : decode cX8_tells 104 = .ok (.bipush 6, 2) := by decide +kernel
theorem dX8_tells_106 : decode cX8_tells 106 = .ok (.goto 24, 3) := by decide +kernel
theorem dX8_tells_109 : decode cX8_tells 109 = .ok (.iload_n 2, 1) := by decide +kernel
theorem dX8_tells_110 : decode cX8_tells 110 = .ok (.bipush 20, 2) := by decide +kernel
theorem dX8_tells_112 : decode cX8_tells 112 = .ok (.if_icmp .ge 7, 3) := by decide +kernel
theorem dX8_tells_115 : decode cX8_tells 115 = .ok (.iconst 5, 1) := by decide +kernel
theorem dX8_tells_116 : decode cX8_tells 116 = .ok (.goto 14, 3) := by decide +kernel
theorem dX8_tells_119 : decode cX8_tells 119 = .ok (.iload_n 2, 1) := by decide +kernel
theorem dX8_tells_120 : decode cX8_tells 120 = .ok (.bipush 30, 2) := by decide +kernel
theorem dX8_tells_122 : decode cX8_tells 122 = .ok (.if_icmp .ge 7, 3) := by decide +kernel
theorem dX8_tells_125 : decode cX8_tells 125 = .ok (.iconst 2, 1) := by decide +kernel
theorem dX8_tells_126 : decode cX8_tells 126 = .ok (.goto 4, 3) := by decide +kernel
theorem dX8_tells_129 : decode cX8_tells 129 = .ok (.iconst 3, 1) := by decide +kernel
theorem dX8_tells_130 : decode cX8_tells 130 = .ok (.istore 4, 2) := by decide +kernel
theorem dX8_tells_132 : decode cX8_tells 132 = .ok (.iload 4, 2) := by decide +kernel
theorem dX8_tells_134 : decode cX8_tells 134 = .ok (.bipush 6, 2) := by decide +kernel
theorem dX8_tells_136 : decode cX8_tells 136 = .ok (.if_icmp .ne 10, 3) := by decide +kernel
theorem dX8_tells_139 : decode cX8_tells 139 = .ok (.aload_n 0, 1) := by decide +kernel
theorem dX8_tells_140 : decode cX8_tells 140 = .ok (.getfield 98, 3) := by decide +kernel
theorem dX8_tells_143 : decode cX8_tells 143 = .ok (.goto 43, 3) := by decide +kernel
theorem dX8_tells_146 : decode cX8_tells 146 = .ok (.iload 4, 2) := by decide +kernel
theorem dX8_tells_148 : decode cX8_tells 148 = .ok (.ifCond .ne 10, 3) := by decide +kernel
theorem dX8_tells_151 : decode cX8_tells 151 = .ok (.aload_n 0, 1) := by decide +kernel
theorem dX8_tells_152 : decode cX8_tells 152 = .ok (.getfield 23, 3) := by decide +kernel
theorem dX8_tells_155 : decode cX8_tells 155 = .ok (.goto 31, 3) := by decide +kernel
theorem dX8_tells_158 : decode cX8_tells 158 = .ok (.iload 4, 2) := by decide +kernel
theorem dX8_tells_160 : decode cX8_tells 160 = .ok (.iconst 5, 1) := by decide +kernel
theorem dX8_tells_161 : decode cX8_tells 161 = .ok (.if_icmp .ne 12, 3) := by decide +kernel
theorem dX8_tells_164 : decode cX8_tells 164 = .ok (.aload_n 0, 1) := by decide +kernel
theorem dX8_tells_165 : decode cX8_tells 165 = .ok (.getfield 29, 3) := by decide +kernel
theorem dX8_tells_168 : decode cX8_tells 168 = .ok (.iload_n 3, 1) := by decide +kernel
theorem dX8_tells_169 : decode cX8_tells 169 = .ok (.iaload, 1) := by decide +kernel
theorem dX8_tells_170 : decode cX8_tells 170 = .ok (.goto 16, 3) := by decide +kernel
theorem dX8_tells_173 : decode cX8_tells 173 = .ok (.aload_n 0, 1) := by decide +kernel
theorem dX8_tells_174 : decode cX8_tells 174 = .ok (.getfield 32, 3) := by decide +kernel
theorem dX8_tells_177 : decode cX8_tells 177 = .ok (.iconst 3, 1) := by decide +kernel
theorem dX8_tells_178 : decode cX8_tells 178 = .ok (.iload_n 3, 1) := by decide +kernel
theorem dX8_tells_179 : decode cX8_tells 179 = .ok (.imul, 1) := by decide +kernel
theorem dX8_tells_180 : decode cX8_tells 180 = .ok (.iload 4, 2) := by decide +kernel
theorem dX8_tells_182 : decode cX8_tells 182 = .ok (.iadd, 1) := by decide +kernel
theorem dX8_tells_183 : decode cX8_tells 183 = .ok (.iconst 2, 1) := by decide +kernel
theorem dX8_tells_184 : decode cX8_tells 184 = .ok (.isub, 1) := by decide +kernel
theorem dX8_tells_185 : decode cX8_tells 185 = .ok (.iaload, 1) := by decide +kernel
theorem dX8_tells_186 : decode cX8_tells 186 = .ok (.istore 5, 2) := by decide +kernel
theorem dX8_tells_188 : decode cX8_tells 188 = .ok (.iload 4, 2) := by decide +kernel
theorem dX8_tells_190 : decode cX8_tells 190 = .ok (.bipush 6, 2) := by decide +kernel
theorem dX8_tells_192 : decode cX8_tells 192 = .ok (.if_icmp .ne 12, 3) := by decide +kernel
theorem dX8_tells_195 : decode cX8_tells 195 = .ok (.aload_n 0, 1) := by decide +kernel
theorem dX8_tells_196 : decode cX8_tells 196 = .ok (.getfield 70, 3) := by decide +kernel
theorem dX8_tells_199 : decode cX8_tells 199 = .ok (.iconst 1, 1) := by decide +kernel
theorem dX8_tells_200 : decode cX8_tells 200 = .ok (.isub, 1) := by decide +kernel
theorem dX8_tells_201 : decode cX8_tells 201 = .ok (.goto 18, 3) := by decide +kernel
theorem dX8_tells_204 : decode cX8_tells 204 = .ok (.iload 4, 2) := by decide +kernel
theorem dX8_tells_206 : decode cX8_tells 206 = .ok (.iconst 5, 1) := by decide +kernel
theorem dX8_tells_207 : decode cX8_tells 207 = .ok (.if_icmp .ne 7, 3) := by decide +kernel
theorem dX8_tells_210 : decode cX8_tells 210 = .ok (.iconst 5, 1) := by decide +kernel
theorem dX8_tells_211 : decode cX8_tells 211 = .ok (.goto 8, 3) := by decide +kernel
theorem dX8_tells_214 : decode cX8_tells 214 = .ok (.iload 4, 2) := by decide +kernel
theorem dX8_tells_216 : decode cX8_tells 216 = .ok (.invokestatic 86, 3) := by decide +kernel
theorem dX8_tells_219 : decode cX8_tells 219 = .ok (.istore 6, 2) := by decide +kernel
theorem dX8_tells_221 : decode cX8_tells 221 = .ok (.iconst 0, 1) := by decide +kernel
theorem dX8_tells_222 : decode cX8_tells 222 = .ok (.istore 7, 2) := by decide +kernel
theorem dX8_tells_224 : decode cX8_tells 224 = .ok (.iconst 0, 1) := by decide +kernel
theorem dX8_tells_225 : decode cX8_tells 225 = .ok (.istore 8, 2) := by decide +kernel
theorem dX8_tells_227 : decode cX8_tells 227 = .ok (.iconst (-1), 1) := by decide +kernel
theorem dX8_tells_228 : decode cX8_tells 228 = .ok (.istore 9, 2) := by decide +kernel
theorem dX8_tells_230 : decode cX8_tells 230 = .ok (.iconst 0, 1) := by decide +kernel
theorem dX8_tells_231 : decode cX8_tells 231 = .ok (.istore 10, 2) := by decide +kernel
theorem dX8_tells_233 : decode cX8_tells 233 = .ok (.iload 10, 2) := by decide +kernel
theorem dX8_tells_235 : decode cX8_tells 235 = .ok (.iload 6, 2) := by decide +kernel
theorem dX8_tells_237 : decode cX8_tells 237 = .ok (.if_icmp .gt 63, 3) := by decide +kernel
theorem dX8_tells_240 : decode cX8_tells 240 = .ok (.aload_n 0, 1) := by decide +kernel
theorem dX8_tells_241 : decode cX8_tells 241 = .ok (.iload 4, 2) := by decide +kernel
theorem dX8_tells_243 : decode cX8_tells 243 = .ok (.iload_n 3, 1) := by decide +kernel
theorem dX8_tells_244 : decode cX8_tells 244 = .ok (.iload 10, 2) := by decide +kernel
theorem dX8_tells_246 : decode cX8_tells 246 = .ok (.invokevirtual 94, 3) := by decide +kernel
theorem dX8_tells_249 : decode cX8_tells 249 = .ok (.aload_n 0, 1) := by decide +kernel
theorem dX8_tells_250 : decode cX8_tells 250 = .ok (.iload_n 1, 1) := by decide +kernel
theorem dX8_tells_251 : decode cX8_tells 251 = .ok (.invokevirtual 308, 3) := by decide +kernel
theorem dX8_tells_254 : decode cX8_tells 254 = .ok (.ifCond .ne 40, 3) := by decide +kernel
theorem dX8_tells_257 : decode cX8_tells 257 = .ok (.iload 7, 2) := by decide +kernel
theorem dX8_tells_259 : decode cX8_tells 259 = .ok (.iload_n 2, 1) := by decide +kernel
theorem dX8_tells_260 : decode cX8_tells 260 = .ok (.bipush 30, 2) := by decide +kernel
theorem dX8_tells_262 : decode cX8_tells 262 = .ok (.if_icmp .ge 10, 3) := by decide +kernel
theorem dX8_tells_265 : decode cX8_tells 265 = .ok (.iconst 1, 1) := by decide +kernel
theorem dX8_tells_266 : decode cX8_tells 266 = .ok (.iload 10, 2) := by decide +kernel
theorem dX8_tells_268 : decode cX8_tells 268 = .ok (.ishl, 1) := by decide +kernel
theorem dX8_tells_269 : decode cX8_tells 269 = .ok (.goto 4, 3) := by decide +kernel
theorem dX8_tells_272 : decode cX8_tells 272 = .ok (.iconst 0, 1) := by decide +kernel
theorem dX8_tells_273 : decode cX8_tells 273 = .ok (.ior, 1) := by decide +kernel
theorem dX8_tells_274 : decode cX8_tells 274 = .ok (.istore 7, 2) := by decide +kernel
theorem dX8_tells_276 : decode cX8_tells 276 = .ok (.iinc 8 1, 3) := by decide +kernel
theorem dX8_tells_279 : decode cX8_tells 279 = .ok (.iload 9, 2) := by decide +kernel
theorem dX8_tells_281 : decode cX8_tells 281 = .ok (.iconst (-1), 1) := by decide +kernel
theorem dX8_tells_282 : decode cX8_tells 282 = .ok (.if_icmp .ne 8, 3) := by decide +kernel
theorem dX8_tells_285 : decode cX8_tells 285 = .ok (.iload 10, 2) := by decide +kernel
theorem dX8_tells_287 : decode cX8_tells 287 = .ok (.goto 5, 3) := by decide +kernel
theorem dX8_tells_290 : decode cX8_tells 290 = .ok (.iload 9, 2) := by decide +kernel
theorem dX8_tells_292 : decode cX8_tells 292 = .ok (.istore 9, 2) := by decide +kernel
theorem dX8_tells_294 : decode cX8_tells 294 = .ok (.iinc 10 1, 3) := by decide +kernel
theorem dX8_tells_297 : decode cX8_tells 297 = .ok (.goto (-64), 3) := by decide +kernel
theorem dX8_tells_300 : decode cX8_tells 300 = .ok (.aload_n 0, 1) := by decide +kernel
theorem dX8_tells_301 : decode cX8_tells 301 = .ok (.iload 4, 2) := by decide +kernel
theorem dX8_tells_303 : decode cX8_tells 303 = .ok (.iload_n 3, 1) := by decide +kernel
theorem dX8_tells_304 : decode cX8_tells 304 = .ok (.iload 5, 2) := by decide +kernel
theorem dX8_tells_306 : decode cX8_tells 306 = .ok (.invokevirtual 94, 3) := by decide +kernel
theorem dX8_tells_309 : decode cX8_tells 309 = .ok (.iload_n 2, 1) := by decide +kernel
theorem dX8_tells_310 : decode cX8_tells 310 = .ok (.bipush 30, 2) := by decide +kernel
theorem dX8_tells_312 : decode cX8_tells 312 = .ok (.if_icmp .ge 8, 3) := by decide +kernel
theorem dX8_tells_315 : decode cX8_tells 315 = .ok (.iload 7, 2) := by decide +kernel
theorem dX8_tells_317 : decode cX8_tells 317 = .ok (.goto 16, 3) := by decide +kernel
theorem dX8_tells_320 : decode cX8_tells 320 = .ok (.iload_n 2, 1) := by decide +kernel
theorem dX8_tells_321 : decode cX8_tells 321 = .ok (.bipush 40, 2) := by decide +kernel
theorem dX8_tells_323 : decode cX8_tells 323 = .ok (.if_icmp .ge 8, 3) := by decide +kernel
theorem dX8_tells_326 : decode cX8_tells 326 = .ok (.iload 8, 2) := by decide +kernel
theorem dX8_tells_328 : decode cX8_tells 328 = .ok (.goto 5, 3) := by decide +kernel
theorem dX8_tells_331 : decode cX8_tells 331 = .ok (.iload 9, 2) := by decide +kernel
theorem dX8_tells_333 : decode cX8_tells 333 = .ok (.ireturn, 1) := by decide +kernel
theorem dX8_film_0 : decode cX8_film 0 = .ok (.iload_n 1, 1) := by decide +kernel
theorem dX8_film_1 : decode cX8_film 1 = .ok (.invokestatic 270, 3) := by decide +kernel
theorem dX8_film_4 : decode cX8_film 4 = .ok (.ifCond .ne 6, 3) := by decide +kernel
theorem dX8_film_7 : decode cX8_film 7 = .ok (.bipush (-2), 2) := by decide +kernel
theorem dX8_film_9 : decode cX8_film 9 = .ok (.ireturn, 1) := by decide +kernel
theorem dX8_film_10 : decode cX8_film 10 = .ok (.aload_n 0, 1) := by decide +kernel
theorem dX8_film_11 : decode cX8_film 11 = .ok (.iconst (-1), 1) := by decide +kernel
theorem dX8_film_12 : decode cX8_film 12 = .ok (.invokevirtual 264, 3) := by decide +kernel
theorem dX8_film_15 : decode cX8_film 15 = .ok (.pop, 1) := by decide +kernel
theorem dX8_film_16 : decode cX8_film 16 = .ok (.aload_n 0, 1) := by decide +kernel
theorem dX8_film_17 : decode cX8_film 17 = .ok (.iload_n 1, 1) := by decide +kernel
theorem dX8_film_18 : decode cX8_film 18 = .ok (.iconst 0, 1) := by decide +kernel
theorem dX8_film_19 : decode cX8_film 19 = .ok (.aload_n 0, 1) := by decide +kernel
theorem dX8_film_20 : decode cX8_film 20 = .ok (.getfield 73, 3) := by decide +kernel
theorem dX8_film_23 : decode cX8_film 23 = .ok (.invokevirtual 311, 3) := by decide +kernel
theorem dX8_film_26 : decode cX8_film 26 = .ok (.pop, 1) := by decide +kernel
theorem dX8_film_27 : decode cX8_film 27 = .ok (.iconst 0, 1) := by decide +kernel
theorem dX8_film_28 : decode cX8_film 28 = .ok (.istore_n 2, 1) := by decide +kernel
theorem dX8_film_29 : decode cX8_film 29 = .ok (.iload_n 2, 1) := by decide +kernel
theorem dX8_film_30 : decode cX8_film 30 = .ok (.aload_n 0, 1) := by decide +kernel
theorem dX8_film_31 : decode cX8_film 31 = .ok (.getfield 73, 3) := by decide +kernel
theorem dX8_film_34 : decode cX8_film 34 = .ok (.if_icmp .ge 26, 3) := by decide +kernel
theorem dX8_film_37 : decode cX8_film 37 = .ok (.aload_n 0, 1) := by decide +kernel
theorem dX8_film_38 : decode cX8_film 38 = .ok (.getfield 63, 3) := by decide +kernel
theorem dX8_film_41 : decode cX8_film 41 = .ok (.bipush 40, 2) := by decide +kernel
theorem dX8_film_43 : decode cX8_film 43 = .ok (.iload_n 1, 1) := by decide +kernel
theorem dX8_film_44 : decode cX8_film 44 = .ok (.imul, 1) := by decide +kernel
theorem dX8_film_45 : decode cX8_film 45 = .ok (.iload_n 2, 1) := by decide +kernel
theorem dX8_film_46 : decode cX8_film 46 = .ok (.iadd, 1) := by decide +kernel
theorem dX8_film_47 : decode cX8_film 47 = .ok (.aload_n 0, 1) := by decide +kernel
theorem dX8_film_48 : decode cX8_film 48 = .ok (.getfield 35, 3) := by decide +kernel
theorem dX8_film_51 : decode cX8_film 51 = .ok (.iload_n 2, 1) := by decide +kernel
theorem dX8_film_52 : decode cX8_film 52 = .ok (.iaload, 1) := by decide +kernel
theorem dX8_film_53 : decode cX8_film 53 = .ok (.iastore, 1) := by decide +kernel
theorem dX8_film_54 : decode cX8_film 54 = .ok (.iinc 2 1, 3) := by decide +kernel
theorem dX8_film_57 : decode cX8_film 57 = .ok (.goto (-28), 3) := by decide +kernel
theorem dX8_film_60 : decode cX8_film 60 = .ok (.aload_n 0, 1) := by decide +kernel
theorem dX8_film_61 : decode cX8_film 61 = .ok (.getfield 73, 3) := by decide +kernel
theorem dX8_film_64 : decode cX8_film 64 = .ok (.ireturn, 1) := by decide +kernel
theorem dX8_draws_0 : decode cX8_draws 0 = .ok (.iload_n 1, 1) := by decide +kernel
theorem dX8_draws_1 : decode cX8_draws 1 = .ok (.istore_n 2, 1) := by decide +kernel
theorem dX8_draws_2 : decode cX8_draws 2 = .ok (.iconst 0, 1) := by decide +kernel
theorem dX8_draws_3 : decode cX8_draws 3 = .ok (.istore_n 3, 1) := by decide +kernel
theorem dX8_draws_4 : decode cX8_draws 4 = .ok (.iload_n 3, 1) := by decide +kernel
theorem dX8_draws_5 : decode cX8_draws 5 = .ok (.aload_n 0, 1) := by decide +kernel
theorem dX8_draws_6 : decode cX8_draws 6 = .ok (.getfield 73, 3) := by decide +kernel
theorem dX8_draws_9 : decode cX8_draws 9 = .ok (.if_icmp .ge 52, 3) := by decide +kernel
theorem dX8_draws_12 : decode cX8_draws 12 = .ok (.aload_n 0, 1) := by decide +kernel
theorem dX8_draws_13 : decode cX8_draws 13 = .ok (.getfield 44, 3) := by decide +kernel
theorem dX8_draws_16 : decode cX8_draws 16 = .ok (.iload_n 3, 1) := by decide +kernel
theorem dX8_draws_17 : decode cX8_draws 17 = .ok (.aload_n 0, 1) := by decide +kernel
theorem dX8_draws_18 : decode cX8_draws 18 = .ok (.getfield 32, 3) := by decide +kernel
theorem dX8_draws_21 : decode cX8_draws 21 = .ok (.iconst 3, 1) := by decide +kernel
theorem dX8_draws_22 : decode cX8_draws 22 = .ok (.iload_n 3, 1) := by decide +kernel
theorem dX8_draws_23 : decode cX8_draws 23 = .ok (.imul, 1) := by decide +kernel
theorem dX8_draws_24 : decode cX8_draws 24 = .ok (.iconst 1, 1) := by decide +kernel
theorem dX8_draws_25 : decode cX8_draws 25 = .ok (.iadd, 1) := by decide +kernel
theorem dX8_draws_26 : decode cX8_draws 26 = .ok (.iaload, 1) := by decide +kernel
theorem dX8_draws_27 : decode cX8_draws 27 = .ok (.iastore, 1) := by decide +kernel
theorem dX8_draws_28 : decode cX8_draws 28 = .ok (.iload_n 2, 1) := by decide +kernel
theorem dX8_draws_29 : decode cX8_draws 29 = .ok (.ldc_w 314, 3) := by decide +kernel
theorem dX8_draws_32 : decode cX8_draws 32 = .ok (.imul, 1) := by decide +kernel
theorem dX8_draws_33 : decode cX8_draws 33 = .ok (.sipush 12345, 3) := by decide +kernel
theorem dX8_draws_36 : decode cX8_draws 36 = .ok (.iadd, 1) := by decide +kernel
theorem dX8_draws_37 : decode cX8_draws 37 = .ok (.istore_n 2, 1) := by decide +kernel
theorem dX8_draws_38 : decode cX8_draws 38 = .ok (.aload_n 0, 1) := by decide +kernel
theorem dX8_draws_39 : decode cX8_draws 39 = .ok (.getfield 32, 3) := by decide +kernel
theorem dX8_draws_42 : decode cX8_draws 42 = .ok (.iconst 3, 1) := by decide +kernel
theorem dX8_draws_43 : decode cX8_draws 43 = .ok (.iload_n 3, 1) := by decide +kernel
theorem dX8_draws_44 : decode cX8_draws 44 = .ok (.imul, 1) := by decide +kernel
theorem dX8_draws_45 : decode cX8_draws 45 = .ok (.iconst 1, 1) := by decide +kernel
theorem dX8_draws_46 : decode cX8_draws 46 = .ok (.iadd, 1) := by decide +kernel
theorem dX8_draws_47 : decode cX8_draws 47 = .ok (.iload_n 2, 1) := by decide +kernel
theorem dX8_draws_48 : decode cX8_draws 48 = .ok (.bipush 9, 2) := by decide +kernel
theorem dX8_draws_50 : decode cX8_draws 50 = .ok (.iushr, 1) := by decide +kernel
theorem dX8_draws_51 : decode cX8_draws 51 = .ok (.bipush 100, 2) := by decide +kernel
theorem dX8_draws_53 : decode cX8_draws 53 = .ok (.irem, 1) := by decide +kernel
theorem dX8_draws_54 : decode cX8_draws 54 = .ok (.iastore, 1) := by decide +kernel
theorem dX8_draws_55 : decode cX8_draws 55 = .ok (.iinc 3 1, 3) := by decide +kernel
theorem dX8_draws_58 : decode cX8_draws 58 = .ok (.goto (-54), 3) := by decide +kernel
theorem dX8_draws_61 : decode cX8_draws 61 = .ok (.return_, 1) := by decide +kernel
theorem dX8_laysBack_0 : decode cX8_laysBack 0 = .ok (.iconst 0, 1) := by decide +kernel
theorem dX8_laysBack_1 : decode cX8_laysBack 1 = .ok (.istore_n 1, 1) := by decide +kernel
theorem dX8_laysBack_2 : decode cX8_laysBack 2 = .ok (.iload_n 1, 1) := by decide +kernel
theorem dX8_laysBack_3 : decode cX8_laysBack 3 = .ok (.aload_n 0, 1) := by decide +kernel
theorem dX8_laysBack_4 : decode cX8_laysBack 4 = .ok (.getfield 73, 3) := by decide +kernel
theorem dX8_laysBack_7 : decode cX8_laysBack 7 = .ok (.if_icmp .ge 25, 3) := by decide +kernel
theorem dX8_laysBack_10 : decode cX8_laysBack 10 = .ok (.aload_n 0, 1) := by decide +kernel
theorem dX8_laysBack_11 : decode cX8_laysBack 11 = .ok (.getfield 32, 3) := by decide +kernel
theorem dX8_laysBack_14 : decode cX8_laysBack 14 = .ok (.iconst 3, 1) := by decide +kernel
theorem dX8_laysBack_15 : decode cX8_laysBack 15 = .ok (.iload_n 1, 1) := by decide +kernel
theorem dX8_laysBack_16 : decode cX8_laysBack 16 = .ok (.imul, 1) := by decide +kernel
theorem dX8_laysBack_17 : decode cX8_laysBack 17 = .ok (.iconst 1, 1) := by decide +kernel
theorem dX8_laysBack_18 : decode cX8_laysBack 18 = .ok (.iadd, 1) := by decide +kernel
theorem dX8_laysBack_19 : decode cX8_laysBack 19 = .ok (.aload_n 0, 1) := by decide +kernel
theorem dX8_laysBack_20 : decode cX8_laysBack 20 = .ok (.getfield 44, 3) := by decide +kernel
theorem dX8_laysBack_23 : decode cX8_laysBack 23 = .ok (.iload_n 1, 1) := by decide +kernel
theorem dX8_laysBack_24 : decode cX8_laysBack 24 = .ok (.iaload, 1) := by decide +kernel
theorem dX8_laysBack_25 : decode cX8_laysBack 25 = .ok (.iastore, 1) := by decide +kernel
theorem dX8_laysBack_26 : decode cX8_laysBack 26 = .ok (.iinc 1 1, 3) := by decide +kernel
theorem dX8_laysBack_29 : decode cX8_laysBack 29 = .ok (.goto (-27), 3) := by decide +kernel
theorem dX8_laysBack_32 : decode cX8_laysBack 32 = .ok (.return_, 1) := by decide +kernel
theorem dX8_drawn_0 : decode cX8_drawn 0 = .ok (.aload_n 0, 1) := by decide +kernel
theorem dX8_drawn_1 : decode cX8_drawn 1 = .ok (.iload_n 1, 1) := by decide +kernel
theorem dX8_drawn_2 : decode cX8_drawn 2 = .ok (.invokevirtual 315, 3) := by decide +kernel
theorem dX8_drawn_5 : decode cX8_drawn 5 = .ok (.aload_n 0, 1) := by decide +kernel
theorem dX8_drawn_6 : decode cX8_drawn 6 = .ok (.iconst (-1), 1) := by decide +kernel
theorem dX8_drawn_7 : decode cX8_drawn 7 = .ok (.invokevirtual 264, 3) := by decide +kernel
theorem dX8_drawn_10 : decode cX8_drawn 10 = .ok (.istore_n 2, 1) := by decide +kernel
theorem dX8_drawn_11 : decode cX8_drawn 11 = .ok (.aload_n 0, 1) := by decide +kernel
theorem dX8_drawn_12 : decode cX8_drawn 12 = .ok (.invokevirtual 318, 3) := by decide +kernel
theorem dX8_drawn_15 : decode cX8_drawn 15 = .ok (.iload_n 2, 1) := by decide +kernel
theorem dX8_drawn_16 : decode cX8_drawn 16 = .ok (.ireturn, 1) := by decide +kernel
theorem dX8_chance_0 : decode cX8_chance 0 = .ok (.iload_n 2, 1) := by decide +kernel
theorem dX8_chance_1 : decode cX8_chance 1 = .ok (.i2l, 1) := by decide +kernel
theorem dX8_chance_2 : decode cX8_chance 2 = .ok (.lconst 1, 1) := by decide +kernel
theorem dX8_chance_3 : decode cX8_chance 3 = .ok (.ldc2_w 321, 3) := by decide +kernel
theorem dX8_chance_6 : decode cX8_chance 6 = .ok (.invokestatic 76, 3) := by decide +kernel
theorem dX8_chance_9 : decode cX8_chance 9 = .ok (.ifCond .eq 13, 3) := by decide +kernel
theorem dX8_chance_12 : decode cX8_chance 12 = .ok (.iload_n 3, 1) := by decide +kernel
theorem dX8_chance_13 : decode cX8_chance 13 = .ok (.i2l, 1) := by decide +kernel
theorem dX8_chance_14 : decode cX8_chance 14 = .ok (.lconst 0, 1) := by decide +kernel
theorem dX8_chance_15 : decode cX8_chance 15 = .ok (.lconst 1, 1) := by decide +kernel
theorem dX8_chance_16 : decode cX8_chance 16 = .ok (.invokestatic 76, 3) := by decide +kernel
theorem dX8_chance_19 : decode cX8_chance 19 = .ok (.ifCond .ne 7, 3) := by decide +kernel
theorem dX8_chance_22 : decode cX8_chance 22 = .ok (.ldc2_w 323, 3) := by decide +kernel
theorem dX8_chance_25 : decode cX8_chance 25 = .ok (.lreturn, 1) := by decide +kernel
theorem dX8_chance_26 : decode cX8_chance 26 = .ok (.lconst 0, 1) := by decide +kernel
theorem dX8_chance_27 : decode cX8_chance 27 = .ok (.lstore 4, 2) := by decide +kernel
theorem dX8_chance_29 : decode cX8_chance 29 = .ok (.iconst 0, 1) := by decide +kernel
theorem dX8_chance_30 : decode cX8_chance 30 = .ok (.istore 6, 2) := by decide +kernel
theorem dX8_chance_32 : decode cX8_chance 32 = .ok (.iload 6, 2) := by decide +kernel
theorem dX8_chance_34 : decode cX8_chance 34 = .ok (.iload_n 2, 1) := by decide +kernel
theorem dX8_chance_35 : decode cX8_chance 35 = .ok (.if_icmp .ge 43, 3) := by decide +kernel
theorem dX8_chance_38 : decode cX8_chance 38 = .ok (.aload_n 0, 1) := by decide +kernel
theorem dX8_chance_39 : decode cX8_chance 39 = .ok (.iload_n 1, 1) := by decide +kernel
theorem dX8_chance_40 : decode cX8_chance 40 = .ok (.iload 6, 2) := by decide +kernel
theorem dX8_chance_42 : decode cX8_chance 42 = .ok (.iadd, 1) := by decide +kernel
theorem dX8_chance_43 : decode cX8_chance 43 = .ok (.invokevirtual 315, 3) := by decide +kernel
theorem dX8_chance_46 : decode cX8_chance 46 = .ok (.lload 4, 2) := by decide +kernel
theorem dX8_chance_48 : decode cX8_chance 48 = .ok (.aload_n 0, 1) := by decide +kernel
theorem dX8_chance_49 : decode cX8_chance 49 = .ok (.invokevirtual 291, 3) := by decide +kernel
theorem dX8_chance_52 : decode cX8_chance 52 = .ok (.aload_n 0, 1) := by decide +kernel
theorem dX8_chance_53 : decode cX8_chance 53 = .ok (.iconst (-1), 1) := by decide +kernel
theorem dX8_chance_54 : decode cX8_chance 54 = .ok (.invokevirtual 264, 3) := by decide +kernel
theorem dX8_chance_57 : decode cX8_chance 57 = .ok (.if_icmp .gt 7, 3) := by decide +kernel
theorem dX8_chance_60 : decode cX8_chance 60 = .ok (.lconst 1, 1) := by decide +kernel
theorem dX8_chance_61 : decode cX8_chance 61 = .ok (.goto 4, 3) := by decide +kernel
theorem dX8_chance_64 : decode cX8_chance 64 = .ok (.lconst 0, 1) := by decide +kernel
theorem dX8_chance_65 : decode cX8_chance 65 = .ok (.ladd, 1) := by decide +kernel
theorem dX8_chance_66 : decode cX8_chance 66 = .ok (.lstore 4, 2) := by decide +kernel
theorem dX8_chance_68 : decode cX8_chance 68 = .ok (.aload_n 0, 1) := by decide +kernel
theorem dX8_chance_69 : decode cX8_chance 69 = .ok (.invokevirtual 318, 3) := by decide +kernel
theorem dX8_chance_72 : decode cX8_chance 72 = .ok (.iinc 6 1, 3) := by decide +kernel
theorem dX8_chance_75 : decode cX8_chance 75 = .ok (.goto (-43), 3) := by decide +kernel
theorem dX8_chance_78 : decode cX8_chance 78 = .ok (.lload 4, 2) := by decide +kernel
theorem dX8_chance_80 : decode cX8_chance 80 = .ok (.lstore 6, 2) := by decide +kernel
theorem dX8_chance_82 : decode cX8_chance 82 = .ok (.iload_n 2, 1) := by decide +kernel
theorem dX8_chance_83 : decode cX8_chance 83 = .ok (.i2l, 1) := by decide +kernel
theorem dX8_chance_84 : decode cX8_chance 84 = .ok (.lstore 8, 2) := by decide +kernel
theorem dX8_chance_86 : decode cX8_chance 86 = .ok (.lload 8, 2) := by decide +kernel
theorem dX8_chance_88 : decode cX8_chance 88 = .ok (.lconst 0, 1) := by decide +kernel
theorem dX8_chance_89 : decode cX8_chance 89 = .ok (.lcmp, 1) := by decide +kernel
theorem dX8_chance_90 : decode cX8_chance 90 = .ok (.ifCond .eq 21, 3) := by decide +kernel
theorem dX8_chance_93 : decode cX8_chance 93 = .ok (.lload 6, 2) := by decide +kernel
theorem dX8_chance_95 : decode cX8_chance 95 = .ok (.lload 8, 2) := by decide +kernel
theorem dX8_chance_97 : decode cX8_chance 97 = .ok (.lrem, 1) := by decide +kernel
theorem dX8_chance_98 : decode cX8_chance 98 = .ok (.lstore 10, 2) := by decide +kernel
theorem dX8_chance_100 : decode cX8_chance 100 = .ok (.lload 8, 2) := by decide +kernel
theorem dX8_chance_102 : decode cX8_chance 102 = .ok (.lstore 6, 2) := by decide +kernel
theorem dX8_chance_104 : decode cX8_chance 104 = .ok (.lload 10, 2) := by decide +kernel
theorem dX8_chance_106 : decode cX8_chance 106 = .ok (.lstore 8, 2) := by decide +kernel
theorem dX8_chance_108 : decode cX8_chance 108 = .ok (.goto (-22), 3) := by decide +kernel
theorem dX8_chance_111 : decode cX8_chance 111 = .ok (.iload_n 3, 1) := by decide +kernel
theorem dX8_chance_112 : decode cX8_chance 112 = .ok (.ifCond .ne 11, 3) := by decide +kernel
theorem dX8_chance_115 : decode cX8_chance 115 = .ok (.lload 4, 2) := by decide +kernel
theorem dX8_chance_117 : decode cX8_chance 117 = .ok (.lload 6, 2) := by decide +kernel
theorem dX8_chance_119 : decode cX8_chance 119 = .ok (.ldiv, 1) := by decide +kernel
theorem dX8_chance_120 : decode cX8_chance 120 = .ok (.goto 8, 3) := by decide +kernel
theorem dX8_chance_123 : decode cX8_chance 123 = .ok (.iload_n 2, 1) := by decide +kernel
theorem dX8_chance_124 : decode cX8_chance 124 = .ok (.i2l, 1) := by decide +kernel
theorem dX8_chance_125 : decode cX8_chance 125 = .ok (.lload 6, 2) := by decide +kernel
theorem dX8_chance_127 : decode cX8_chance 127 = .ok (.ldiv, 1) := by decide +kernel
theorem dX8_chance_128 : decode cX8_chance 128 = .ok (.lreturn, 1) := by decide +kernel
theorem dX8_image_0 : decode cX8_image 0 = .ok (.iconst 0, 1) := by decide +kernel
theorem dX8_image_1 : decode cX8_image 1 = .ok (.istore_n 1, 1) := by decide +kernel
theorem dX8_image_2 : decode cX8_image 2 = .ok (.iload_n 1, 1) := by decide +kernel
theorem dX8_image_3 : decode cX8_image 3 = .ok (.bipush 21, 2) := by decide +kernel
theorem dX8_image_5 : decode cX8_image 5 = .ok (.if_icmp .ge 21, 3) := by decide +kernel
theorem dX8_image_8 : decode cX8_image 8 = .ok (.aload_n 0, 1) := by decide +kernel
theorem dX8_image_9 : decode cX8_image 9 = .ok (.getfield 47, 3) := by decide +kernel
theorem dX8_image_12 : decode cX8_image 12 = .ok (.iload_n 1, 1) := by decide +kernel
theorem dX8_image_13 : decode cX8_image 13 = .ok (.aload_n 0, 1) := by decide +kernel
theorem dX8_image_14 : decode cX8_image 14 = .ok (.getfield 32, 3) := by decide +kernel
theorem dX8_image_17 : decode cX8_image 17 = .ok (.iload_n 1, 1) := by decide +kernel
theorem dX8_image_18 : decode cX8_image 18 = .ok (.iaload, 1) := by decide +kernel
theorem dX8_image_19 : decode cX8_image 19 = .ok (.iastore, 1) := by decide +kernel
theorem dX8_image_20 : decode cX8_image 20 = .ok (.iinc 1 1, 3) := by decide +kernel
theorem dX8_image_23 : decode cX8_image 23 = .ok (.goto (-21), 3) := by decide +kernel
theorem dX8_image_26 : decode cX8_image 26 = .ok (.aload_n 0, 1) := by decide +kernel
theorem dX8_image_27 : decode cX8_image 27 = .ok (.aload_n 0, 1) := by decide +kernel
theorem dX8_image_28 : decode cX8_image 28 = .ok (.getfield 73, 3) := by decide +kernel
theorem dX8_image_31 : decode cX8_image 31 = .ok (.putfield 50, 3) := by decide +kernel
theorem dX8_image_34 : decode cX8_image 34 = .ok (.aload_n 0, 1) := by decide +kernel
theorem dX8_image_35 : decode cX8_image 35 = .ok (.aload_n 0, 1) := by decide +kernel
theorem dX8_image_36 : decode cX8_image 36 = .ok (.getfield 23, 3) := by decide +kernel
theorem dX8_image_39 : decode cX8_image 39 = .ok (.putfield 325, 3) := by decide +kernel
theorem dX8_image_42 : decode cX8_image 42 = .ok (.aload_n 0, 1) := by decide +kernel
theorem dX8_image_43 : decode cX8_image 43 = .ok (.aload_n 0, 1) := by decide +kernel
theorem dX8_image_44 : decode cX8_image 44 = .ok (.getfield 26, 3) := by decide +kernel
theorem dX8_image_47 : decode cX8_image 47 = .ok (.putfield 328, 3) := by decide +kernel
theorem dX8_image_50 : decode cX8_image 50 = .ok (.aload_n 0, 1) := by decide +kernel
theorem dX8_image_51 : decode cX8_image 51 = .ok (.aload_n 0, 1) := by decide +kernel
theorem dX8_image_52 : decode cX8_image 52 = .ok (.getfield 98, 3) := by decide +kernel
theorem dX8_image_55 : decode cX8_image 55 = .ok (.putfield 331, 3) := by decide +kernel
theorem dX8_image_58 : decode cX8_image 58 = .ok (.aload_n 0, 1) := by decide +kernel
theorem dX8_image_59 : decode cX8_image 59 = .ok (.getfield 73, 3) := by decide +kernel
theorem dX8_image_62 : decode cX8_image 62 = .ok (.ireturn, 1) := by decide +kernel
theorem dX8_back_0 : decode cX8_back 0 = .ok (.aload_n 0, 1) := by decide +kernel
theorem dX8_back_1 : decode cX8_back 1 = .ok (.getfield 50, 3) := by decide +kernel
theorem dX8_back_4 : decode cX8_back 4 = .ok (.iconst (-1), 1) := by decide +kernel
theorem dX8_back_5 : decode cX8_back 5 = .ok (.if_icmp .ne 6, 3) := by decide +kernel
theorem dX8_back_8 : decode cX8_back 8 = .ok (.bipush (-3), 2) := by decide +kernel
theorem dX8_back_10 : decode cX8_back 10 = .ok (.ireturn, 1) := by decide +kernel
theorem dX8_back_11 : decode cX8_back 11 = .ok (.iconst 0, 1) := by decide +kernel
theorem dX8_back_12 : decode cX8_back 12 = .ok (.istore_n 1, 1) := by decide +kernel
theorem dX8_back_13 : decode cX8_back 13 = .ok (.iload_n 1, 1) := by decide +kernel
theorem dX8_back_14 : decode cX8_back 14 = .ok (.bipush 21, 2) := by decide +kernel
theorem dX8_back_16 : decode cX8_back 16 = .ok (.if_icmp .ge 21, 3) := by decide +kernel
theorem dX8_back_19 : decode cX8_back 19 = .ok (.aload_n 0, 1) := by decide +kernel
theorem dX8_back_20 : decode cX8_back 20 = .ok (.getfield 32, 3) := by decide +kernel
theorem dX8_back_23 : decode cX8_back 23 = .ok (.iload_n 1, 1) := by decide +kernel
theorem dX8_back_24 : decode cX8_back 24 = .ok (.aload_n 0, 1) := by decide +kernel
theorem dX8_back_25 : decode cX8_back 25 = .ok (.getfield 47, 3) := by decide +kernel
theorem dX8_back_28 : decode cX8_back 28 = .ok (.iload_n 1, 1) := by decide +kernel
theorem dX8_back_29 : decode cX8_back 29 = .ok (.iaload, 1) := by decide +kernel
theorem dX8_back_30 : decode cX8_back 30 = .ok (.iastore, 1) := by decide +kernel
theorem dX8_back_31 : decode cX8_back 31 = .ok (.iinc 1 1, 3) := by decide +kernel
theorem dX8_back_34 : decode cX8_back 34 = .ok (.goto (-21), 3) := by decide +kernel
theorem dX8_back_37 : decode cX8_back 37 = .ok (.aload_n 0, 1) := by decide +kernel
theorem dX8_back_38 : decode cX8_back 38 = .ok (.aload_n 0, 1) := by decide +kernel
theorem dX8_back_39 : decode cX8_back 39 = .ok (.getfield 50, 3) := by decide +kernel
theorem dX8_back_42 : decode cX8_back 42 = .ok (.putfield 73, 3) := by decide +kernel
theorem dX8_back_45 : decode cX8_back 45 = .ok (.aload_n 0, 1) := by decide +kernel
theorem dX8_back_46 : decode cX8_back 46 = .ok (.aload_n 0, 1) := by decide +kernel
theorem dX8_back_47 : decode cX8_back 47 = .ok (.getfield 325, 3) := by decide +kernel
theorem dX8_back_50 : decode cX8_back 50 = .ok (.putfield 23, 3) := by decide +kernel
theorem dX8_back_53 : decode cX8_back 53 = .ok (.aload_n 0, 1) := by decide +kernel
theorem dX8_back_54 : decode cX8_back 54 = .ok (.aload_n 0, 1) := by decide +kernel
theorem dX8_back_55 : decode cX8_back 55 = .ok (.getfield 328, 3) := by decide +kernel
theorem dX8_back_58 : decode cX8_back 58 = .ok (.putfield 26, 3) := by decide +kernel
theorem dX8_back_61 : decode cX8_back 61 = .ok (.aload_n 0, 1) := by decide +kernel
theorem dX8_back_62 : decode cX8_back 62 = .ok (.aload_n 0, 1) := by decide +kernel
theorem dX8_back_63 : decode cX8_back 63 = .ok (.getfield 331, 3) := by decide +kernel
theorem dX8_back_66 : decode cX8_back 66 = .ok (.putfield 98, 3) := by decide +kernel
theorem dX8_back_69 : decode cX8_back 69 = .ok (.aload_n 0, 1) := by decide +kernel
theorem dX8_back_70 : decode cX8_back 70 = .ok (.getfield 73, 3) := by decide +kernel
theorem dX8_back_73 : decode cX8_back 73 = .ok (.ireturn, 1) := by decide +kernel
theorem dX8_count_0 : decode cX8_count 0 = .ok (.iload_n 1, 1) := by decide +kernel
theorem dX8_count_1 : decode cX8_count 1 = .ok (.i2l, 1) := by decide +kernel
theorem dX8_count_2 : decode cX8_count 2 = .ok (.lconst 0, 1) := by decide +kernel
theorem dX8_count_3 : decode cX8_count 3 = .ok (.ldc2_w 80, 3) := by decide +kernel
theorem dX8_count_6 : decode cX8_count 6 = .ok (.invokestatic 76, 3) := by decide +kernel
theorem dX8_count_9 : decode cX8_count 9 = .ok (.ifCond .ne 6, 3) := by decide +kernel
theorem dX8_count_12 : decode cX8_count 12 = .ok (.bipush (-2), 2) := by decide +kernel
theorem dX8_count_14 : decode cX8_count 14 = .ok (.ireturn, 1) := by decide +kernel
theorem dX8_count_15 : decode cX8_count 15 = .ok (.iload_n 1, 1) := by decide +kernel
theorem dX8_count_16 : decode cX8_count 16 = .ok (.iconst 4, 1) := by decide +kernel
theorem dX8_count_17 : decode cX8_count 17 = .ok (.if_icmp .ge 43, 3) := by decide +kernel
theorem dX8_count_20 : decode cX8_count 20 = .ok (.iload_n 1, 1) := by decide +kernel
theorem dX8_count_21 : decode cX8_count 21 = .ok (.ifCond .ne 10, 3) := by decide +kernel
theorem dX8_count_24 : decode cX8_count 24 = .ok (.aload_n 0, 1) := by decide +kernel
theorem dX8_count_25 : decode cX8_count 25 = .ok (.getfield 73, 3) := by decide +kernel
theorem dX8_count_28 : decode cX8_count 28 = .ok (.goto 31, 3) := by decide +kernel
theorem dX8_count_31 : decode cX8_count 31 = .ok (.iload_n 1, 1) := by decide +kernel
theorem dX8_count_32 : decode cX8_count 32 = .ok (.iconst 1, 1) := by decide +kernel
theorem dX8_count_33 : decode cX8_count 33 = .ok (.if_icmp .ne 10, 3) := by decide +kernel
theorem dX8_count_36 : decode cX8_count 36 = .ok (.aload_n 0, 1) := by decide +kernel
theorem dX8_count_37 : decode cX8_count 37 = .ok (.getfield 70, 3) := by decide +kernel
theorem dX8_count_40 : decode cX8_count 40 = .ok (.goto 19, 3) := by decide +kernel
theorem dX8_count_43 : decode cX8_count 43 = .ok (.iload_n 1, 1) := by decide +kernel
theorem dX8_count_44 : decode cX8_count 44 = .ok (.iconst 2, 1) := by decide +kernel
theorem dX8_count_45 : decode cX8_count 45 = .ok (.if_icmp .ne 10, 3) := by decide +kernel
theorem dX8_count_48 : decode cX8_count 48 = .ok (.aload_n 0, 1) := by decide +kernel
theorem dX8_count_49 : decode cX8_count 49 = .ok (.getfield 122, 3) := by decide +kernel
theorem dX8_count_52 : decode cX8_count 52 = .ok (.goto 7, 3) := by decide +kernel
theorem dX8_count_55 : decode cX8_count 55 = .ok (.aload_n 0, 1) := by decide +kernel
theorem dX8_count_56 : decode cX8_count 56 = .ok (.getfield 98, 3) := by decide +kernel
theorem dX8_count_59 : decode cX8_count 59 = .ok (.ireturn, 1) := by decide +kernel
theorem dX8_count_60 : decode cX8_count 60 = .ok (.aload_n 0, 1) := by decide +kernel
theorem dX8_count_61 : decode cX8_count 61 = .ok (.invokevirtual 108, 3) := by decide +kernel
theorem dX8_count_64 : decode cX8_count 64 = .ok (.aload_n 0, 1) := by decide +kernel
theorem dX8_count_65 : decode cX8_count 65 = .ok (.invokevirtual 256, 3) := by decide +kernel
theorem dX8_count_68 : decode cX8_count 68 = .ok (.ireturn, 1) := by decide +kernel
theorem dX8_isSheet_0 : decode cX8_isSheet 0 = .ok (.iload_n 0, 1) := by decide +kernel
theorem dX8_isSheet_1 : decode cX8_isSheet 1 = .ok (.i2l, 1) := by decide +kernel
theorem dX8_isSheet_2 : decode cX8_isSheet 2 = .ok (.lconst 0, 1) := by decide +kernel
theorem dX8_isSheet_3 : decode cX8_isSheet 3 = .ok (.ldc2_w 297, 3) := by decide +kernel
theorem dX8_isSheet_6 : decode cX8_isSheet 6 = .ok (.invokestatic 76, 3) := by decide +kernel
theorem dX8_isSheet_9 : decode cX8_isSheet 9 = .ok (.ireturn, 1) := by decide +kernel
theorem dX8_sheet_0 : decode cX8_sheet 0 = .ok (.iload_n 1, 1) := by decide +kernel
theorem dX8_sheet_1 : decode cX8_sheet 1 = .ok (.invokestatic 270, 3) := by decide +kernel
theorem dX8_sheet_4 : decode cX8_sheet 4 = .ok (.ifCond .eq 27, 3) := by decide +kernel
theorem dX8_sheet_7 : decode cX8_sheet 7 = .ok (.iload_n 2, 1) := by decide +kernel
theorem dX8_sheet_8 : decode cX8_sheet 8 = .ok (.i2l, 1) := by decide +kernel
theorem dX8_sheet_9 : decode cX8_sheet 9 = .ok (.ldc2_w 334, 3) := by decide +kernel
theorem dX8_sheet_12 : decode cX8_sheet 12 = .ok (.ldc2_w 304, 3) := by decide +kernel
theorem dX8_sheet_15 : decode cX8_sheet 15 = .ok (.invokestatic 76, 3) := by decide +kernel
theorem dX8_sheet_18 : decode cX8_sheet 18 = .ok (.ifCond .eq 13, 3) := by decide +kernel
theorem dX8_sheet_21 : decode cX8_sheet 21 = .ok (.iload_n 2, 1) := by decide +kernel
theorem dX8_sheet_22 : decode cX8_sheet 22 = .ok (.ifCond .lt 12, 3) := by decide +kernel
theorem dX8_sheet_25 : decode cX8_sheet 25 = .ok (.iload_n 3, 1) := by decide +kernel
theorem dX8_sheet_26 : decode cX8_sheet 26 = .ok (.bipush 40, 2) := by decide +kernel
theorem dX8_sheet_28 : decode cX8_sheet 28 = .ok (.if_icmp .le 6, 3) := by decide +kernel
theorem dX8_sheet_31 : decode cX8_sheet 31 = .ok (.bipush (-2), 2) := by decide +kernel
theorem dX8_sheet_33 : decode cX8_sheet 33 = .ok (.ireturn, 1) := by decide +kernel
theorem dX8_sheet_34 : decode cX8_sheet 34 = .ok (.iload_n 2, 1) := by decide +kernel
theorem dX8_sheet_35 : decode cX8_sheet 35 = .ok (.ifCond .lt 10, 3) := by decide +kernel
theorem dX8_sheet_38 : decode cX8_sheet 38 = .ok (.iload_n 3, 1) := by decide +kernel
theorem dX8_sheet_39 : decode cX8_sheet 39 = .ok (.ifCond .ge 6, 3) := by decide +kernel
theorem dX8_sheet_42 : decode cX8_sheet 42 = .ok (.bipush (-14), 2) := by decide +kernel
theorem dX8_sheet_44 : decode cX8_sheet 44 = .ok (.ireturn, 1) := by decide +kernel
theorem dX8_sheet_45 : decode cX8_sheet 45 = .ok (.aload_n 0, 1) := by decide +kernel
theorem dX8_sheet_46 : decode cX8_sheet 46 = .ok (.getfield 53, 3) := by decide +kernel
theorem dX8_sheet_49 : decode cX8_sheet 49 = .ok (.iload_n 1, 1) := by decide +kernel
theorem dX8_sheet_50 : decode cX8_sheet 50 = .ok (.iload_n 2, 1) := by decide +kernel
theorem dX8_sheet_51 : decode cX8_sheet 51 = .ok (.ifCond .lt 7, 3) := by decide +kernel
theorem dX8_sheet_54 : decode cX8_sheet 54 = .ok (.iconst 1, 1) := by decide +kernel
theorem dX8_sheet_55 : decode cX8_sheet 55 = .ok (.goto 4, 3) := by decide +kernel
theorem dX8_sheet_58 : decode cX8_sheet 58 = .ok (.iconst 0, 1) := by decide +kernel
theorem dX8_sheet_59 : decode cX8_sheet 59 = .ok (.bastore, 1) := by decide +kernel
theorem dX8_sheet_60 : decode cX8_sheet 60 = .ok (.aload_n 0, 1) := by decide +kernel
theorem dX8_sheet_61 : decode cX8_sheet 61 = .ok (.getfield 57, 3) := by decide +kernel
theorem dX8_sheet_64 : decode cX8_sheet 64 = .ok (.iload_n 1, 1) := by decide +kernel
theorem dX8_sheet_65 : decode cX8_sheet 65 = .ok (.iload_n 2, 1) := by decide +kernel
theorem dX8_sheet_66 : decode cX8_sheet 66 = .ok (.iastore, 1) := by decide +kernel
theorem dX8_sheet_67 : decode cX8_sheet 67 = .ok (.aload_n 0, 1) := by decide +kernel
theorem dX8_sheet_68 : decode cX8_sheet 68 = .ok (.getfield 60, 3) := by decide +kernel
theorem dX8_sheet_71 : decode cX8_sheet 71 = .ok (.iload_n 1, 1) := by decide +kernel
theorem dX8_sheet_72 : decode cX8_sheet 72 = .ok (.iload_n 3, 1) := by decide +kernel
theorem dX8_sheet_73 : decode cX8_sheet 73 = .ok (.iastore, 1) := by decide +kernel
theorem dX8_sheet_74 : decode cX8_sheet 74 = .ok (.iconst 0, 1) := by decide +kernel
theorem dX8_sheet_75 : decode cX8_sheet 75 = .ok (.istore 4, 2) := by decide +kernel
theorem dX8_sheet_77 : decode cX8_sheet 77 = .ok (.iload 4, 2) := by decide +kernel
theorem dX8_sheet_79 : decode cX8_sheet 79 = .ok (.iload_n 3, 1) := by decide +kernel
theorem dX8_sheet_80 : decode cX8_sheet 80 = .ok (.if_icmp .ge 26, 3) := by decide +kernel
theorem dX8_sheet_83 : decode cX8_sheet 83 = .ok (.iload_n 2, 1) := by decide +kernel
theorem dX8_sheet_84 : decode cX8_sheet 84 = .ok (.ifCond .lt 22, 3) := by decide +kernel
theorem dX8_sheet_87 : decode cX8_sheet 87 = .ok (.aload_n 0, 1) := by decide +kernel
theorem dX8_sheet_88 : decode cX8_sheet 88 = .ok (.getfield 63, 3) := by decide +kernel
theorem dX8_sheet_91 : decode cX8_sheet 91 = .ok (.bipush 40, 2) := by decide +kernel
theorem dX8_sheet_93 : decode cX8_sheet 93 = .ok (.iload_n 1, 1) := by decide +kernel
theorem dX8_sheet_94 : decode cX8_sheet 94 = .ok (.imul, 1) := by decide +kernel
theorem dX8_sheet_95 : decode cX8_sheet 95 = .ok (.iload 4, 2) := by decide +kernel
theorem dX8_sheet_97 : decode cX8_sheet 97 = .ok (.iadd, 1) := by decide +kernel
theorem dX8_sheet_98 : decode cX8_sheet 98 = .ok (.iconst 0, 1) := by decide +kernel
theorem dX8_sheet_99 : decode cX8_sheet 99 = .ok (.iastore, 1) := by decide +kernel
theorem dX8_sheet_100 : decode cX8_sheet 100 = .ok (.iinc 4 1, 3) := by decide +kernel
theorem dX8_sheet_103 : decode cX8_sheet 103 = .ok (.goto (-26), 3) := by decide +kernel
theorem dX8_sheet_106 : decode cX8_sheet 106 = .ok (.iconst 1, 1) := by decide +kernel
theorem dX8_sheet_107 : decode cX8_sheet 107 = .ok (.ireturn, 1) := by decide +kernel
theorem dX8_cell_0 : decode cX8_cell 0 = .ok (.iload_n 1, 1) := by decide +kernel
theorem dX8_cell_1 : decode cX8_cell 1 = .ok (.invokestatic 270, 3) := by decide +kernel
theorem dX8_cell_4 : decode cX8_cell 4 = .ok (.ifCond .ne 6, 3) := by decide +kernel
theorem dX8_cell_7 : decode cX8_cell 7 = .ok (.bipush (-2), 2) := by decide +kernel
theorem dX8_cell_9 : decode cX8_cell 9 = .ok (.ireturn, 1) := by decide +kernel
theorem dX8_cell_10 : decode cX8_cell 10 = .ok (.aload_n 0, 1) := by decide +kernel
theorem dX8_cell_11 : decode cX8_cell 11 = .ok (.getfield 53, 3) := by decide +kernel
theorem dX8_cell_14 : decode cX8_cell 14 = .ok (.iload_n 1, 1) := by decide +kernel
theorem dX8_cell_15 : decode cX8_cell 15 = .ok (.baload, 1) := by decide +kernel
theorem dX8_cell_16 : decode cX8_cell 16 = .ok (.ifCond .ne 6, 3) := by decide +kernel
theorem dX8_cell_19 : decode cX8_cell 19 = .ok (.bipush (-11), 2) := by decide +kernel
theorem dX8_cell_21 : decode cX8_cell 21 = .ok (.ireturn, 1) := by decide +kernel
theorem dX8_cell_22 : decode cX8_cell 22 = .ok (.iload_n 2, 1) := by decide +kernel
theorem dX8_cell_23 : decode cX8_cell 23 = .ok (.i2l, 1) := by decide +kernel
theorem dX8_cell_24 : decode cX8_cell 24 = .ok (.lconst 0, 1) := by decide +kernel
theorem dX8_cell_25 : decode cX8_cell 25 = .ok (.aload_n 0, 1) := by decide +kernel
theorem dX8_cell_26 : decode cX8_cell 26 = .ok (.getfield 60, 3) := by decide +kernel
theorem dX8_cell_29 : decode cX8_cell 29 = .ok (.iload_n 1, 1) := by decide +kernel
theorem dX8_cell_30 : decode cX8_cell 30 = .ok (.iaload, 1) := by decide +kernel
theorem dX8_cell_31 : decode cX8_cell 31 = .ok (.iconst 1, 1) := by decide +kernel
theorem dX8_cell_32 : decode cX8_cell 32 = .ok (.isub, 1) := by decide +kernel
theorem dX8_cell_33 : decode cX8_cell 33 = .ok (.i2l, 1) := by decide +kernel
theorem dX8_cell_34 : decode cX8_cell 34 = .ok (.invokestatic 76, 3) := by decide +kernel
theorem dX8_cell_37 : decode cX8_cell 37 = .ok (.ifCond .ne 6, 3) := by decide +kernel
theorem dX8_cell_40 : decode cX8_cell 40 = .ok (.bipush (-12), 2) := by decide +kernel
theorem dX8_cell_42 : decode cX8_cell 42 = .ok (.ireturn, 1) := by decide +kernel
theorem dX8_cell_43 : decode cX8_cell 43 = .ok (.aload_n 0, 1) := by decide +kernel
theorem dX8_cell_44 : decode cX8_cell 44 = .ok (.getfield 63, 3) := by decide +kernel
theorem dX8_cell_47 : decode cX8_cell 47 = .ok (.bipush 40, 2) := by decide +kernel
theorem dX8_cell_49 : decode cX8_cell 49 = .ok (.iload_n 1, 1) := by decide +kernel
theorem dX8_cell_50 : decode cX8_cell 50 = .ok (.imul, 1) := by decide +kernel
theorem dX8_cell_51 : decode cX8_cell 51 = .ok (.iload_n 2, 1) := by decide +kernel
theorem dX8_cell_52 : decode cX8_cell 52 = .ok (.iadd, 1) := by decide +kernel
theorem dX8_cell_53 : decode cX8_cell 53 = .ok (.aload_n 0, 1) := by decide +kernel
theorem dX8_cell_54 : decode cX8_cell 54 = .ok (.getfield 57, 3) := by decide +kernel
theorem dX8_cell_57 : decode cX8_cell 57 = .ok (.iload_n 1, 1) := by decide +kernel
theorem dX8_cell_58 : decode cX8_cell 58 = .ok (.iaload, 1) := by decide +kernel
theorem dX8_cell_59 : decode cX8_cell 59 = .ok (.ifCond .ne 8, 3) := by decide +kernel
theorem dX8_cell_62 : decode cX8_cell 62 = .ok (.iload_n 3, 1) := by decide +kernel
theorem dX8_cell_63 : decode cX8_cell 63 = .ok (.i2b, 1) := by decide +kernel
theorem dX8_cell_64 : decode cX8_cell 64 = .ok (.goto 19, 3) := by decide +kernel
theorem dX8_cell_67 : decode cX8_cell 67 = .ok (.aload_n 0, 1) := by decide +kernel
theorem dX8_cell_68 : decode cX8_cell 68 = .ok (.getfield 57, 3) := by decide +kernel
theorem dX8_cell_71 : decode cX8_cell 71 = .ok (.iload_n 1, 1) := by decide +kernel
theorem dX8_cell_72 : decode cX8_cell 72 = .ok (.iaload, 1) := by decide +kernel
theorem dX8_cell_73 : decode cX8_cell 73 = .ok (.iconst 1, 1) := by decide +kernel
theorem dX8_cell_74 : decode cX8_cell 74 = .ok (.if_icmp .ne 8, 3) := by decide +kernel
theorem dX8_cell_77 : decode cX8_cell 77 = .ok (.iload_n 3, 1) := by decide +kernel
theorem dX8_cell_78 : decode cX8_cell 78 = .ok (.i2s, 1) := by decide +kernel
theorem dX8_cell_79 : decode cX8_cell 79 = .ok (.goto 4, 3) := by decide +kernel
theorem dX8_cell_82 : decode cX8_cell 82 = .ok (.iload_n 3, 1) := by decide +kernel
theorem dX8_cell_83 : decode cX8_cell 83 = .ok (.iastore, 1) := by decide +kernel
theorem dX8_cell_84 : decode cX8_cell 84 = .ok (.iconst 1, 1) := by decide +kernel
theorem dX8_cell_85 : decode cX8_cell 85 = .ok (.ireturn, 1) := by decide +kernel
theorem dX8_copy_0 : decode cX8_copy 0 = .ok (.iload_n 1, 1) := by decide +kernel
theorem dX8_copy_1 : decode cX8_copy 1 = .ok (.invokestatic 270, 3) := by decide +kernel
theorem dX8_copy_4 : decode cX8_copy 4 = .ok (.ifCond .eq 10, 3) := by decide +kernel
theorem dX8_copy_7 : decode cX8_copy 7 = .ok (.iload_n 3, 1) := by decide +kernel
theorem dX8_copy_8 : decode cX8_copy 8 = .ok (.invokestatic 270, 3) := by decide +kernel
theorem dX8_copy_11 : decode cX8_copy 11 = .ok (.ifCond .ne 6, 3) := by decide +kernel
theorem dX8_copy_14 : decode cX8_copy 14 = .ok (.bipush (-2), 2) := by decide +kernel
theorem dX8_copy_16 : decode cX8_copy 16 = .ok (.ireturn, 1) := by decide +kernel
theorem dX8_copy_17 : decode cX8_copy 17 = .ok (.aload_n 0, 1) := by decide +kernel
theorem dX8_copy_18 : decode cX8_copy 18 = .ok (.getfield 53, 3) := by decide +kernel
theorem dX8_copy_21 : decode cX8_copy 21 = .ok (.iload_n 1, 1) := by decide +kernel
theorem dX8_copy_22 : decode cX8_copy 22 = .ok (.baload, 1) := by decide +kernel
theorem dX8_copy_23 : decode cX8_copy 23 = .ok (.ifCond .eq 12, 3) := by decide +kernel
theorem dX8_copy_26 : decode cX8_copy 26 = .ok (.aload_n 0, 1) := by decide +kernel
theorem dX8_copy_27 : decode cX8_copy 27 = .ok (.getfield 53, 3) := by decide +kernel
theorem dX8_copy_30 : decode cX8_copy 30 = .ok (.iload_n 3, 1) := by decide +kernel
theorem dX8_copy_31 : decode cX8_copy 31 = .ok (.baload, 1) := by decide +kernel
theorem dX8_copy_32 : decode cX8_copy 32 = .ok (.ifCond .ne 6, 3) := by decide +kernel
theorem dX8_copy_35 : decode cX8_copy 35 = .ok (.bipush (-11), 2) := by decide +kernel
theorem dX8_copy_37 : decode cX8_copy 37 = .ok (.ireturn, 1) := by decide +kernel
theorem dX8_copy_38 : decode cX8_copy 38 = .ok (.aload_n 0, 1) := by decide +kernel
theorem dX8_copy_39 : decode cX8_copy 39 = .ok (.getfield 57, 3) := by decide +kernel
theorem dX8_copy_42 : decode cX8_copy 42 = .ok (.iload_n 1, 1) := by decide +kernel
theorem dX8_copy_43 : decode cX8_copy 43 = .ok (.iaload, 1) := by decide +kernel
theorem dX8_copy_44 : decode cX8_copy 44 = .ok (.aload_n 0, 1) := by decide +kernel
theorem dX8_copy_45 : decode cX8_copy 45 = .ok (.getfield 57, 3) := by decide +kernel
theorem dX8_copy_48 : decode cX8_copy 48 = .ok (.iload_n 3, 1) := by decide +kernel
theorem dX8_copy_49 : decode cX8_copy 49 = .ok (.iaload, 1) := by decide +kernel
theorem dX8_copy_50 : decode cX8_copy 50 = .ok (.if_icmp .eq 6, 3) := by decide +kernel
theorem dX8_copy_53 : decode cX8_copy 53 = .ok (.bipush (-13), 2) := by decide +kernel
theorem dX8_copy_55 : decode cX8_copy 55 = .ok (.ireturn, 1) := by decide +kernel
theorem dX8_copy_56 : decode cX8_copy 56 = .ok (.iload 5, 2) := by decide +kernel
theorem dX8_copy_58 : decode cX8_copy 58 = .ok (.ifCond .lt 39, 3) := by decide +kernel
theorem dX8_copy_61 : decode cX8_copy 61 = .ok (.iload_n 2, 1) := by decide +kernel
theorem dX8_copy_62 : decode cX8_copy 62 = .ok (.ifCond .lt 35, 3) := by decide +kernel
theorem dX8_copy_65 : decode cX8_copy 65 = .ok (.iload 4, 2) := by decide +kernel
theorem dX8_copy_67 : decode cX8_copy 67 = .ok (.ifCond .lt 30, 3) := by decide +kernel
theorem dX8_copy_70 : decode cX8_copy 70 = .ok (.iload_n 2, 1) := by decide +kernel
theorem dX8_copy_71 : decode cX8_copy 71 = .ok (.aload_n 0, 1) := by decide +kernel
theorem dX8_copy_72 : decode cX8_copy 72 = .ok (.getfield 60, 3) := by decide +kernel
theorem dX8_copy_75 : decode cX8_copy 75 = .ok (.iload_n 1, 1) := by decide +kernel
theorem dX8_copy_76 : decode cX8_copy 76 = .ok (.iaload, 1) := by decide +kernel
theorem dX8_copy_77 : decode cX8_copy 77 = .ok (.iload 5, 2) := by decide +kernel
theorem dX8_copy_79 : decode cX8_copy 79 = .ok (.isub, 1) := by decide +kernel
theorem dX8_copy_80 : decode cX8_copy 80 = .ok (.if_icmp .gt 17, 3) := by decide +kernel
theorem dX8_copy_83 : decode cX8_copy 83 = .ok (.iload 4, 2) := by decide +kernel
theorem dX8_copy_85 : decode cX8_copy 85 = .ok (.aload_n 0, 1) := by decide +kernel
theorem dX8_copy_86 : decode cX8_copy 86 = .ok (.getfield 60, 3) := by decide +kernel
theorem dX8_copy_89 : decode cX8_copy 89 = .ok (.iload_n 3, 1) := by decide +kernel
theorem dX8_copy_90 : decode cX8_copy 90 = .ok (.iaload, 1) := by decide +kernel
theorem dX8_copy_91 : decode cX8_copy 91 = .ok (.iload 5, 2) := by decide +kernel
theorem dX8_copy_93 : decode cX8_copy 93 = .ok (.isub, 1) := by decide +kernel
theorem dX8_copy_94 : decode cX8_copy 94 = .ok (.if_icmp .le 6, 3) := by decide +kernel
theorem dX8_copy_97 : decode cX8_copy 97 = .ok (.bipush (-12), 2) := by decide +kernel
theorem dX8_copy_99 : decode cX8_copy 99 = .ok (.ireturn, 1) := by decide +kernel
theorem dX8_copy_100 : decode cX8_copy 100 = .ok (.iload_n 1, 1) := by decide +kernel
theorem dX8_copy_101 : decode cX8_copy 101 = .ok (.iload_n 3, 1) := by decide +kernel
theorem dX8_copy_102 : decode cX8_copy 102 = .ok (.if_icmp .ne 13, 3) := by decide +kernel
theorem dX8_copy_105 : decode cX8_copy 105 = .ok (.iload_n 2, 1) := by decide +kernel
theorem dX8_copy_106 : decode cX8_copy 106 = .ok (.iload 4, 2) := by decide +kernel
theorem dX8_copy_108 : decode cX8_copy 108 = .ok (.if_icmp .ge 7, 3) := by decide +kernel
theorem dX8_copy_111 : decode cX8_copy 111 = .ok (.iconst 1, 1) := by decide +kernel
theorem dX8_copy_112 : decode cX8_copy 112 = .ok (.goto 4, 3) := by decide +kernel
theorem dX8_copy_115 : decode cX8_copy 115 = .ok (.iconst 0, 1) := by decide +kernel
theorem dX8_copy_116 : decode cX8_copy 116 = .ok (.istore 6, 2) := by decide +kernel
theorem dX8_copy_118 : decode cX8_copy 118 = .ok (.iconst 0, 1) := by decide +kernel
theorem dX8_copy_119 : decode cX8_copy 119 = .ok (.istore 7, 2) := by decide +kernel
theorem dX8_copy_121 : decode cX8_copy 121 = .ok (.iload 7, 2) := by decide +kernel
theorem dX8_copy_123 : decode cX8_copy 123 = .ok (.iload 5, 2) := by decide +kernel
theorem dX8_copy_125 : decode cX8_copy 125 = .ok (.if_icmp .ge 57, 3) := by decide +kernel
theorem dX8_copy_128 : decode cX8_copy 128 = .ok (.iload 6, 2) := by decide +kernel
theorem dX8_copy_130 : decode cX8_copy 130 = .ok (.ifCond .eq 13, 3) := by decide +kernel
theorem dX8_copy_133 : decode cX8_copy 133 = .ok (.iload 5, 2) := by decide +kernel
theorem dX8_copy_135 : decode cX8_copy 135 = .ok (.iconst 1, 1) := by decide +kernel
theorem dX8_copy_136 : decode cX8_copy 136 = .ok (.isub, 1) := by decide +kernel
theorem dX8_copy_137 : decode cX8_copy 137 = .ok (.iload 7, 2) := by decide +kernel
theorem dX8_copy_139 : decode cX8_copy 139 = .ok (.isub, 1) := by decide +kernel
theorem dX8_copy_140 : decode cX8_copy 140 = .ok (.goto 5, 3) := by decide +kernel
theorem dX8_copy_143 : decode cX8_copy 143 = .ok (.iload 7, 2) := by decide +kernel
theorem dX8_copy_145 : decode cX8_copy 145 = .ok (.istore 8, 2) := by decide +kernel
theorem dX8_copy_147 : decode cX8_copy 147 = .ok (.aload_n 0, 1) := by decide +kernel
theorem dX8_copy_148 : decode cX8_copy 148 = .ok (.getfield 63, 3) := by decide +kernel
theorem dX8_copy_151 : decode cX8_copy 151 = .ok (.bipush 40, 2) := by decide +kernel
theorem dX8_copy_153 : decode cX8_copy 153 = .ok (.iload_n 3, 1) := by decide +kernel
theorem dX8_copy_154 : decode cX8_copy 154 = .ok (.imul, 1) := by decide +kernel
theorem dX8_copy_155 : decode cX8_copy 155 = .ok (.iload 4, 2) := by decide +kernel
theorem dX8_copy_157 : decode cX8_copy 157 = .ok (.iadd, 1) := by decide +kernel
theorem dX8_copy_158 : decode cX8_copy 158 = .ok (.iload 8, 2) := by decide +kernel
theorem dX8_copy_160 : decode cX8_copy 160 = .ok (.iadd, 1) := by decide +kernel
theorem dX8_copy_161 : decode cX8_copy 161 = .ok (.aload_n 0, 1) := by decide +kernel
theorem dX8_copy_162 : decode cX8_copy 162 = .ok (.getfield 63, 3) := by decide +kernel
theorem dX8_copy_165 : decode cX8_copy 165 = .ok (.bipush 40, 2) := by decide +kernel
theorem dX8_copy_167 : decode cX8_copy 167 = .ok (.iload_n 1, 1) := by decide +kernel
theorem dX8_copy_168 : decode cX8_copy 168 = .ok (.imul, 1) := by decide +kernel
theorem dX8_copy_169 : decode cX8_copy 169 = .ok (.iload_n 2, 1) := by decide +kernel
theorem dX8_copy_170 : decode cX8_copy 170 = .ok (.iadd, 1) := by decide +kernel
theorem dX8_copy_171 : decode cX8_copy 171 = .ok (.iload 8, 2) := by decide +kernel
theorem dX8_copy_173 : decode cX8_copy 173 = .ok (.iadd, 1) := by decide +kernel
theorem dX8_copy_174 : decode cX8_copy 174 = .ok (.iaload, 1) := by decide +kernel
theorem dX8_copy_175 : decode cX8_copy 175 = .ok (.iastore, 1) := by decide +kernel
theorem dX8_copy_176 : decode cX8_copy 176 = .ok (.iinc 7 1, 3) := by decide +kernel
theorem dX8_copy_179 : decode cX8_copy 179 = .ok (.goto (-58), 3) := by decide +kernel
theorem dX8_copy_182 : decode cX8_copy 182 = .ok (.iload 5, 2) := by decide +kernel
theorem dX8_copy_184 : decode cX8_copy 184 = .ok (.ireturn, 1) := by decide +kernel
theorem dX8_parts_0 : decode cX8_parts 0 = .ok (.iload_n 1, 1) := by decide +kernel
theorem dX8_parts_1 : decode cX8_parts 1 = .ok (.invokestatic 270, 3) := by decide +kernel
theorem dX8_parts_4 : decode cX8_parts 4 = .ok (.ifCond .eq 28, 3) := by decide +kernel
theorem dX8_parts_7 : decode cX8_parts 7 = .ok (.iload_n 2, 1) := by decide +kernel
theorem dX8_parts_8 : decode cX8_parts 8 = .ok (.i2l, 1) := by decide +kernel
theorem dX8_parts_9 : decode cX8_parts 9 = .ok (.lconst 0, 1) := by decide +kernel
theorem dX8_parts_10 : decode cX8_parts 10 = .ok (.ldc2_w 304, 3) := by decide +kernel
theorem dX8_parts_13 : decode cX8_parts 13 = .ok (.invokestatic 76, 3) := by decide +kernel
theorem dX8_parts_16 : decode cX8_parts 16 = .ok (.ifCond .eq 16, 3) := by decide +kernel
theorem dX8_parts_19 : decode cX8_parts 19 = .ok (.iload 4, 2) := by decide +kernel
theorem dX8_parts_21 : decode cX8_parts 21 = .ok (.i2l, 1) := by decide +kernel
theorem dX8_parts_22 : decode cX8_parts 22 = .ok (.lconst 0, 1) := by decide +kernel
theorem dX8_parts_23 : decode cX8_parts 23 = .ok (.ldc2_w 336, 3) := by decide +kernel
theorem dX8_parts_26 : decode cX8_parts 26 = .ok (.invokestatic 76, 3) := by decide +kernel
theorem dX8_parts_29 : decode cX8_parts 29 = .ok (.ifCond .ne 6, 3) := by decide +kernel
theorem dX8_parts_32 : decode cX8_parts 32 = .ok (.bipush (-2), 2) := by decide +kernel
theorem dX8_parts_34 : decode cX8_parts 34 = .ok (.ireturn, 1) := by decide +kernel
theorem dX8_parts_35 : decode cX8_parts 35 = .ok (.aload_n 0, 1) := by decide +kernel
theorem dX8_parts_36 : decode cX8_parts 36 = .ok (.getfield 53, 3) := by decide +kernel
theorem dX8_parts_39 : decode cX8_parts 39 = .ok (.iload_n 1, 1) := by decide +kernel
theorem dX8_parts_40 : decode cX8_parts 40 = .ok (.baload, 1) := by decide +kernel
theorem dX8_parts_41 : decode cX8_parts 41 = .ok (.ifCond .eq 16, 3) := by decide +kernel
theorem dX8_parts_44 : decode cX8_parts 44 = .ok (.aload_n 0, 1) := by decide +kernel
theorem dX8_parts_45 : decode cX8_parts 45 = .ok (.getfield 57, 3) := by decide +kernel
theorem dX8_parts_48 : decode cX8_parts 48 = .ok (.iload_n 1, 1) := by decide +kernel
theorem dX8_parts_49 : decode cX8_parts 49 = .ok (.iaload, 1) := by decide +kernel
theorem dX8_parts_50 : decode cX8_parts 50 = .ok (.iload_n 2, 1) := by decide +kernel
theorem dX8_parts_51 : decode cX8_parts 51 = .ok (.if_icmp .eq 6, 3) := by decide +kernel
theorem dX8_parts_54 : decode cX8_parts 54 = .ok (.bipush (-13), 2) := by decide +kernel
theorem dX8_parts_56 : decode cX8_parts 56 = .ok (.ireturn, 1) := by decide +kernel
theorem dX8_parts_57 : decode cX8_parts 57 = .ok (.aload_n 0, 1) := by decide +kernel
theorem dX8_parts_58 : decode cX8_parts 58 = .ok (.getfield 53, 3) := by decide +kernel
theorem dX8_parts_61 : decode cX8_parts 61 = .ok (.iload_n 1, 1) := by decide +kernel
theorem dX8_parts_62 : decode cX8_parts 62 = .ok (.baload, 1) := by decide +kernel
theorem dX8_parts_63 : decode cX8_parts 63 = .ok (.ifCond .ne 6, 3) := by decide +kernel
theorem dX8_parts_66 : decode cX8_parts 66 = .ok (.bipush (-11), 2) := by decide +kernel
theorem dX8_parts_68 : decode cX8_parts 68 = .ok (.ireturn, 1) := by decide +kernel
theorem dX8_parts_69 : decode cX8_parts 69 = .ok (.iconst 0, 1) := by decide +kernel
theorem dX8_parts_70 : decode cX8_parts 70 = .ok (.istore 5, 2) := by decide +kernel
theorem dX8_parts_72 : decode cX8_parts 72 = .ok (.iconst 0, 1) := by decide +kernel
theorem dX8_parts_73 : decode cX8_parts 73 = .ok (.istore 6, 2) := by decide +kernel
theorem dX8_parts_75 : decode cX8_parts 75 = .ok (.iload 6, 2) := by decide +kernel
theorem dX8_parts_77 : decode cX8_parts 77 = .ok (.iload 4, 2) := by decide +kernel
theorem dX8_parts_79 : decode cX8_parts 79 = .ok (.if_icmp .ge 79, 3) := by decide +kernel
theorem dX8_parts_82 : decode cX8_parts 82 = .ok (.iload_n 3, 1) := by decide +kernel
theorem dX8_parts_83 : decode cX8_parts 83 = .ok (.ifCond .lt 20, 3) := by decide +kernel
theorem dX8_parts_86 : decode cX8_parts 86 = .ok (.iload_n 3, 1) := by decide +kernel
theorem dX8_parts_87 : decode cX8_parts 87 = .ok (.aload_n 0, 1) := by decide +kernel
theorem dX8_parts_88 : decode cX8_parts 88 = .ok (.getfield 60, 3) := by decide +kernel
theorem dX8_parts_91 : decode cX8_parts 91 = .ok (.iload_n 1, 1) := by decide +kernel
theorem dX8_parts_92 : decode cX8_parts 92 = .ok (.iaload, 1) := by decide +kernel
theorem dX8_parts_93 : decode cX8_parts 93 = .ok (.iconst 2, 1) := by decide +kernel
theorem dX8_parts_94 : decode cX8_parts 94 = .ok (.iload 6, 2) := by decide +kernel
theorem dX8_parts_96 : decode cX8_parts 96 = .ok (.imul, 1) := by decide +kernel
theorem dX8_parts_97 : decode cX8_parts 97 = .ok (.isub, 1) := by decide +kernel
theorem dX8_parts_98 : decode cX8_parts 98 = .ok (.iconst 2, 1) := by decide +kernel
theorem dX8_parts_99 : decode cX8_parts 99 = .ok (.isub, 1) := by decide +kernel
theorem dX8_parts_100 : decode cX8_parts 100 = .ok (.if_icmp .le 6, 3) := by decide +kernel
theorem dX8_parts_103 : decode cX8_parts 103 = .ok (.bipush (-12), 2) := by decide +kernel
theorem dX8_parts_105 : decode cX8_parts 105 = .ok (.ireturn, 1) := by decide +kernel
theorem dX8_parts_106 : decode cX8_parts 106 = .ok (.bipush 40, 2) := by decide +kernel
theorem dX8_parts_108 : decode cX8_parts 108 = .ok (.iload_n 1, 1) := by decide +kernel
theorem dX8_parts_109 : decode cX8_parts 109 = .ok (.imul, 1) := by decide +kernel
theorem dX8_parts_110 : decode cX8_parts 110 = .ok (.iload_n 3, 1) := by decide +kernel
theorem dX8_parts_111 : decode cX8_parts 111 = .ok (.iadd, 1) := by decide +kernel
theorem dX8_parts_112 : decode cX8_parts 112 = .ok (.iconst 2, 1) := by decide +kernel
theorem dX8_parts_113 : decode cX8_parts 113 = .ok (.iload 6, 2) := by decide +kernel
theorem dX8_parts_115 : decode cX8_parts 115 = .ok (.imul, 1) := by decide +kernel
theorem dX8_parts_116 : decode cX8_parts 116 = .ok (.iadd, 1) := by decide +kernel
theorem dX8_parts_117 : decode cX8_parts 117 = .ok (.istore 7, 2) := by decide +kernel
theorem dX8_parts_119 : decode cX8_parts 119 = .ok (.iload 5, 2) := by decide +kernel
theorem dX8_parts_121 : decode cX8_parts 121 = .ok (.aload_n 0, 1) := by decide +kernel
theorem dX8_parts_122 : decode cX8_parts 122 = .ok (.aload_n 0, 1) := by decide +kernel
theorem dX8_parts_123 : decode cX8_parts 123 = .ok (.getfield 63, 3) := by decide +kernel
theorem dX8_parts_126 : decode cX8_parts 126 = .ok (.iload 7, 2) := by decide +kernel
theorem dX8_parts_128 : decode cX8_parts 128 = .ok (.iaload, 1) := by decide +kernel
theorem dX8_parts_129 : decode cX8_parts 129 = .ok (.aload_n 0, 1) := by decide +kernel
theorem dX8_parts_130 : decode cX8_parts 130 = .ok (.getfield 63, 3) := by decide +kernel
theorem dX8_parts_133 : decode cX8_parts 133 = .ok (.iload 7, 2) := by decide +kernel
theorem dX8_parts_135 : decode cX8_parts 135 = .ok (.iconst 1, 1) := by decide +kernel
theorem dX8_parts_136 : decode cX8_parts 136 = .ok (.iadd, 1) := by decide +kernel
theorem dX8_parts_137 : decode cX8_parts 137 = .ok (.iaload, 1) := by decide +kernel
theorem dX8_parts_138 : decode cX8_parts 138 = .ok (.invokevirtual 338, 3) := by decide +kernel
theorem dX8_parts_141 : decode cX8_parts 141 = .ok (.ifCond .lt 7, 3) := by decide +kernel
theorem dX8_parts_144 : decode cX8_parts 144 = .ok (.iconst 1, 1) := by decide +kernel
theorem dX8_parts_145 : decode cX8_parts 145 = .ok (.goto 4, 3) := by decide +kernel
theorem dX8_parts_148 : decode cX8_parts 148 = .ok (.iconst 0, 1) := by decide +kernel
theorem dX8_parts_149 : decode cX8_parts 149 = .ok (.iadd, 1) := by decide +kernel
theorem dX8_parts_150 : decode cX8_parts 150 = .ok (.istore 5, 2) := by decide +kernel
theorem dX8_parts_152 : decode cX8_parts 152 = .ok (.iinc 6 1, 3) := by decide +kernel
theorem dX8_parts_155 : decode cX8_parts 155 = .ok (.goto (-80), 3) := by decide +kernel
theorem dX8_parts_158 : decode cX8_parts 158 = .ok (.iload 5, 2) := by decide +kernel
theorem dX8_parts_160 : decode cX8_parts 160 = .ok (.ireturn, 1) := by decide +kernel
theorem dX8_over_0 : decode cX8_over 0 = .ok (.iload_n 0, 1) := by decide +kernel
theorem dX8_over_1 : decode cX8_over 1 = .ok (.ifCond .ne 7, 3) := by decide +kernel
theorem dX8_over_4 : decode cX8_over 4 = .ok (.iconst (-1), 1) := by decide +kernel
theorem dX8_over_5 : decode cX8_over 5 = .ok (.goto 22, 3) := by decide +kernel
theorem dX8_over_8 : decode cX8_over 8 = .ok (.iload_n 0, 1) := by decide +kernel
theorem dX8_over_9 : decode cX8_over 9 = .ok (.iconst 3, 1) := by decide +kernel
theorem dX8_over_10 : decode cX8_over 10 = .ok (.if_icmp .ne 7, 3) := by decide +kernel
theorem dX8_over_13 : decode cX8_over 13 = .ok (.iconst 1, 1) := by decide +kernel
theorem dX8_over_14 : decode cX8_over 14 = .ok (.goto 13, 3) := by decide +kernel
theorem dX8_over_17 : decode cX8_over 17 = .ok (.iload_n 0, 1) := by decide +kernel
theorem dX8_over_18 : decode cX8_over 18 = .ok (.iconst 4, 1) := by decide +kernel
theorem dX8_over_19 : decode cX8_over 19 = .ok (.if_icmp .ne 7, 3) := by decide +kernel
theorem dX8_over_22 : decode cX8_over 22 = .ok (.iconst 2, 1) := by decide +kernel
theorem dX8_over_23 : decode cX8_over 23 = .ok (.goto 4, 3) := by decide +kernel
theorem dX8_over_26 : decode cX8_over 26 = .ok (.iconst 0, 1) := by decide +kernel
theorem dX8_over_27 : decode cX8_over 27 = .ok (.ireturn, 1) := by decide +kernel
theorem dX8_taken_0 : decode cX8_taken 0 = .ok (.iload_n 2, 1) := by decide +kernel
theorem dX8_taken_1 : decode cX8_taken 1 = .ok (.i2l, 1) := by decide +kernel
theorem dX8_taken_2 : decode cX8_taken 2 = .ok (.lconst 0, 1) := by decide +kernel
theorem dX8_taken_3 : decode cX8_taken 3 = .ok (.ldc2_w 101, 3) := by decide +kernel
theorem dX8_taken_6 : decode cX8_taken 6 = .ok (.invokestatic 76, 3) := by decide +kernel
theorem dX8_taken_9 : decode cX8_taken 9 = .ok (.ifCond .ne 6, 3) := by decide +kernel
theorem dX8_taken_12 : decode cX8_taken 12 = .ok (.bipush (-2), 2) := by decide +kernel
theorem dX8_taken_14 : decode cX8_taken 14 = .ok (.ireturn, 1) := by decide +kernel
theorem dX8_taken_15 : decode cX8_taken 15 = .ok (.aload_n 0, 1) := by decide +kernel
theorem dX8_taken_16 : decode cX8_taken 16 = .ok (.iload_n 1, 1) := by decide +kernel
theorem dX8_taken_17 : decode cX8_taken 17 = .ok (.invokevirtual 82, 3) := by decide +kernel
theorem dX8_taken_20 : decode cX8_taken 20 = .ok (.ifCond .ne 6, 3) := by decide +kernel
theorem dX8_taken_23 : decode cX8_taken 23 = .ok (.bipush (-11), 2) := by decide +kernel
theorem dX8_taken_25 : decode cX8_taken 25 = .ok (.ireturn, 1) := by decide +kernel
theorem dX8_taken_26 : decode cX8_taken 26 = .ok (.aload_n 0, 1) := by decide +kernel
theorem dX8_taken_27 : decode cX8_taken 27 = .ok (.getfield 29, 3) := by decide +kernel
theorem dX8_taken_30 : decode cX8_taken 30 = .ok (.iload_n 1, 1) := by decide +kernel
theorem dX8_taken_31 : decode cX8_taken 31 = .ok (.iaload, 1) := by decide +kernel
theorem dX8_taken_32 : decode cX8_taken 32 = .ok (.istore_n 3, 1) := by decide +kernel
theorem dX8_taken_33 : decode cX8_taken 33 = .ok (.iload_n 3, 1) := by decide +kernel
theorem dX8_taken_34 : decode cX8_taken 34 = .ok (.iconst (-1), 1) := by decide +kernel
theorem dX8_taken_35 : decode cX8_taken 35 = .ok (.if_icmp .eq 16, 3) := by decide +kernel
theorem dX8_taken_38 : decode cX8_taken 38 = .ok (.iload_n 3, 1) := by decide +kernel
theorem dX8_taken_39 : decode cX8_taken 39 = .ok (.iload_n 2, 1) := by decide +kernel
theorem dX8_taken_40 : decode cX8_taken 40 = .ok (.if_icmp .eq 11, 3) := by decide +kernel
theorem dX8_taken_43 : decode cX8_taken 43 = .ok (.iload_n 3, 1) := by decide +kernel
theorem dX8_taken_44 : decode cX8_taken 44 = .ok (.invokestatic 340, 3) := by decide +kernel
theorem dX8_taken_47 : decode cX8_taken 47 = .ok (.istore_n 3, 1) := by decide +kernel
theorem dX8_taken_48 : decode cX8_taken 48 = .ok (.goto (-15), 3) := by decide +kernel
theorem dX8_taken_51 : decode cX8_taken 51 = .ok (.iload_n 3, 1) := by decide +kernel
theorem dX8_taken_52 : decode cX8_taken 52 = .ok (.iload_n 2, 1) := by decide +kernel
theorem dX8_taken_53 : decode cX8_taken 53 = .ok (.if_icmp .ne 14, 3) := by decide +kernel
theorem dX8_taken_56 : decode cX8_taken 56 = .ok (.aload_n 0, 1) := by decide +kernel
theorem dX8_taken_57 : decode cX8_taken 57 = .ok (.getfield 32, 3) := by decide +kernel
theorem dX8_taken_60 : decode cX8_taken 60 = .ok (.iconst 3, 1) := by decide +kernel
theorem dX8_taken_61 : decode cX8_taken 61 = .ok (.iload_n 1, 1) := by decide +kernel
theorem dX8_taken_62 : decode cX8_taken 62 = .ok (.imul, 1) := by decide +kernel
theorem dX8_taken_63 : decode cX8_taken 63 = .ok (.iaload, 1) := by decide +kernel
theorem dX8_taken_64 : decode cX8_taken 64 = .ok (.goto 5, 3) := by decide +kernel
theorem dX8_taken_67 : decode cX8_taken 67 = .ok (.bipush (-13), 2) := by decide +kernel
theorem dX8_taken_69 : decode cX8_taken 69 = .ok (.ireturn, 1) := by decide +kernel
