theorem dX1_init_0 : decode cX1_init 0 = .ok (.aload_n 0, 1) := by decide +kernel
theorem dX1_init_1 : decode cX1_init 1 = .ok (.invokespecial 1, 3) := by decide +kernel
theorem dX1_init_4 : decode cX1_init 4 = .ok (.aload_n 0, 1) := by decide +kernel
theorem dX1_init_5 : decode cX1_init 5 = .ok (.bipush 120, 2) := by decide +kernel
theorem dX1_init_7 : decode cX1_init 7 = .ok (.newarray .boolean, 2) := by decide +kernel
theorem dX1_init_9 : decode cX1_init 9 = .ok (.putfield 7, 3) := by decide +kernel
theorem dX1_init_12 : decode cX1_init 12 = .ok (.aload_n 0, 1) := by decide +kernel
theorem dX1_init_13 : decode cX1_init 13 = .ok (.bipush 120, 2) := by decide +kernel
theorem dX1_init_15 : decode cX1_init 15 = .ok (.newarray .int, 2) := by decide +kernel
theorem dX1_init_17 : decode cX1_init 17 = .ok (.putfield 13, 3) := by decide +kernel
theorem dX1_init_20 : decode cX1_init 20 = .ok (.aload_n 0, 1) := by decide +kernel
theorem dX1_init_21 : decode cX1_init 21 = .ok (.bipush 120, 2) := by decide +kernel
theorem dX1_init_23 : decode cX1_init 23 = .ok (.newarray .int, 2) := by decide +kernel
theorem dX1_init_25 : decode cX1_init 25 = .ok (.putfield 17, 3) := by decide +kernel
theorem dX1_init_28 : decode cX1_init 28 = .ok (.aload_n 0, 1) := by decide +kernel
theorem dX1_init_29 : decode cX1_init 29 = .ok (.bipush 120, 2) := by decide +kernel
theorem dX1_init_31 : decode cX1_init 31 = .ok (.newarray .int, 2) := by decide +kernel
theorem dX1_init_33 : decode cX1_init 33 = .ok (.putfield 20, 3) := by decide +kernel
theorem dX1_init_36 : decode cX1_init 36 = .ok (.aload_n 0, 1) := by decide +kernel
theorem dX1_init_37 : decode cX1_init 37 = .ok (.iconst 1, 1) := by decide +kernel
theorem dX1_init_38 : decode cX1_init 38 = .ok (.putfield 23, 3) := by decide +kernel
theorem dX1_init_41 : decode cX1_init 41 = .ok (.aload_n 0, 1) := by decide +kernel
theorem dX1_init_42 : decode cX1_init 42 = .ok (.bipush 120, 2) := by decide +kernel
theorem dX1_init_44 : decode cX1_init 44 = .ok (.newarray .boolean, 2) := by decide +kernel
theorem dX1_init_46 : decode cX1_init 46 = .ok (.putfield 27, 3) := by decide +kernel
theorem dX1_init_49 : decode cX1_init 49 = .ok (.aload_n 0, 1) := by decide +kernel
theorem dX1_init_50 : decode cX1_init 50 = .ok (.bipush 120, 2) := by decide +kernel
theorem dX1_init_52 : decode cX1_init 52 = .ok (.newarray .int, 2) := by decide +kernel
theorem dX1_init_54 : decode cX1_init 54 = .ok (.putfield 30, 3) := by decide +kernel
theorem dX1_init_57 : decode cX1_init 57 = .ok (.aload_n 0, 1) := by decide +kernel
theorem dX1_init_58 : decode cX1_init 58 = .ok (.bipush 120, 2) := by decide +kernel
theorem dX1_init_60 : decode cX1_init 60 = .ok (.newarray .boolean, 2) := by decide +kernel
theorem dX1_init_62 : decode cX1_init 62 = .ok (.putfield 33, 3) := by decide +kernel
theorem dX1_init_65 : decode cX1_init 65 = .ok (.aload_n 0, 1) := by decide +kernel
theorem dX1_init_66 : decode cX1_init 66 = .ok (.bipush 120, 2) := by decide +kernel
theorem dX1_init_68 : decode cX1_init 68 = .ok (.newarray .long, 2) := by decide +kernel
theorem dX1_init_70 : decode cX1_init 70 = .ok (.putfield 36, 3) := by decide +kernel
theorem dX1_init_73 : decode cX1_init 73 = .ok (.aload_n 0, 1) := by decide +kernel
theorem dX1_init_74 : decode cX1_init 74 = .ok (.bipush 120, 2) := by decide +kernel
theorem dX1_init_76 : decode cX1_init 76 = .ok (.newarray .long, 2) := by decide +kernel
theorem dX1_init_78 : decode cX1_init 78 = .ok (.putfield 40, 3) := by decide +kernel
theorem dX1_init_81 : decode cX1_init 81 = .ok (.return_, 1) := by decide +kernel
theorem dX1_isPlace_0 : decode cX1_isPlace 0 = .ok (.iload_n 0, 1) := by decide +kernel
theorem dX1_isPlace_1 : decode cX1_isPlace 1 = .ok (.ldc 43, 2) := by decide +kernel
theorem dX1_isPlace_3 : decode cX1_isPlace 3 = .ok (.if_icmp .lt 25, 3) := by decide +kernel
theorem dX1_isPlace_6 : decode cX1_isPlace 6 = .ok (.iload_n 0, 1) := by decide +kernel
theorem dX1_isPlace_7 : decode cX1_isPlace 7 = .ok (.ldc 44, 2) := by decide +kernel
theorem dX1_isPlace_9 : decode cX1_isPlace 9 = .ok (.if_icmp .gt 19, 3) := by decide +kernel
theorem dX1_isPlace_12 : decode cX1_isPlace 12 = .ok (.iload_n 1, 1) := by decide +kernel
theorem dX1_isPlace_13 : decode cX1_isPlace 13 = .ok (.ldc 43, 2) := by decide +kernel
theorem dX1_isPlace_15 : decode cX1_isPlace 15 = .ok (.if_icmp .lt 13, 3) := by decide +kernel
theorem dX1_isPlace_18 : decode cX1_isPlace 18 = .ok (.iload_n 1, 1) := by decide +kernel
theorem dX1_isPlace_19 : decode cX1_isPlace 19 = .ok (.ldc 44, 2) := by decide +kernel
theorem dX1_isPlace_21 : decode cX1_isPlace 21 = .ok (.if_icmp .gt 7, 3) := by decide +kernel
theorem dX1_isPlace_24 : decode cX1_isPlace 24 = .ok (.iconst 1, 1) := by decide +kernel
theorem dX1_isPlace_25 : decode cX1_isPlace 25 = .ok (.goto 4, 3) := by decide +kernel
theorem dX1_isPlace_28 : decode cX1_isPlace 28 = .ok (.iconst 0, 1) := by decide +kernel
theorem dX1_isPlace_29 : decode cX1_isPlace 29 = .ok (.ireturn, 1) := by decide +kernel
theorem dX1_isPoint_0 : decode cX1_isPoint 0 = .ok (.iload_n 1, 1) := by decide +kernel
theorem dX1_isPoint_1 : decode cX1_isPoint 1 = .ok (.ifCond .lt 22, 3) := by decide +kernel
theorem dX1_isPoint_4 : decode cX1_isPoint 4 = .ok (.iload_n 1, 1) := by decide +kernel
theorem dX1_isPoint_5 : decode cX1_isPoint 5 = .ok (.bipush 120, 2) := by decide +kernel
theorem dX1_isPoint_7 : decode cX1_isPoint 7 = .ok (.if_icmp .ge 16, 3) := by decide +kernel
theorem dX1_isPoint_10 : decode cX1_isPoint 10 = .ok (.aload_n 0, 1) := by decide +kernel
theorem dX1_isPoint_11 : decode cX1_isPoint 11 = .ok (.getfield 7, 3) := by decide +kernel
theorem dX1_isPoint_14 : decode cX1_isPoint 14 = .ok (.iload_n 1, 1) := by decide +kernel
theorem dX1_isPoint_15 : decode cX1_isPoint 15 = .ok (.baload, 1) := by decide +kernel
theorem dX1_isPoint_16 : decode cX1_isPoint 16 = .ok (.ifCond .eq 7, 3) := by decide +kernel
theorem dX1_isPoint_19 : decode cX1_isPoint 19 = .ok (.iconst 1, 1) := by decide +kernel
theorem dX1_isPoint_20 : decode cX1_isPoint 20 = .ok (.goto 4, 3) := by decide +kernel
theorem dX1_isPoint_23 : decode cX1_isPoint 23 = .ok (.iconst 0, 1) := by decide +kernel
theorem dX1_isPoint_24 : decode cX1_isPoint 24 = .ok (.ireturn, 1) := by decide +kernel
theorem dX1_point_0 : decode cX1_point 0 = .ok (.iconst 0, 1) := by decide +kernel
theorem dX1_point_1 : decode cX1_point 1 = .ok (.istore 4, 2) := by decide +kernel
theorem dX1_point_3 : decode cX1_point 3 = .ok (.iload 4, 2) := by decide +kernel
theorem dX1_point_5 : decode cX1_point 5 = .ok (.bipush 120, 2) := by decide +kernel
theorem dX1_point_7 : decode cX1_point 7 = .ok (.if_icmp .ge 19, 3) := by decide +kernel
theorem dX1_point_10 : decode cX1_point 10 = .ok (.aload_n 0, 1) := by decide +kernel
theorem dX1_point_11 : decode cX1_point 11 = .ok (.getfield 7, 3) := by decide +kernel
theorem dX1_point_14 : decode cX1_point 14 = .ok (.iload 4, 2) := by decide +kernel
theorem dX1_point_16 : decode cX1_point 16 = .ok (.baload, 1) := by decide +kernel
theorem dX1_point_17 : decode cX1_point 17 = .ok (.ifCond .eq 9, 3) := by decide +kernel
theorem dX1_point_20 : decode cX1_point 20 = .ok (.iinc 4 1, 3) := by decide +kernel
theorem dX1_point_23 : decode cX1_point 23 = .ok (.goto (-20), 3) := by decide +kernel
theorem dX1_point_26 : decode cX1_point 26 = .ok (.iload 4, 2) := by decide +kernel
theorem dX1_point_28 : decode cX1_point 28 = .ok (.bipush 120, 2) := by decide +kernel
theorem dX1_point_30 : decode cX1_point 30 = .ok (.if_icmp .eq 22, 3) := by decide +kernel
theorem dX1_point_33 : decode cX1_point 33 = .ok (.iload_n 1, 1) := by decide +kernel
theorem dX1_point_34 : decode cX1_point 34 = .ok (.iload_n 2, 1) := by decide +kernel
theorem dX1_point_35 : decode cX1_point 35 = .ok (.invokestatic 45, 3) := by decide +kernel
theorem dX1_point_38 : decode cX1_point 38 = .ok (.ifCond .eq 14, 3) := by decide +kernel
theorem dX1_point_41 : decode cX1_point 41 = .ok (.iload_n 3, 1) := by decide +kernel
theorem dX1_point_42 : decode cX1_point 42 = .ok (.iconst 1, 1) := by decide +kernel
theorem dX1_point_43 : decode cX1_point 43 = .ok (.if_icmp .lt 9, 3) := by decide +kernel
theorem dX1_point_46 : decode cX1_point 46 = .ok (.iload_n 3, 1) := by decide +kernel
theorem dX1_point_47 : decode cX1_point 47 = .ok (.bipush 20, 2) := by decide +kernel
theorem dX1_point_49 : decode cX1_point 49 = .ok (.if_icmp .le 5, 3) := by decide +kernel
theorem dX1_point_52 : decode cX1_point 52 = .ok (.iconst (-1), 1) := by decide +kernel
theorem dX1_point_53 : decode cX1_point 53 = .ok (.ireturn, 1) := by decide +kernel
theorem dX1_point_54 : decode cX1_point 54 = .ok (.aload_n 0, 1) := by decide +kernel
theorem dX1_point_55 : decode cX1_point 55 = .ok (.getfield 7, 3) := by decide +kernel
theorem dX1_point_58 : decode cX1_point 58 = .ok (.iload 4, 2) := by decide +kernel
theorem dX1_point_60 : decode cX1_point 60 = .ok (.iconst 1, 1) := by decide +kernel
theorem dX1_point_61 : decode cX1_point 61 = .ok (.bastore, 1) := by decide +kernel
theorem dX1_point_62 : decode cX1_point 62 = .ok (.aload_n 0, 1) := by decide +kernel
theorem dX1_point_63 : decode cX1_point 63 = .ok (.getfield 13, 3) := by decide +kernel
theorem dX1_point_66 : decode cX1_point 66 = .ok (.iload 4, 2) := by decide +kernel
theorem dX1_point_68 : decode cX1_point 68 = .ok (.iload_n 1, 1) := by decide +kernel
theorem dX1_point_69 : decode cX1_point 69 = .ok (.iastore, 1) := by decide +kernel
theorem dX1_point_70 : decode cX1_point 70 = .ok (.aload_n 0, 1) := by decide +kernel
theorem dX1_point_71 : decode cX1_point 71 = .ok (.getfield 17, 3) := by decide +kernel
theorem dX1_point_74 : decode cX1_point 74 = .ok (.iload 4, 2) := by decide +kernel
theorem dX1_point_76 : decode cX1_point 76 = .ok (.iload_n 2, 1) := by decide +kernel
theorem dX1_point_77 : decode cX1_point 77 = .ok (.iastore, 1) := by decide +kernel
theorem dX1_point_78 : decode cX1_point 78 = .ok (.aload_n 0, 1) := by decide +kernel
theorem dX1_point_79 : decode cX1_point 79 = .ok (.getfield 20, 3) := by decide +kernel
theorem dX1_point_82 : decode cX1_point 82 = .ok (.iload 4, 2) := by decide +kernel
theorem dX1_point_84 : decode cX1_point 84 = .ok (.iload_n 3, 1) := by decide +kernel
theorem dX1_point_85 : decode cX1_point 85 = .ok (.iastore, 1) := by decide +kernel
theorem dX1_point_86 : decode cX1_point 86 = .ok (.iload 4, 2) := by decide +kernel
theorem dX1_point_88 : decode cX1_point 88 = .ok (.ireturn, 1) := by decide +kernel
theorem dX1_points_0 : decode cX1_points 0 = .ok (.iconst 0, 1) := by decide +kernel
theorem dX1_points_1 : decode cX1_points 1 = .ok (.istore_n 1, 1) := by decide +kernel
theorem dX1_points_2 : decode cX1_points 2 = .ok (.iconst 0, 1) := by decide +kernel
theorem dX1_points_3 : decode cX1_points 3 = .ok (.istore_n 2, 1) := by decide +kernel
theorem dX1_points_4 : decode cX1_points 4 = .ok (.iload_n 2, 1) := by decide +kernel
theorem dX1_points_5 : decode cX1_points 5 = .ok (.bipush 120, 2) := by decide +kernel
theorem dX1_points_7 : decode cX1_points 7 = .ok (.if_icmp .ge 26, 3) := by decide +kernel
theorem dX1_points_10 : decode cX1_points 10 = .ok (.iload_n 1, 1) := by decide +kernel
theorem dX1_points_11 : decode cX1_points 11 = .ok (.aload_n 0, 1) := by decide +kernel
theorem dX1_points_12 : decode cX1_points 12 = .ok (.getfield 7, 3) := by decide +kernel
theorem dX1_points_15 : decode cX1_points 15 = .ok (.iload_n 2, 1) := by decide +kernel
theorem dX1_points_16 : decode cX1_points 16 = .ok (.baload, 1) := by decide +kernel
theorem dX1_points_17 : decode cX1_points 17 = .ok (.ifCond .eq 7, 3) := by decide +kernel
theorem dX1_points_20 : decode cX1_points 20 = .ok (.iconst 1, 1) := by decide +kernel
theorem dX1_points_21 : decode cX1_points 21 = .ok (.goto 4, 3) := by decide +kernel
theorem dX1_points_24 : decode cX1_points 24 = .ok (.iconst 0, 1) := by decide +kernel
theorem dX1_points_25 : decode cX1_points 25 = .ok (.iadd, 1) := by decide +kernel
theorem dX1_points_26 : decode cX1_points 26 = .ok (.istore_n 1, 1) := by decide +kernel
theorem dX1_points_27 : decode cX1_points 27 = .ok (.iinc 2 1, 3) := by decide +kernel
theorem dX1_points_30 : decode cX1_points 30 = .ok (.goto (-26), 3) := by decide +kernel
theorem dX1_points_33 : decode cX1_points 33 = .ok (.iload_n 1, 1) := by decide +kernel
theorem dX1_points_34 : decode cX1_points 34 = .ok (.ireturn, 1) := by decide +kernel
theorem dX1_remove_0 : decode cX1_remove 0 = .ok (.aload_n 0, 1) := by decide +kernel
theorem dX1_remove_1 : decode cX1_remove 1 = .ok (.iload_n 1, 1) := by decide +kernel
theorem dX1_remove_2 : decode cX1_remove 2 = .ok (.invokevirtual 49, 3) := by decide +kernel
theorem dX1_remove_5 : decode cX1_remove 5 = .ok (.ifCond .ne 5, 3) := by decide +kernel
theorem dX1_remove_8 : decode cX1_remove 8 = .ok (.iconst (-1), 1) := by decide +kernel
theorem dX1_remove_9 : decode cX1_remove 9 = .ok (.ireturn, 1) := by decide +kernel
theorem dX1_remove_10 : decode cX1_remove 10 = .ok (.aload_n 0, 1) := by decide +kernel
theorem dX1_remove_11 : decode cX1_remove 11 = .ok (.getfield 7, 3) := by decide +kernel
theorem dX1_remove_14 : decode cX1_remove 14 = .ok (.iload_n 1, 1) := by decide +kernel
theorem dX1_remove_15 : decode cX1_remove 15 = .ok (.iconst 0, 1) := by decide +kernel
theorem dX1_remove_16 : decode cX1_remove 16 = .ok (.bastore, 1) := by decide +kernel
theorem dX1_remove_17 : decode cX1_remove 17 = .ok (.aload_n 0, 1) := by decide +kernel
theorem dX1_remove_18 : decode cX1_remove 18 = .ok (.invokevirtual 53, 3) := by decide +kernel
theorem dX1_remove_21 : decode cX1_remove 21 = .ok (.ireturn, 1) := by decide +kernel
theorem dX1_move_0 : decode cX1_move 0 = .ok (.aload_n 0, 1) := by decide +kernel
theorem dX1_move_1 : decode cX1_move 1 = .ok (.iload_n 1, 1) := by decide +kernel
theorem dX1_move_2 : decode cX1_move 2 = .ok (.invokevirtual 49, 3) := by decide +kernel
theorem dX1_move_5 : decode cX1_move 5 = .ok (.ifCond .eq 11, 3) := by decide +kernel
theorem dX1_move_8 : decode cX1_move 8 = .ok (.iload_n 2, 1) := by decide +kernel
theorem dX1_move_9 : decode cX1_move 9 = .ok (.iload_n 3, 1) := by decide +kernel
theorem dX1_move_10 : decode cX1_move 10 = .ok (.invokestatic 45, 3) := by decide +kernel
theorem dX1_move_13 : decode cX1_move 13 = .ok (.ifCond .ne 5, 3) := by decide +kernel
theorem dX1_move_16 : decode cX1_move 16 = .ok (.iconst 0, 1) := by decide +kernel
theorem dX1_move_17 : decode cX1_move 17 = .ok (.ireturn, 1) := by decide +kernel
theorem dX1_move_18 : decode cX1_move 18 = .ok (.aload_n 0, 1) := by decide +kernel
theorem dX1_move_19 : decode cX1_move 19 = .ok (.getfield 13, 3) := by decide +kernel
theorem dX1_move_22 : decode cX1_move 22 = .ok (.iload_n 1, 1) := by decide +kernel
theorem dX1_move_23 : decode cX1_move 23 = .ok (.iload_n 2, 1) := by decide +kernel
theorem dX1_move_24 : decode cX1_move 24 = .ok (.iastore, 1) := by decide +kernel
theorem dX1_move_25 : decode cX1_move 25 = .ok (.aload_n 0, 1) := by decide +kernel
theorem dX1_move_26 : decode cX1_move 26 = .ok (.getfield 17, 3) := by decide +kernel
theorem dX1_move_29 : decode cX1_move 29 = .ok (.iload_n 1, 1) := by decide +kernel
theorem dX1_move_30 : decode cX1_move 30 = .ok (.iload_n 3, 1) := by decide +kernel
theorem dX1_move_31 : decode cX1_move 31 = .ok (.iastore, 1) := by decide +kernel
theorem dX1_move_32 : decode cX1_move 32 = .ok (.iconst 1, 1) := by decide +kernel
theorem dX1_move_33 : decode cX1_move 33 = .ok (.ireturn, 1) := by decide +kernel
theorem dX1_way_0 : decode cX1_way 0 = .ok (.iload_n 1, 1) := by decide +kernel
theorem dX1_way_1 : decode cX1_way 1 = .ok (.ifCond .lt 8, 3) := by decide +kernel
theorem dX1_way_4 : decode cX1_way 4 = .ok (.iload_n 1, 1) := by decide +kernel
theorem dX1_way_5 : decode cX1_way 5 = .ok (.iconst 2, 1) := by decide +kernel
theorem dX1_way_6 : decode cX1_way 6 = .ok (.if_icmp .le 5, 3) := by decide +kernel
theorem dX1_way_9 : decode cX1_way 9 = .ok (.iconst 0, 1) := by decide +kernel
theorem dX1_way_10 : decode cX1_way 10 = .ok (.ireturn, 1) := by decide +kernel
theorem dX1_way_11 : decode cX1_way 11 = .ok (.aload_n 0, 1) := by decide +kernel
theorem dX1_way_12 : decode cX1_way 12 = .ok (.iload_n 1, 1) := by decide +kernel
theorem dX1_way_13 : decode cX1_way 13 = .ok (.putfield 57, 3) := by decide +kernel
theorem dX1_way_16 : decode cX1_way 16 = .ok (.iconst 1, 1) := by decide +kernel
theorem dX1_way_17 : decode cX1_way 17 = .ok (.ireturn, 1) := by decide +kernel
theorem dX1_reach_0 : decode cX1_reach 0 = .ok (.lload_n 1, 1) := by decide +kernel
theorem dX1_reach_1 : decode cX1_reach 1 = .ok (.lconst 0, 1) := by decide +kernel
theorem dX1_reach_2 : decode cX1_reach 2 = .ok (.lcmp, 1) := by decide +kernel
theorem dX1_reach_3 : decode cX1_reach 3 = .ok (.ifCond .ge 5, 3) := by decide +kernel
theorem dX1_reach_6 : decode cX1_reach 6 = .ok (.iconst 0, 1) := by decide +kernel
theorem dX1_reach_7 : decode cX1_reach 7 = .ok (.ireturn, 1) := by decide +kernel
theorem dX1_reach_8 : decode cX1_reach 8 = .ok (.aload_n 0, 1) := by decide +kernel
theorem dX1_reach_9 : decode cX1_reach 9 = .ok (.lload_n 1, 1) := by decide +kernel
theorem dX1_reach_10 : decode cX1_reach 10 = .ok (.putfield 60, 3) := by decide +kernel
theorem dX1_reach_13 : decode cX1_reach 13 = .ok (.iconst 1, 1) := by decide +kernel
theorem dX1_reach_14 : decode cX1_reach 14 = .ok (.ireturn, 1) := by decide +kernel
theorem dX1_demand_0 : decode cX1_demand 0 = .ok (.iload_n 1, 1) := by decide +kernel
theorem dX1_demand_1 : decode cX1_demand 1 = .ok (.iconst 1, 1) := by decide +kernel
theorem dX1_demand_2 : decode cX1_demand 2 = .ok (.if_icmp .lt 10, 3) := by decide +kernel
theorem dX1_demand_5 : decode cX1_demand 5 = .ok (.iload_n 1, 1) := by decide +kernel
theorem dX1_demand_6 : decode cX1_demand 6 = .ok (.sipush 2400, 3) := by decide +kernel
theorem dX1_demand_9 : decode cX1_demand 9 = .ok (.if_icmp .le 5, 3) := by decide +kernel
theorem dX1_demand_12 : decode cX1_demand 12 = .ok (.iconst 0, 1) := by decide +kernel
theorem dX1_demand_13 : decode cX1_demand 13 = .ok (.ireturn, 1) := by decide +kernel
theorem dX1_demand_14 : decode cX1_demand 14 = .ok (.aload_n 0, 1) := by decide +kernel
theorem dX1_demand_15 : decode cX1_demand 15 = .ok (.iload_n 1, 1) := by decide +kernel
theorem dX1_demand_16 : decode cX1_demand 16 = .ok (.putfield 23, 3) := by decide +kernel
theorem dX1_demand_19 : decode cX1_demand 19 = .ok (.iconst 1, 1) := by decide +kernel
theorem dX1_demand_20 : decode cX1_demand 20 = .ok (.ireturn, 1) := by decide +kernel
theorem dX1_far_0 : decode cX1_far 0 = .ok (.aload_n 0, 1) := by decide +kernel
theorem dX1_far_1 : decode cX1_far 1 = .ok (.getfield 13, 3) := by decide +kernel
theorem dX1_far_4 : decode cX1_far 4 = .ok (.iload_n 1, 1) := by decide +kernel
theorem dX1_far_5 : decode cX1_far 5 = .ok (.iaload, 1) := by decide +kernel
theorem dX1_far_6 : decode cX1_far 6 = .ok (.i2l, 1) := by decide +kernel
theorem dX1_far_7 : decode cX1_far 7 = .ok (.lload_n 2, 1) := by decide +kernel
theorem dX1_far_8 : decode cX1_far 8 = .ok (.lcmp, 1) := by decide +kernel
theorem dX1_far_9 : decode cX1_far 9 = .ok (.ifCond .ge 15, 3) := by decide +kernel
theorem dX1_far_12 : decode cX1_far 12 = .ok (.lload_n 2, 1) := by decide +kernel
theorem dX1_far_13 : decode cX1_far 13 = .ok (.aload_n 0, 1) := by decide +kernel
theorem dX1_far_14 : decode cX1_far 14 = .ok (.getfield 13, 3) := by decide +kernel
theorem dX1_far_17 : decode cX1_far 17 = .ok (.iload_n 1, 1) := by decide +kernel
theorem dX1_far_18 : decode cX1_far 18 = .ok (.iaload, 1) := by decide +kernel
theorem dX1_far_19 : decode cX1_far 19 = .ok (.i2l, 1) := by decide +kernel
theorem dX1_far_20 : decode cX1_far 20 = .ok (.lsub, 1) := by decide +kernel
theorem dX1_far_21 : decode cX1_far 21 = .ok (.goto 12, 3) := by decide +kernel
theorem dX1_far_24 : decode cX1_far 24 = .ok (.aload_n 0, 1) := by decide +kernel
theorem dX1_far_25 : decode cX1_far 25 = .ok (.getfield 13, 3) := by decide +kernel
theorem dX1_far_28 : decode cX1_far 28 = .ok (.iload_n 1, 1) := by decide +kernel
theorem dX1_far_29 : decode cX1_far 29 = .ok (.iaload, 1) := by decide +kernel
theorem dX1_far_30 : decode cX1_far 30 = .ok (.i2l, 1) := by decide +kernel
theorem dX1_far_31 : decode cX1_far 31 = .ok (.lload_n 2, 1) := by decide +kernel
theorem dX1_far_32 : decode cX1_far 32 = .ok (.lsub, 1) := by decide +kernel
theorem dX1_far_33 : decode cX1_far 33 = .ok (.lstore 6, 2) := by decide +kernel
theorem dX1_far_35 : decode cX1_far 35 = .ok (.aload_n 0, 1) := by decide +kernel
theorem dX1_far_36 : decode cX1_far 36 = .ok (.getfield 17, 3) := by decide +kernel
theorem dX1_far_39 : decode cX1_far 39 = .ok (.iload_n 1, 1) := by decide +kernel
theorem dX1_far_40 : decode cX1_far 40 = .ok (.iaload, 1) := by decide +kernel
theorem dX1_far_41 : decode cX1_far 41 = .ok (.i2l, 1) := by decide +kernel
theorem dX1_far_42 : decode cX1_far 42 = .ok (.lload 4, 2) := by decide +kernel
theorem dX1_far_44 : decode cX1_far 44 = .ok (.lcmp, 1) := by decide +kernel
theorem dX1_far_45 : decode cX1_far 45 = .ok (.ifCond .ge 16, 3) := by decide +kernel
theorem dX1_far_48 : decode cX1_far 48 = .ok (.lload 4, 2) := by decide +kernel
theorem dX1_far_50 : decode cX1_far 50 = .ok (.aload_n 0, 1) := by decide +kernel
theorem dX1_far_51 : decode cX1_far 51 = .ok (.getfield 17, 3) := by decide +kernel
theorem dX1_far_54 : decode cX1_far 54 = .ok (.iload_n 1, 1) := by decide +kernel
theorem dX1_far_55 : decode cX1_far 55 = .ok (.iaload, 1) := by decide +kernel
theorem dX1_far_56 : decode cX1_far 56 = .ok (.i2l, 1) := by decide +kernel
theorem dX1_far_57 : decode cX1_far 57 = .ok (.lsub, 1) := by decide +kernel
theorem dX1_far_58 : decode cX1_far 58 = .ok (.goto 13, 3) := by decide +kernel
theorem dX1_far_61 : decode cX1_far 61 = .ok (.aload_n 0, 1) := by decide +kernel
theorem dX1_far_62 : decode cX1_far 62 = .ok (.getfield 17, 3) := by decide +kernel
theorem dX1_far_65 : decode cX1_far 65 = .ok (.iload_n 1, 1) := by decide +kernel
theorem dX1_far_66 : decode cX1_far 66 = .ok (.iaload, 1) := by decide +kernel
theorem dX1_far_67 : decode cX1_far 67 = .ok (.i2l, 1) := by decide +kernel
theorem dX1_far_68 : decode cX1_far 68 = .ok (.lload 4, 2) := by decide +kernel
theorem dX1_far_70 : decode cX1_far 70 = .ok (.lsub, 1) := by decide +kernel
theorem dX1_far_71 : decode cX1_far 71 = .ok (.lstore 8, 2) := by decide +kernel
theorem dX1_far_73 : decode cX1_far 73 = .ok (.aload_n 0, 1) := by decide +kernel
theorem dX1_far_74 : decode cX1_far 74 = .ok (.getfield 57, 3) := by decide +kernel
theorem dX1_far_77 : decode cX1_far 77 = .ok (.ifCond .ne 17, 3) := by decide +kernel
theorem dX1_far_80 : decode cX1_far 80 = .ok (.lload 6, 2) := by decide +kernel
theorem dX1_far_82 : decode cX1_far 82 = .ok (.lload 6, 2) := by decide +kernel
theorem dX1_far_84 : decode cX1_far 84 = .ok (.lmul, 1) := by decide +kernel
theorem dX1_far_85 : decode cX1_far 85 = .ok (.lload 8, 2) := by decide +kernel
theorem dX1_far_87 : decode cX1_far 87 = .ok (.lload 8, 2) := by decide +kernel
theorem dX1_far_89 : decode cX1_far 89 = .ok (.lmul, 1) := by decide +kernel
theorem dX1_far_90 : decode cX1_far 90 = .ok (.ladd, 1) := by decide +kernel
theorem dX1_far_91 : decode cX1_far 91 = .ok (.goto 34, 3) := by decide +kernel
theorem dX1_far_94 : decode cX1_far 94 = .ok (.aload_n 0, 1) := by decide +kernel
theorem dX1_far_95 : decode cX1_far 95 = .ok (.getfield 57, 3) := by decide +kernel
theorem dX1_far_98 : decode cX1_far 98 = .ok (.iconst 1, 1) := by decide +kernel
theorem dX1_far_99 : decode cX1_far 99 = .ok (.if_icmp .ne 21, 3) := by decide +kernel
theorem dX1_far_102 : decode cX1_far 102 = .ok (.lload 6, 2) := by decide +kernel
theorem dX1_far_104 : decode cX1_far 104 = .ok (.lload 8, 2) := by decide +kernel
theorem dX1_far_106 : decode cX1_far 106 = .ok (.lcmp, 1) := by decide +kernel
theorem dX1_far_107 : decode cX1_far 107 = .ok (.ifCond .le 8, 3) := by decide +kernel
theorem dX1_far_110 : decode cX1_far 110 = .ok (.lload 6, 2) := by decide +kernel
theorem dX1_far_112 : decode cX1_far 112 = .ok (.goto 13, 3) := by decide +kernel
theorem dX1_far_115 : decode cX1_far 115 = .ok (.lload 8, 2) := by decide +kernel
theorem dX1_far_117 : decode cX1_far 117 = .ok (.goto 8, 3) := by decide +kernel
theorem dX1_far_120 : decode cX1_far 120 = .ok (.lload 6, 2) := by decide +kernel
theorem dX1_far_122 : decode cX1_far 122 = .ok (.lload 8, 2) := by decide +kernel
theorem dX1_far_124 : decode cX1_far 124 = .ok (.ladd, 1) := by decide +kernel
theorem dX1_far_125 : decode cX1_far 125 = .ok (.lreturn, 1) := by decide +kernel
theorem dX1_distance_0 : decode cX1_distance 0 = .ok (.aload_n 0, 1) := by decide +kernel
theorem dX1_distance_1 : decode cX1_distance 1 = .ok (.iload_n 1, 1) := by decide +kernel
theorem dX1_distance_2 : decode cX1_distance 2 = .ok (.invokevirtual 49, 3) := by decide +kernel
theorem dX1_distance_5 : decode cX1_distance 5 = .ok (.ifCond .eq 33, 3) := by decide +kernel
theorem dX1_distance_8 : decode cX1_distance 8 = .ok (.aload_n 0, 1) := by decide +kernel
theorem dX1_distance_9 : decode cX1_distance 9 = .ok (.iload_n 2, 1) := by decide +kernel
theorem dX1_distance_10 : decode cX1_distance 10 = .ok (.invokevirtual 49, 3) := by decide +kernel
theorem dX1_distance_13 : decode cX1_distance 13 = .ok (.ifCond .eq 25, 3) := by decide +kernel
theorem dX1_distance_16 : decode cX1_distance 16 = .ok (.aload_n 0, 1) := by decide +kernel
theorem dX1_distance_17 : decode cX1_distance 17 = .ok (.iload_n 1, 1) := by decide +kernel
theorem dX1_distance_18 : decode cX1_distance 18 = .ok (.aload_n 0, 1) := by decide +kernel
theorem dX1_distance_19 : decode cX1_distance 19 = .ok (.getfield 13, 3) := by decide +kernel
theorem dX1_distance_22 : decode cX1_distance 22 = .ok (.iload_n 2, 1) := by decide +kernel
theorem dX1_distance_23 : decode cX1_distance 23 = .ok (.iaload, 1) := by decide +kernel
theorem dX1_distance_24 : decode cX1_distance 24 = .ok (.i2l, 1) := by decide +kernel
theorem dX1_distance_25 : decode cX1_distance 25 = .ok (.aload_n 0, 1) := by decide +kernel
theorem dX1_distance_26 : decode cX1_distance 26 = .ok (.getfield 17, 3) := by decide +kernel
theorem dX1_distance_29 : decode cX1_distance 29 = .ok (.iload_n 2, 1) := by decide +kernel
theorem dX1_distance_30 : decode cX1_distance 30 = .ok (.iaload, 1) := by decide +kernel
theorem dX1_distance_31 : decode cX1_distance 31 = .ok (.i2l, 1) := by decide +kernel
theorem dX1_distance_32 : decode cX1_distance 32 = .ok (.invokevirtual 64, 3) := by decide +kernel
theorem dX1_distance_35 : decode cX1_distance 35 = .ok (.goto 6, 3) := by decide +kernel
theorem dX1_distance_38 : decode cX1_distance 38 = .ok (.ldc2_w 68, 3) := by decide +kernel
theorem dX1_distance_41 : decode cX1_distance 41 = .ok (.lreturn, 1) := by decide +kernel
theorem dX1_weightWithin_0 : decode cX1_weightWithin 0 = .ok (.iconst 0, 1) := by decide +kernel
theorem dX1_weightWithin_1 : decode cX1_weightWithin 1 = .ok (.istore 4, 2) := by decide +kernel
theorem dX1_weightWithin_3 : decode cX1_weightWithin 3 = .ok (.iconst 0, 1) := by decide +kernel
theorem dX1_weightWithin_4 : decode cX1_weightWithin 4 = .ok (.istore 5, 2) := by decide +kernel
theorem dX1_weightWithin_6 : decode cX1_weightWithin 6 = .ok (.iload 5, 2) := by decide +kernel
theorem dX1_weightWithin_8 : decode cX1_weightWithin 8 = .ok (.bipush 120, 2) := by decide +kernel
theorem dX1_weightWithin_10 : decode cX1_weightWithin 10 = .ok (.if_icmp .ge 61, 3) := by decide +kernel
theorem dX1_weightWithin_13 : decode cX1_weightWithin 13 = .ok (.iload 4, 2) := by decide +kernel
theorem dX1_weightWithin_15 : decode cX1_weightWithin 15 = .ok (.aload_n 0, 1) := by decide +kernel
theorem dX1_weightWithin_16 : decode cX1_weightWithin 16 = .ok (.getfield 7, 3) := by decide +kernel
theorem dX1_weightWithin_19 : decode cX1_weightWithin 19 = .ok (.iload 5, 2) := by decide +kernel
theorem dX1_weightWithin_21 : decode cX1_weightWithin 21 = .ok (.baload, 1) := by decide +kernel
theorem dX1_weightWithin_22 : decode cX1_weightWithin 22 = .ok (.ifCond .eq 39, 3) := by decide +kernel
theorem dX1_weightWithin_25 : decode cX1_weightWithin 25 = .ok (.aload_n 0, 1) := by decide +kernel
theorem dX1_weightWithin_26 : decode cX1_weightWithin 26 = .ok (.iload_n 1, 1) := by decide +kernel
theorem dX1_weightWithin_27 : decode cX1_weightWithin 27 = .ok (.aload_n 0, 1) := by decide +kernel
theorem dX1_weightWithin_28 : decode cX1_weightWithin 28 = .ok (.getfield 13, 3) := by decide +kernel
theorem dX1_weightWithin_31 : decode cX1_weightWithin 31 = .ok (.iload 5, 2) := by decide +kernel
theorem dX1_weightWithin_33 : decode cX1_weightWithin 33 = .ok (.iaload, 1) := by decide +kernel
theorem dX1_weightWithin_34 : decode cX1_weightWithin 34 = .ok (.i2l, 1) := by decide +kernel
theorem dX1_weightWithin_35 : decode cX1_weightWithin 35 = .ok (.aload_n 0, 1) := by decide +kernel
theorem dX1_weightWithin_36 : decode cX1_weightWithin 36 = .ok (.getfield 17, 3) := by decide +kernel
theorem dX1_weightWithin_39 : decode cX1_weightWithin 39 = .ok (.iload 5, 2) := by decide +kernel
theorem dX1_weightWithin_41 : decode cX1_weightWithin 41 = .ok (.iaload, 1) := by decide +kernel
theorem dX1_weightWithin_42 : decode cX1_weightWithin 42 = .ok (.i2l, 1) := by decide +kernel
theorem dX1_weightWithin_43 : decode cX1_weightWithin 43 = .ok (.invokevirtual 64, 3) := by decide +kernel
theorem dX1_weightWithin_46 : decode cX1_weightWithin 46 = .ok (.lload_n 2, 1) := by decide +kernel
theorem dX1_weightWithin_47 : decode cX1_weightWithin 47 = .ok (.lcmp, 1) := by decide +kernel
theorem dX1_weightWithin_48 : decode cX1_weightWithin 48 = .ok (.ifCond .gt 13, 3) := by decide +kernel
theorem dX1_weightWithin_51 : decode cX1_weightWithin 51 = .ok (.aload_n 0, 1) := by decide +kernel
theorem dX1_weightWithin_52 : decode cX1_weightWithin 52 = .ok (.getfield 20, 3) := by decide +kernel
theorem dX1_weightWithin_55 : decode cX1_weightWithin 55 = .ok (.iload 5, 2) := by decide +kernel
theorem dX1_weightWithin_57 : decode cX1_weightWithin 57 = .ok (.iaload, 1) := by decide +kernel
theorem dX1_weightWithin_58 : decode cX1_weightWithin 58 = .ok (.goto 4, 3) := by decide +kernel
theorem dX1_weightWithin_61 : decode cX1_weightWithin 61 = .ok (.iconst 0, 1) := by decide +kernel
theorem dX1_weightWithin_62 : decode cX1_weightWithin 62 = .ok (.iadd, 1) := by decide +kernel
theorem dX1_weightWithin_63 : decode cX1_weightWithin 63 = .ok (.istore 4, 2) := by decide +kernel
theorem dX1_weightWithin_65 : decode cX1_weightWithin 65 = .ok (.iinc 5 1, 3) := by decide +kernel
theorem dX1_weightWithin_68 : decode cX1_weightWithin 68 = .ok (.goto (-62), 3) := by decide +kernel
theorem dX1_weightWithin_71 : decode cX1_weightWithin 71 = .ok (.iload 4, 2) := by decide +kernel
theorem dX1_weightWithin_73 : decode cX1_weightWithin 73 = .ok (.ireturn, 1) := by decide +kernel
theorem dX1_find_0 : decode cX1_find 0 = .ok (.aload_n 0, 1) := by decide +kernel
theorem dX1_find_1 : decode cX1_find 1 = .ok (.iconst 0, 1) := by decide +kernel
theorem dX1_find_2 : decode cX1_find 2 = .ok (.putfield 70, 3) := by decide +kernel
theorem dX1_find_5 : decode cX1_find 5 = .ok (.iconst 0, 1) := by decide +kernel
theorem dX1_find_6 : decode cX1_find 6 = .ok (.istore_n 3, 1) := by decide +kernel
theorem dX1_find_7 : decode cX1_find 7 = .ok (.iload_n 3, 1) := by decide +kernel
theorem dX1_find_8 : decode cX1_find 8 = .ok (.bipush 120, 2) := by decide +kernel
theorem dX1_find_10 : decode cX1_find 10 = .ok (.if_icmp .ge 49, 3) := by decide +kernel
theorem dX1_find_13 : decode cX1_find 13 = .ok (.aload_n 0, 1) := by decide +kernel
theorem dX1_find_14 : decode cX1_find 14 = .ok (.getfield 27, 3) := by decide +kernel
theorem dX1_find_17 : decode cX1_find 17 = .ok (.iload_n 3, 1) := by decide +kernel
theorem dX1_find_18 : decode cX1_find 18 = .ok (.aload_n 0, 1) := by decide +kernel
theorem dX1_find_19 : decode cX1_find 19 = .ok (.getfield 7, 3) := by decide +kernel
theorem dX1_find_22 : decode cX1_find 22 = .ok (.iload_n 3, 1) := by decide +kernel
theorem dX1_find_23 : decode cX1_find 23 = .ok (.baload, 1) := by decide +kernel
theorem dX1_find_24 : decode cX1_find 24 = .ok (.ifCond .eq 20, 3) := by decide +kernel
theorem dX1_find_27 : decode cX1_find 27 = .ok (.aload_n 0, 1) := by decide +kernel
theorem dX1_find_28 : decode cX1_find 28 = .ok (.iload_n 3, 1) := by decide +kernel
theorem dX1_find_29 : decode cX1_find 29 = .ok (.lload_n 1, 1) := by decide +kernel
theorem dX1_find_30 : decode cX1_find 30 = .ok (.invokevirtual 73, 3) := by decide +kernel
theorem dX1_find_33 : decode cX1_find 33 = .ok (.aload_n 0, 1) := by decide +kernel
theorem dX1_find_34 : decode cX1_find 34 = .ok (.getfield 23, 3) := by decide +kernel
theorem dX1_find_37 : decode cX1_find 37 = .ok (.if_icmp .lt 7, 3) := by decide +kernel
theorem dX1_find_40 : decode cX1_find 40 = .ok (.iconst 1, 1) := by decide +kernel
theorem dX1_find_41 : decode cX1_find 41 = .ok (.goto 4, 3) := by decide +kernel
theorem dX1_find_44 : decode cX1_find 44 = .ok (.iconst 0, 1) := by decide +kernel
theorem dX1_find_45 : decode cX1_find 45 = .ok (.bastore, 1) := by decide +kernel
theorem dX1_find_46 : decode cX1_find 46 = .ok (.aload_n 0, 1) := by decide +kernel
theorem dX1_find_47 : decode cX1_find 47 = .ok (.getfield 30, 3) := by decide +kernel
theorem dX1_find_50 : decode cX1_find 50 = .ok (.iload_n 3, 1) := by decide +kernel
theorem dX1_find_51 : decode cX1_find 51 = .ok (.iconst (-1), 1) := by decide +kernel
theorem dX1_find_52 : decode cX1_find 52 = .ok (.iastore, 1) := by decide +kernel
theorem dX1_find_53 : decode cX1_find 53 = .ok (.iinc 3 1, 3) := by decide +kernel
theorem dX1_find_56 : decode cX1_find 56 = .ok (.goto (-49), 3) := by decide +kernel
theorem dX1_find_59 : decode cX1_find 59 = .ok (.iconst 0, 1) := by decide +kernel
theorem dX1_find_60 : decode cX1_find 60 = .ok (.istore_n 3, 1) := by decide +kernel
theorem dX1_find_61 : decode cX1_find 61 = .ok (.iload_n 3, 1) := by decide +kernel
theorem dX1_find_62 : decode cX1_find 62 = .ok (.bipush 120, 2) := by decide +kernel
theorem dX1_find_64 : decode cX1_find 64 = .ok (.if_icmp .ge 116, 3) := by decide +kernel
theorem dX1_find_67 : decode cX1_find 67 = .ok (.aload_n 0, 1) := by decide +kernel
theorem dX1_find_68 : decode cX1_find 68 = .ok (.getfield 27, 3) := by decide +kernel
theorem dX1_find_71 : decode cX1_find 71 = .ok (.iload_n 3, 1) := by decide +kernel
theorem dX1_find_72 : decode cX1_find 72 = .ok (.baload, 1) := by decide +kernel
theorem dX1_find_73 : decode cX1_find 73 = .ok (.ifCond .eq 101, 3) := by decide +kernel
theorem dX1_find_76 : decode cX1_find 76 = .ok (.aload_n 0, 1) := by decide +kernel
theorem dX1_find_77 : decode cX1_find 77 = .ok (.getfield 30, 3) := by decide +kernel
theorem dX1_find_80 : decode cX1_find 80 = .ok (.iload_n 3, 1) := by decide +kernel
theorem dX1_find_81 : decode cX1_find 81 = .ok (.iaload, 1) := by decide +kernel
theorem dX1_find_82 : decode cX1_find 82 = .ok (.ifCond .lt 6, 3) := by decide +kernel
theorem dX1_find_85 : decode cX1_find 85 = .ok (.goto 89, 3) := by decide +kernel
theorem dX1_find_88 : decode cX1_find 88 = .ok (.aload_n 0, 1) := by decide +kernel
theorem dX1_find_89 : decode cX1_find 89 = .ok (.getfield 30, 3) := by decide +kernel
theorem dX1_find_92 : decode cX1_find 92 = .ok (.iload_n 3, 1) := by decide +kernel
theorem dX1_find_93 : decode cX1_find 93 = .ok (.aload_n 0, 1) := by decide +kernel
theorem dX1_find_94 : decode cX1_find 94 = .ok (.getfield 70, 3) := by decide +kernel
theorem dX1_find_97 : decode cX1_find 97 = .ok (.iastore, 1) := by decide +kernel
theorem dX1_find_98 : decode cX1_find 98 = .ok (.iconst 1, 1) := by decide +kernel
theorem dX1_find_99 : decode cX1_find 99 = .ok (.istore 4, 2) := by decide +kernel
theorem dX1_find_101 : decode cX1_find 101 = .ok (.iload 4, 2) := by decide +kernel
theorem dX1_find_103 : decode cX1_find 103 = .ok (.ifCond .eq 61, 3) := by decide +kernel
theorem dX1_find_106 : decode cX1_find 106 = .ok (.iconst 0, 1) := by decide +kernel
theorem dX1_find_107 : decode cX1_find 107 = .ok (.istore 4, 2) := by decide +kernel
theorem dX1_find_109 : decode cX1_find 109 = .ok (.iconst 0, 1) := by decide +kernel
theorem dX1_find_110 : decode cX1_find 110 = .ok (.istore 5, 2) := by decide +kernel
theorem dX1_find_112 : decode cX1_find 112 = .ok (.iload 5, 2) := by decide +kernel
theorem dX1_find_114 : decode cX1_find 114 = .ok (.bipush 120, 2) := by decide +kernel
theorem dX1_find_116 : decode cX1_find 116 = .ok (.if_icmp .ge 45, 3) := by decide +kernel
theorem dX1_find_119 : decode cX1_find 119 = .ok (.aload_n 0, 1) := by decide +kernel
theorem dX1_find_120 : decode cX1_find 120 = .ok (.getfield 30, 3) := by decide +kernel
theorem dX1_find_123 : decode cX1_find 123 = .ok (.iload 5, 2) := by decide +kernel
theorem dX1_find_125 : decode cX1_find 125 = .ok (.iaload, 1) := by decide +kernel
theorem dX1_find_126 : decode cX1_find 126 = .ok (.aload_n 0, 1) := by decide +kernel
theorem dX1_find_127 : decode cX1_find 127 = .ok (.getfield 70, 3) := by decide +kernel
theorem dX1_find_130 : decode cX1_find 130 = .ok (.if_icmp .ne 13, 3) := by decide +kernel
theorem dX1_find_133 : decode cX1_find 133 = .ok (.aload_n 0, 1) := by decide +kernel
theorem dX1_find_134 : decode cX1_find 134 = .ok (.iload 5, 2) := by decide +kernel
theorem dX1_find_136 : decode cX1_find 136 = .ok (.lload_n 1, 1) := by decide +kernel
theorem dX1_find_137 : decode cX1_find 137 = .ok (.invokevirtual 77, 3) := by decide +kernel
theorem dX1_find_140 : decode cX1_find 140 = .ok (.ifCond .ne 8, 3) := by decide +kernel
theorem dX1_find_143 : decode cX1_find 143 = .ok (.iload 4, 2) := by decide +kernel
theorem dX1_find_145 : decode cX1_find 145 = .ok (.ifCond .eq 7, 3) := by decide +kernel
theorem dX1_find_148 : decode cX1_find 148 = .ok (.iconst 1, 1) := by decide +kernel
theorem dX1_find_149 : decode cX1_find 149 = .ok (.goto 4, 3) := by decide +kernel
theorem dX1_find_152 : decode cX1_find 152 = .ok (.iconst 0, 1) := by decide +kernel
theorem dX1_find_153 : decode cX1_find 153 = .ok (.istore 4, 2) := by decide +kernel
theorem dX1_find_155 : decode cX1_find 155 = .ok (.iinc 5 1, 3) := by decide +kernel
theorem dX1_find_158 : decode cX1_find 158 = .ok (.goto (-46), 3) := by decide +kernel
theorem dX1_find_161 : decode cX1_find 161 = .ok (.goto (-60), 3) := by decide +kernel
theorem dX1_find_164 : decode cX1_find 164 = .ok (.aload_n 0, 1) := by decide +kernel
theorem dX1_find_165 : decode cX1_find 165 = .ok (.dup, 1) := by decide +kernel
theorem dX1_find_166 : decode cX1_find 166 = .ok (.getfield 70, 3) := by decide +kernel
theorem dX1_find_169 : decode cX1_find 169 = .ok (.iconst 1, 1) := by decide +kernel
theorem dX1_find_170 : decode cX1_find 170 = .ok (.iadd, 1) := by decide +kernel
theorem dX1_find_171 : decode cX1_find 171 = .ok (.putfield 70, 3) := by decide +kernel
theorem dX1_find_174 : decode cX1_find 174 = .ok (.iinc 3 1, 3) := by decide +kernel
theorem dX1_find_177 : decode cX1_find 177 = .ok (.goto (-116), 3) := by decide +kernel
theorem dX1_find_180 : decode cX1_find 180 = .ok (.iconst 0, 1) := by decide +kernel
theorem dX1_find_181 : decode cX1_find 181 = .ok (.istore_n 3, 1) := by decide +kernel
theorem dX1_find_182 : decode cX1_find 182 = .ok (.iload_n 3, 1) := by decide +kernel
theorem dX1_find_183 : decode cX1_find 183 = .ok (.bipush 120, 2) := by decide +kernel
theorem dX1_find_185 : decode cX1_find 185 = .ok (.if_icmp .ge 50, 3) := by decide +kernel
theorem dX1_find_188 : decode cX1_find 188 = .ok (.aload_n 0, 1) := by decide +kernel
theorem dX1_find_189 : decode cX1_find 189 = .ok (.getfield 7, 3) := by decide +kernel
theorem dX1_find_192 : decode cX1_find 192 = .ok (.iload_n 3, 1) := by decide +kernel
theorem dX1_find_193 : decode cX1_find 193 = .ok (.baload, 1) := by decide +kernel
theorem dX1_find_194 : decode cX1_find 194 = .ok (.ifCond .eq 35, 3) := by decide +kernel
theorem dX1_find_197 : decode cX1_find 197 = .ok (.aload_n 0, 1) := by decide +kernel
theorem dX1_find_198 : decode cX1_find 198 = .ok (.getfield 27, 3) := by decide +kernel
theorem dX1_find_201 : decode cX1_find 201 = .ok (.iload_n 3, 1) := by decide +kernel
theorem dX1_find_202 : decode cX1_find 202 = .ok (.baload, 1) := by decide +kernel
theorem dX1_find_203 : decode cX1_find 203 = .ok (.ifCond .ne 26, 3) := by decide +kernel
theorem dX1_find_206 : decode cX1_find 206 = .ok (.aload_n 0, 1) := by decide +kernel
theorem dX1_find_207 : decode cX1_find 207 = .ok (.getfield 30, 3) := by decide +kernel
theorem dX1_find_210 : decode cX1_find 210 = .ok (.iload_n 3, 1) := by decide +kernel
theorem dX1_find_211 : decode cX1_find 211 = .ok (.aload_n 0, 1) := by decide +kernel
theorem dX1_find_212 : decode cX1_find 212 = .ok (.aload_n 0, 1) := by decide +kernel
theorem dX1_find_213 : decode cX1_find 213 = .ok (.getfield 13, 3) := by decide +kernel
theorem dX1_find_216 : decode cX1_find 216 = .ok (.iload_n 3, 1) := by decide +kernel
theorem dX1_find_217 : decode cX1_find 217 = .ok (.iaload, 1) := by decide +kernel
theorem dX1_find_218 : decode cX1_find 218 = .ok (.aload_n 0, 1) := by decide +kernel
theorem dX1_find_219 : decode cX1_find 219 = .ok (.getfield 17, 3) := by decide +kernel
theorem dX1_find_222 : decode cX1_find 222 = .ok (.iload_n 3, 1) := by decide +kernel
theorem dX1_find_223 : decode cX1_find 223 = .ok (.iaload, 1) := by decide +kernel
theorem dX1_find_224 : decode cX1_find 224 = .ok (.lload_n 1, 1) := by decide +kernel
theorem dX1_find_225 : decode cX1_find 225 = .ok (.invokevirtual 81, 3) := by decide +kernel
theorem dX1_find_228 : decode cX1_find 228 = .ok (.iastore, 1) := by decide +kernel
theorem dX1_find_229 : decode cX1_find 229 = .ok (.iinc 3 1, 3) := by decide +kernel
theorem dX1_find_232 : decode cX1_find 232 = .ok (.goto (-50), 3) := by decide +kernel
theorem dX1_find_235 : decode cX1_find 235 = .ok (.return_, 1) := by decide +kernel
theorem dX1_spread_0 : decode cX1_spread 0 = .ok (.iconst 0, 1) := by decide +kernel
theorem dX1_spread_1 : decode cX1_spread 1 = .ok (.istore 4, 2) := by decide +kernel
theorem dX1_spread_3 : decode cX1_spread 3 = .ok (.iconst 0, 1) := by decide +kernel
theorem dX1_spread_4 : decode cX1_spread 4 = .ok (.istore 5, 2) := by decide +kernel
theorem dX1_spread_6 : decode cX1_spread 6 = .ok (.iload 5, 2) := by decide +kernel
theorem dX1_spread_8 : decode cX1_spread 8 = .ok (.bipush 120, 2) := by decide +kernel
theorem dX1_spread_10 : decode cX1_spread 10 = .ok (.if_icmp .ge 72, 3) := by decide +kernel
theorem dX1_spread_13 : decode cX1_spread 13 = .ok (.aload_n 0, 1) := by decide +kernel
theorem dX1_spread_14 : decode cX1_spread 14 = .ok (.getfield 27, 3) := by decide +kernel
theorem dX1_spread_17 : decode cX1_spread 17 = .ok (.iload 5, 2) := by decide +kernel
theorem dX1_spread_19 : decode cX1_spread 19 = .ok (.baload, 1) := by decide +kernel
theorem dX1_spread_20 : decode cX1_spread 20 = .ok (.ifCond .eq 56, 3) := by decide +kernel
theorem dX1_spread_23 : decode cX1_spread 23 = .ok (.aload_n 0, 1) := by decide +kernel
theorem dX1_spread_24 : decode cX1_spread 24 = .ok (.getfield 30, 3) := by decide +kernel
theorem dX1_spread_27 : decode cX1_spread 27 = .ok (.iload 5, 2) := by decide +kernel
theorem dX1_spread_29 : decode cX1_spread 29 = .ok (.iaload, 1) := by decide +kernel
theorem dX1_spread_30 : decode cX1_spread 30 = .ok (.ifCond .ge 46, 3) := by decide +kernel
theorem dX1_spread_33 : decode cX1_spread 33 = .ok (.aload_n 0, 1) := by decide +kernel
theorem dX1_spread_34 : decode cX1_spread 34 = .ok (.iload_n 1, 1) := by decide +kernel
theorem dX1_spread_35 : decode cX1_spread 35 = .ok (.aload_n 0, 1) := by decide +kernel
theorem dX1_spread_36 : decode cX1_spread 36 = .ok (.getfield 13, 3) := by decide +kernel
theorem dX1_spread_39 : decode cX1_spread 39 = .ok (.iload 5, 2) := by decide +kernel
theorem dX1_spread_41 : decode cX1_spread 41 = .ok (.iaload, 1) := by decide +kernel
theorem dX1_spread_42 : decode cX1_spread 42 = .ok (.i2l, 1) := by decide +kernel
theorem dX1_spread_43 : decode cX1_spread 43 = .ok (.aload_n 0, 1) := by decide +kernel
theorem dX1_spread_44 : decode cX1_spread 44 = .ok (.getfield 17, 3) := by decide +kernel
theorem dX1_spread_47 : decode cX1_spread 47 = .ok (.iload 5, 2) := by decide +kernel
theorem dX1_spread_49 : decode cX1_spread 49 = .ok (.iaload, 1) := by decide +kernel
theorem dX1_spread_50 : decode cX1_spread 50 = .ok (.i2l, 1) := by decide +kernel
theorem dX1_spread_51 : decode cX1_spread 51 = .ok (.invokevirtual 64, 3) := by decide +kernel
theorem dX1_spread_54 : decode cX1_spread 54 = .ok (.lload_n 2, 1) := by decide +kernel
theorem dX1_spread_55 : decode cX1_spread 55 = .ok (.lcmp, 1) := by decide +kernel
theorem dX1_spread_56 : decode cX1_spread 56 = .ok (.ifCond .le 6, 3) := by decide +kernel
theorem dX1_spread_59 : decode cX1_spread 59 = .ok (.goto 17, 3) := by decide +kernel
theorem dX1_spread_62 : decode cX1_spread 62 = .ok (.aload_n 0, 1) := by decide +kernel
theorem dX1_spread_63 : decode cX1_spread 63 = .ok (.getfield 30, 3) := by decide +kernel
theorem dX1_spread_66 : decode cX1_spread 66 = .ok (.iload 5, 2) := by decide +kernel
theorem dX1_spread_68 : decode cX1_spread 68 = .ok (.aload_n 0, 1) := by decide +kernel
theorem dX1_spread_69 : decode cX1_spread 69 = .ok (.getfield 70, 3) := by decide +kernel
theorem dX1_spread_72 : decode cX1_spread 72 = .ok (.iastore, 1) := by decide +kernel
theorem dX1_spread_73 : decode cX1_spread 73 = .ok (.iconst 1, 1) := by decide +kernel
theorem dX1_spread_74 : decode cX1_spread 74 = .ok (.istore 4, 2) := by decide +kernel
theorem dX1_spread_76 : decode cX1_spread 76 = .ok (.iinc 5 1, 3) := by decide +kernel
theorem dX1_spread_79 : decode cX1_spread 79 = .ok (.goto (-73), 3) := by decide +kernel
theorem dX1_spread_82 : decode cX1_spread 82 = .ok (.iload 4, 2) := by decide +kernel
theorem dX1_spread_84 : decode cX1_spread 84 = .ok (.ireturn, 1) := by decide +kernel
theorem dX1_least_0 : decode cX1_least 0 = .ok (.iconst (-1), 1) := by decide +kernel
theorem dX1_least_1 : decode cX1_least 1 = .ok (.istore 5, 2) := by decide +kernel
theorem dX1_least_3 : decode cX1_least 3 = .ok (.iconst 0, 1) := by decide +kernel
theorem dX1_least_4 : decode cX1_least 4 = .ok (.istore 6, 2) := by decide +kernel
theorem dX1_least_6 : decode cX1_least 6 = .ok (.iload 6, 2) := by decide +kernel
theorem dX1_least_8 : decode cX1_least 8 = .ok (.bipush 120, 2) := by decide +kernel
theorem dX1_least_10 : decode cX1_least 10 = .ok (.if_icmp .ge 60, 3) := by decide +kernel
theorem dX1_least_13 : decode cX1_least 13 = .ok (.aload_n 0, 1) := by decide +kernel
theorem dX1_least_14 : decode cX1_least 14 = .ok (.getfield 27, 3) := by decide +kernel
theorem dX1_least_17 : decode cX1_least 17 = .ok (.iload 6, 2) := by decide +kernel
theorem dX1_least_19 : decode cX1_least 19 = .ok (.baload, 1) := by decide +kernel
theorem dX1_least_20 : decode cX1_least 20 = .ok (.ifCond .eq 44, 3) := by decide +kernel
theorem dX1_least_23 : decode cX1_least 23 = .ok (.aload_n 0, 1) := by decide +kernel
theorem dX1_least_24 : decode cX1_least 24 = .ok (.iload 6, 2) := by decide +kernel
theorem dX1_least_26 : decode cX1_least 26 = .ok (.iload_n 1, 1) := by decide +kernel
theorem dX1_least_27 : decode cX1_least 27 = .ok (.i2l, 1) := by decide +kernel
theorem dX1_least_28 : decode cX1_least 28 = .ok (.iload_n 2, 1) := by decide +kernel
theorem dX1_least_29 : decode cX1_least 29 = .ok (.i2l, 1) := by decide +kernel
theorem dX1_least_30 : decode cX1_least 30 = .ok (.invokevirtual 64, 3) := by decide +kernel
theorem dX1_least_33 : decode cX1_least 33 = .ok (.lload_n 3, 1) := by decide +kernel
theorem dX1_least_34 : decode cX1_least 34 = .ok (.lcmp, 1) := by decide +kernel
theorem dX1_least_35 : decode cX1_least 35 = .ok (.ifCond .gt 29, 3) := by decide +kernel
theorem dX1_least_38 : decode cX1_least 38 = .ok (.iload 5, 2) := by decide +kernel
theorem dX1_least_40 : decode cX1_least 40 = .ok (.ifCond .lt 15, 3) := by decide +kernel
theorem dX1_least_43 : decode cX1_least 43 = .ok (.aload_n 0, 1) := by decide +kernel
theorem dX1_least_44 : decode cX1_least 44 = .ok (.getfield 30, 3) := by decide +kernel
theorem dX1_least_47 : decode cX1_least 47 = .ok (.iload 6, 2) := by decide +kernel
theorem dX1_least_49 : decode cX1_least 49 = .ok (.iaload, 1) := by decide +kernel
theorem dX1_least_50 : decode cX1_least 50 = .ok (.iload 5, 2) := by decide +kernel
theorem dX1_least_52 : decode cX1_least 52 = .ok (.if_icmp .ge 12, 3) := by decide +kernel
theorem dX1_least_55 : decode cX1_least 55 = .ok (.aload_n 0, 1) := by decide +kernel
theorem dX1_least_56 : decode cX1_least 56 = .ok (.getfield 30, 3) := by decide +kernel
theorem dX1_least_59 : decode cX1_least 59 = .ok (.iload 6, 2) := by decide +kernel
theorem dX1_least_61 : decode cX1_least 61 = .ok (.iaload, 1) := by decide +kernel
theorem dX1_least_62 : decode cX1_least 62 = .ok (.istore 5, 2) := by decide +kernel
theorem dX1_least_64 : decode cX1_least 64 = .ok (.iinc 6 1, 3) := by decide +kernel
theorem dX1_least_67 : decode cX1_least 67 = .ok (.goto (-61), 3) := by decide +kernel
theorem dX1_least_70 : decode cX1_least 70 = .ok (.iload 5, 2) := by decide +kernel
theorem dX1_least_72 : decode cX1_least 72 = .ok (.ireturn, 1) := by decide +kernel
theorem dX1_kind_0 : decode cX1_kind 0 = .ok (.aload_n 0, 1) := by decide +kernel
theorem dX1_kind_1 : decode cX1_kind 1 = .ok (.iload_n 1, 1) := by decide +kernel
theorem dX1_kind_2 : decode cX1_kind 2 = .ok (.invokevirtual 49, 3) := by decide +kernel
theorem dX1_kind_5 : decode cX1_kind 5 = .ok (.ifCond .ne 5, 3) := by decide +kernel
theorem dX1_kind_8 : decode cX1_kind 8 = .ok (.iconst (-1), 1) := by decide +kernel
theorem dX1_kind_9 : decode cX1_kind 9 = .ok (.ireturn, 1) := by decide +kernel
theorem dX1_kind_10 : decode cX1_kind 10 = .ok (.aload_n 0, 1) := by decide +kernel
theorem dX1_kind_11 : decode cX1_kind 11 = .ok (.aload_n 0, 1) := by decide +kernel
theorem dX1_kind_12 : decode cX1_kind 12 = .ok (.getfield 60, 3) := by decide +kernel
theorem dX1_kind_15 : decode cX1_kind 15 = .ok (.invokevirtual 85, 3) := by decide +kernel
theorem dX1_kind_18 : decode cX1_kind 18 = .ok (.aload_n 0, 1) := by decide +kernel
theorem dX1_kind_19 : decode cX1_kind 19 = .ok (.getfield 27, 3) := by decide +kernel
theorem dX1_kind_22 : decode cX1_kind 22 = .ok (.iload_n 1, 1) := by decide +kernel
theorem dX1_kind_23 : decode cX1_kind 23 = .ok (.baload, 1) := by decide +kernel
theorem dX1_kind_24 : decode cX1_kind 24 = .ok (.ifCond .eq 7, 3) := by decide +kernel
theorem dX1_kind_27 : decode cX1_kind 27 = .ok (.iconst 2, 1) := by decide +kernel
theorem dX1_kind_28 : decode cX1_kind 28 = .ok (.goto 17, 3) := by decide +kernel
theorem dX1_kind_31 : decode cX1_kind 31 = .ok (.aload_n 0, 1) := by decide +kernel
theorem dX1_kind_32 : decode cX1_kind 32 = .ok (.getfield 30, 3) := by decide +kernel
theorem dX1_kind_35 : decode cX1_kind 35 = .ok (.iload_n 1, 1) := by decide +kernel
theorem dX1_kind_36 : decode cX1_kind 36 = .ok (.iaload, 1) := by decide +kernel
theorem dX1_kind_37 : decode cX1_kind 37 = .ok (.ifCond .lt 7, 3) := by decide +kernel
theorem dX1_kind_40 : decode cX1_kind 40 = .ok (.iconst 1, 1) := by decide +kernel
theorem dX1_kind_41 : decode cX1_kind 41 = .ok (.goto 4, 3) := by decide +kernel
theorem dX1_kind_44 : decode cX1_kind 44 = .ok (.iconst 0, 1) := by decide +kernel
theorem dX1_kind_45 : decode cX1_kind 45 = .ok (.ireturn, 1) := by decide +kernel
theorem dX1_crowd_0 : decode cX1_crowd 0 = .ok (.aload_n 0, 1) := by decide +kernel
theorem dX1_crowd_1 : decode cX1_crowd 1 = .ok (.iload_n 1, 1) := by decide +kernel
theorem dX1_crowd_2 : decode cX1_crowd 2 = .ok (.invokevirtual 49, 3) := by decide +kernel
theorem dX1_crowd_5 : decode cX1_crowd 5 = .ok (.ifCond .ne 5, 3) := by decide +kernel
theorem dX1_crowd_8 : decode cX1_crowd 8 = .ok (.iconst (-1), 1) := by decide +kernel
theorem dX1_crowd_9 : decode cX1_crowd 9 = .ok (.ireturn, 1) := by decide +kernel
theorem dX1_crowd_10 : decode cX1_crowd 10 = .ok (.aload_n 0, 1) := by decide +kernel
theorem dX1_crowd_11 : decode cX1_crowd 11 = .ok (.aload_n 0, 1) := by decide +kernel
theorem dX1_crowd_12 : decode cX1_crowd 12 = .ok (.getfield 60, 3) := by decide +kernel
theorem dX1_crowd_15 : decode cX1_crowd 15 = .ok (.invokevirtual 85, 3) := by decide +kernel
theorem dX1_crowd_18 : decode cX1_crowd 18 = .ok (.aload_n 0, 1) := by decide +kernel
theorem dX1_crowd_19 : decode cX1_crowd 19 = .ok (.getfield 30, 3) := by decide +kernel
theorem dX1_crowd_22 : decode cX1_crowd 22 = .ok (.iload_n 1, 1) := by decide +kernel
theorem dX1_crowd_23 : decode cX1_crowd 23 = .ok (.iaload, 1) := by decide +kernel
theorem dX1_crowd_24 : decode cX1_crowd 24 = .ok (.ireturn, 1) := by decide +kernel
theorem dX1_count_0 : decode cX1_count 0 = .ok (.iload_n 1, 1) := by decide +kernel
theorem dX1_count_1 : decode cX1_count 1 = .ok (.ifCond .lt 8, 3) := by decide +kernel
theorem dX1_count_4 : decode cX1_count 4 = .ok (.iload_n 1, 1) := by decide +kernel
theorem dX1_count_5 : decode cX1_count 5 = .ok (.iconst 5, 1) := by decide +kernel
theorem dX1_count_6 : decode cX1_count 6 = .ok (.if_icmp .le 5, 3) := by decide +kernel
theorem dX1_count_9 : decode cX1_count 9 = .ok (.iconst (-1), 1) := by decide +kernel
theorem dX1_count_10 : decode cX1_count 10 = .ok (.ireturn, 1) := by decide +kernel
theorem dX1_count_11 : decode cX1_count 11 = .ok (.aload_n 0, 1) := by decide +kernel
theorem dX1_count_12 : decode cX1_count 12 = .ok (.aload_n 0, 1) := by decide +kernel
theorem dX1_count_13 : decode cX1_count 13 = .ok (.getfield 60, 3) := by decide +kernel
theorem dX1_count_16 : decode cX1_count 16 = .ok (.invokevirtual 85, 3) := by decide +kernel
theorem dX1_count_19 : decode cX1_count 19 = .ok (.iconst 0, 1) := by decide +kernel
theorem dX1_count_20 : decode cX1_count 20 = .ok (.istore_n 2, 1) := by decide +kernel
theorem dX1_count_21 : decode cX1_count 21 = .ok (.iconst 0, 1) := by decide +kernel
theorem dX1_count_22 : decode cX1_count 22 = .ok (.istore_n 3, 1) := by decide +kernel
theorem dX1_count_23 : decode cX1_count 23 = .ok (.iconst 0, 1) := by decide +kernel
theorem dX1_count_24 : decode cX1_count 24 = .ok (.istore 4, 2) := by decide +kernel
theorem dX1_count_26 : decode cX1_count 26 = .ok (.iconst 0, 1) := by decide +kernel
theorem dX1_count_27 : decode cX1_count 27 = .ok (.istore 5, 2) := by decide +kernel
theorem dX1_count_29 : decode cX1_count 29 = .ok (.iload 5, 2) := by decide +kernel
theorem dX1_count_31 : decode cX1_count 31 = .ok (.bipush 120, 2) := by decide +kernel
theorem dX1_count_33 : decode cX1_count 33 = .ok (.if_icmp .ge 80, 3) := by decide +kernel
theorem dX1_count_36 : decode cX1_count 36 = .ok (.aload_n 0, 1) := by decide +kernel
theorem dX1_count_37 : decode cX1_count 37 = .ok (.getfield 7, 3) := by decide +kernel
theorem dX1_count_40 : decode cX1_count 40 = .ok (.iload 5, 2) := by decide +kernel
theorem dX1_count_42 : decode cX1_count 42 = .ok (.baload, 1) := by decide +kernel
theorem dX1_count_43 : decode cX1_count 43 = .ok (.ifCond .ne 6, 3) := by decide +kernel
theorem dX1_count_46 : decode cX1_count 46 = .ok (.goto 61, 3) := by decide +kernel
theorem dX1_count_49 : decode cX1_count 49 = .ok (.iload_n 2, 1) := by decide +kernel
theorem dX1_count_50 : decode cX1_count 50 = .ok (.aload_n 0, 1) := by decide +kernel
theorem dX1_count_51 : decode cX1_count 51 = .ok (.getfield 27, 3) := by decide +kernel
theorem dX1_count_54 : decode cX1_count 54 = .ok (.iload 5, 2) := by decide +kernel
theorem dX1_count_56 : decode cX1_count 56 = .ok (.baload, 1) := by decide +kernel
theorem dX1_count_57 : decode cX1_count 57 = .ok (.ifCond .eq 7, 3) := by decide +kernel
theorem dX1_count_60 : decode cX1_count 60 = .ok (.iconst 1, 1) := by decide +kernel
theorem dX1_count_61 : decode cX1_count 61 = .ok (.goto 4, 3) := by decide +kernel
theorem dX1_count_64 : decode cX1_count 64 = .ok (.iconst 0, 1) := by decide +kernel
theorem dX1_count_65 : decode cX1_count 65 = .ok (.iadd, 1) := by decide +kernel
theorem dX1_count_66 : decode cX1_count 66 = .ok (.istore_n 2, 1) := by decide +kernel
theorem dX1_count_67 : decode cX1_count 67 = .ok (.iload_n 3, 1) := by decide +kernel
theorem dX1_count_68 : decode cX1_count 68 = .ok (.aload_n 0, 1) := by decide +kernel
theorem dX1_count_69 : decode cX1_count 69 = .ok (.getfield 27, 3) := by decide +kernel
theorem dX1_count_72 : decode cX1_count 72 = .ok (.iload 5, 2) := by decide +kernel
theorem dX1_count_74 : decode cX1_count 74 = .ok (.baload, 1) := by decide +kernel
theorem dX1_count_75 : decode cX1_count 75 = .ok (.ifCond .ne 17, 3) := by decide +kernel
theorem dX1_count_78 : decode cX1_count 78 = .ok (.aload_n 0, 1) := by decide +kernel
theorem dX1_count_79 : decode cX1_count 79 = .ok (.getfield 30, 3) := by decide +kernel
theorem dX1_count_82 : decode cX1_count 82 = .ok (.iload 5, 2) := by decide +kernel
theorem dX1_count_84 : decode cX1_count 84 = .ok (.iaload, 1) := by decide +kernel
theorem dX1_count_85 : decode cX1_count 85 = .ok (.ifCond .lt 7, 3) := by decide +kernel
theorem dX1_count_88 : decode cX1_count 88 = .ok (.iconst 1, 1) := by decide +kernel
theorem dX1_count_89 : decode cX1_count 89 = .ok (.goto 4, 3) := by decide +kernel
theorem dX1_count_92 : decode cX1_count 92 = .ok (.iconst 0, 1) := by decide +kernel
theorem dX1_count_93 : decode cX1_count 93 = .ok (.iadd, 1) := by decide +kernel
theorem dX1_count_94 : decode cX1_count 94 = .ok (.istore_n 3, 1) := by decide +kernel
theorem dX1_count_95 : decode cX1_count 95 = .ok (.iload 4, 2) := by decide +kernel
theorem dX1_count_97 : decode cX1_count 97 = .ok (.aload_n 0, 1) := by decide +kernel
theorem dX1_count_98 : decode cX1_count 98 = .ok (.getfield 20, 3) := by decide +kernel
theorem dX1_count_101 : decode cX1_count 101 = .ok (.iload 5, 2) := by decide +kernel
theorem dX1_count_103 : decode cX1_count 103 = .ok (.iaload, 1) := by decide +kernel
theorem dX1_count_104 : decode cX1_count 104 = .ok (.iadd, 1) := by decide +kernel
theorem dX1_count_105 : decode cX1_count 105 = .ok (.istore 4, 2) := by decide +kernel
theorem dX1_count_107 : decode cX1_count 107 = .ok (.iinc 5 1, 3) := by decide +kernel
theorem dX1_count_110 : decode cX1_count 110 = .ok (.goto (-81), 3) := by decide +kernel
theorem dX1_count_113 : decode cX1_count 113 = .ok (.iload_n 1, 1) := by decide +kernel
theorem dX1_count_114 : decode cX1_count 114 = .ok (.ifCond .ne 10, 3) := by decide +kernel
theorem dX1_count_117 : decode cX1_count 117 = .ok (.aload_n 0, 1) := by decide +kernel
theorem dX1_count_118 : decode cX1_count 118 = .ok (.getfield 70, 3) := by decide +kernel
theorem dX1_count_121 : decode cX1_count 121 = .ok (.goto 51, 3) := by decide +kernel
theorem dX1_count_124 : decode cX1_count 124 = .ok (.iload_n 1, 1) := by decide +kernel
theorem dX1_count_125 : decode cX1_count 125 = .ok (.iconst 1, 1) := by decide +kernel
theorem dX1_count_126 : decode cX1_count 126 = .ok (.if_icmp .ne 7, 3) := by decide +kernel
theorem dX1_count_129 : decode cX1_count 129 = .ok (.iload_n 2, 1) := by decide +kernel
theorem dX1_count_130 : decode cX1_count 130 = .ok (.goto 42, 3) := by decide +kernel
theorem dX1_count_133 : decode cX1_count 133 = .ok (.iload_n 1, 1) := by decide +kernel
theorem dX1_count_134 : decode cX1_count 134 = .ok (.iconst 2, 1) := by decide +kernel
theorem dX1_count_135 : decode cX1_count 135 = .ok (.if_icmp .ne 7, 3) := by decide +kernel
theorem dX1_count_138 : decode cX1_count 138 = .ok (.iload_n 3, 1) := by decide +kernel
theorem dX1_count_139 : decode cX1_count 139 = .ok (.goto 33, 3) := by decide +kernel
theorem dX1_count_142 : decode cX1_count 142 = .ok (.iload_n 1, 1) := by decide +kernel
theorem dX1_count_143 : decode cX1_count 143 = .ok (.iconst 3, 1) := by decide +kernel
theorem dX1_count_144 : decode cX1_count 144 = .ok (.if_icmp .ne 14, 3) := by decide +kernel
theorem dX1_count_147 : decode cX1_count 147 = .ok (.aload_n 0, 1) := by decide +kernel
theorem dX1_count_148 : decode cX1_count 148 = .ok (.invokevirtual 53, 3) := by decide +kernel
theorem dX1_count_151 : decode cX1_count 151 = .ok (.iload_n 2, 1) := by decide +kernel
theorem dX1_count_152 : decode cX1_count 152 = .ok (.isub, 1) := by decide +kernel
theorem dX1_count_153 : decode cX1_count 153 = .ok (.iload_n 3, 1) := by decide +kernel
theorem dX1_count_154 : decode cX1_count 154 = .ok (.isub, 1) := by decide +kernel
theorem dX1_count_155 : decode cX1_count 155 = .ok (.goto 17, 3) := by decide +kernel
theorem dX1_count_158 : decode cX1_count 158 = .ok (.iload_n 1, 1) := by decide +kernel
theorem dX1_count_159 : decode cX1_count 159 = .ok (.iconst 4, 1) := by decide +kernel
theorem dX1_count_160 : decode cX1_count 160 = .ok (.if_icmp .ne 10, 3) := by decide +kernel
theorem dX1_count_163 : decode cX1_count 163 = .ok (.aload_n 0, 1) := by decide +kernel
theorem dX1_count_164 : decode cX1_count 164 = .ok (.invokevirtual 53, 3) := by decide +kernel
theorem dX1_count_167 : decode cX1_count 167 = .ok (.goto 5, 3) := by decide +kernel
theorem dX1_count_170 : decode cX1_count 170 = .ok (.iload 4, 2) := by decide +kernel
theorem dX1_count_172 : decode cX1_count 172 = .ok (.ireturn, 1) := by decide +kernel
theorem dX1_about_0 : decode cX1_about 0 = .ok (.aload_n 0, 1) := by decide +kernel
theorem dX1_about_1 : decode cX1_about 1 = .ok (.aload_n 0, 1) := by decide +kernel
theorem dX1_about_2 : decode cX1_about 2 = .ok (.getfield 60, 3) := by decide +kernel
theorem dX1_about_5 : decode cX1_about 5 = .ok (.invokevirtual 85, 3) := by decide +kernel
theorem dX1_about_8 : decode cX1_about 8 = .ok (.iload_n 1, 1) := by decide +kernel
theorem dX1_about_9 : decode cX1_about 9 = .ok (.ifCond .lt 21, 3) := by decide +kernel
theorem dX1_about_12 : decode cX1_about 12 = .ok (.iload_n 1, 1) := by decide +kernel
theorem dX1_about_13 : decode cX1_about 13 = .ok (.aload_n 0, 1) := by decide +kernel
theorem dX1_about_14 : decode cX1_about 14 = .ok (.getfield 70, 3) := by decide +kernel
theorem dX1_about_17 : decode cX1_about 17 = .ok (.if_icmp .ge 13, 3) := by decide +kernel
theorem dX1_about_20 : decode cX1_about 20 = .ok (.iload_n 2, 1) := by decide +kernel
theorem dX1_about_21 : decode cX1_about 21 = .ok (.ifCond .lt 9, 3) := by decide +kernel
theorem dX1_about_24 : decode cX1_about 24 = .ok (.iload_n 2, 1) := by decide +kernel
theorem dX1_about_25 : decode cX1_about 25 = .ok (.bipush 7, 2) := by decide +kernel
theorem dX1_about_27 : decode cX1_about 27 = .ok (.if_icmp .le 5, 3) := by decide +kernel
theorem dX1_about_30 : decode cX1_about 30 = .ok (.iconst (-1), 1) := by decide +kernel
theorem dX1_about_31 : decode cX1_about 31 = .ok (.ireturn, 1) := by decide +kernel
theorem dX1_about_32 : decode cX1_about 32 = .ok (.iconst 0, 1) := by decide +kernel
theorem dX1_about_33 : decode cX1_about 33 = .ok (.istore_n 3, 1) := by decide +kernel
theorem dX1_about_34 : decode cX1_about 34 = .ok (.iconst 0, 1) := by decide +kernel
theorem dX1_about_35 : decode cX1_about 35 = .ok (.istore 4, 2) := by decide +kernel
theorem dX1_about_37 : decode cX1_about 37 = .ok (.iconst 0, 1) := by decide +kernel
theorem dX1_about_38 : decode cX1_about 38 = .ok (.istore 5, 2) := by decide +kernel
theorem dX1_about_40 : decode cX1_about 40 = .ok (.iconst (-1), 1) := by decide +kernel
theorem dX1_about_41 : decode cX1_about 41 = .ok (.istore 6, 2) := by decide +kernel
theorem dX1_about_43 : decode cX1_about 43 = .ok (.ldc 44, 2) := by decide +kernel
theorem dX1_about_45 : decode cX1_about 45 = .ok (.istore 7, 2) := by decide +kernel
theorem dX1_about_47 : decode cX1_about 47 = .ok (.ldc 44, 2) := by decide +kernel
theorem dX1_about_49 : decode cX1_about 49 = .ok (.istore 8, 2) := by decide +kernel
theorem dX1_about_51 : decode cX1_about 51 = .ok (.ldc 43, 2) := by decide +kernel
theorem dX1_about_53 : decode cX1_about 53 = .ok (.istore 9, 2) := by decide +kernel
theorem dX1_about_55 : decode cX1_about 55 = .ok (.ldc 43, 2) := by decide +kernel
theorem dX1_about_57 : decode cX1_about 57 = .ok (.istore 10, 2) := by decide +kernel
theorem dX1_about_59 : decode cX1_about 59 = .ok (.iconst 0, 1) := by decide +kernel
theorem dX1_about_60 : decode cX1_about 60 = .ok (.istore 11, 2) := by decide +kernel
theorem dX1_about_62 : decode cX1_about 62 = .ok (.iload 11, 2) := by decide +kernel
theorem dX1_about_64 : decode cX1_about 64 = .ok (.bipush 120, 2) := by decide +kernel
theorem dX1_about_66 : decode cX1_about 66 = .ok (.if_icmp .ge 196, 3) := by decide +kernel
theorem dX1_about_69 : decode cX1_about 69 = .ok (.aload_n 0, 1) := by decide +kernel
theorem dX1_about_70 : decode cX1_about 70 = .ok (.getfield 7, 3) := by decide +kernel
theorem dX1_about_73 : decode cX1_about 73 = .ok (.iload 11, 2) := by decide +kernel
theorem dX1_about_75 : decode cX1_about 75 = .ok (.baload, 1) := by decide +kernel
theorem dX1_about_76 : decode cX1_about 76 = .ok (.ifCond .eq 180, 3) := by decide +kernel
theorem dX1_about_79 : decode cX1_about 79 = .ok (.aload_n 0, 1) := by decide +kernel
theorem dX1_about_80 : decode cX1_about 80 = .ok (.getfield 30, 3) := by decide +kernel
theorem dX1_about_83 : decode cX1_about 83 = .ok (.iload 11, 2) := by decide +kernel
theorem dX1_about_85 : decode cX1_about 85 = .ok (.iaload, 1) := by decide +kernel
theorem dX1_about_86 : decode cX1_about 86 = .ok (.iload_n 1, 1) := by decide +kernel
theorem dX1_about_87 : decode cX1_about 87 = .ok (.if_icmp .eq 6, 3) := by decide +kernel
theorem dX1_about_90 : decode cX1_about 90 = .ok (.goto 166, 3) := by decide +kernel
theorem dX1_about_93 : decode cX1_about 93 = .ok (.iinc 3 1, 3) := by decide +kernel
theorem dX1_about_96 : decode cX1_about 96 = .ok (.iload 4, 2) := by decide +kernel
theorem dX1_about_98 : decode cX1_about 98 = .ok (.aload_n 0, 1) := by decide +kernel
theorem dX1_about_99 : decode cX1_about 99 = .ok (.getfield 27, 3) := by decide +kernel
theorem dX1_about_102 : decode cX1_about 102 = .ok (.iload 11, 2) := by decide +kernel
theorem dX1_about_104 : decode cX1_about 104 = .ok (.baload, 1) := by decide +kernel
theorem dX1_about_105 : decode cX1_about 105 = .ok (.ifCond .eq 7, 3) := by decide +kernel
theorem dX1_about_108 : decode cX1_about 108 = .ok (.iconst 1, 1) := by decide +kernel
theorem dX1_about_109 : decode cX1_about 109 = .ok (.goto 4, 3) := by decide +kernel
theorem dX1_about_112 : decode cX1_about 112 = .ok (.iconst 0, 1) := by decide +kernel
theorem dX1_about_113 : decode cX1_about 113 = .ok (.iadd, 1) := by decide +kernel
theorem dX1_about_114 : decode cX1_about 114 = .ok (.istore 4, 2) := by decide +kernel
theorem dX1_about_116 : decode cX1_about 116 = .ok (.iload 5, 2) := by decide +kernel
theorem dX1_about_118 : decode cX1_about 118 = .ok (.aload_n 0, 1) := by decide +kernel
theorem dX1_about_119 : decode cX1_about 119 = .ok (.getfield 20, 3) := by decide +kernel
theorem dX1_about_122 : decode cX1_about 122 = .ok (.iload 11, 2) := by decide +kernel
theorem dX1_about_124 : decode cX1_about 124 = .ok (.iaload, 1) := by decide +kernel
theorem dX1_about_125 : decode cX1_about 125 = .ok (.iadd, 1) := by decide +kernel
theorem dX1_about_126 : decode cX1_about 126 = .ok (.istore 5, 2) := by decide +kernel
theorem dX1_about_128 : decode cX1_about 128 = .ok (.iload 6, 2) := by decide +kernel
theorem dX1_about_130 : decode cX1_about 130 = .ok (.ifCond .ge 18, 3) := by decide +kernel
theorem dX1_about_133 : decode cX1_about 133 = .ok (.aload_n 0, 1) := by decide +kernel
theorem dX1_about_134 : decode cX1_about 134 = .ok (.getfield 27, 3) := by decide +kernel
theorem dX1_about_137 : decode cX1_about 137 = .ok (.iload 11, 2) := by decide +kernel
theorem dX1_about_139 : decode cX1_about 139 = .ok (.baload, 1) := by decide +kernel
theorem dX1_about_140 : decode cX1_about 140 = .ok (.ifCond .eq 8, 3) := by decide +kernel
theorem dX1_about_143 : decode cX1_about 143 = .ok (.iload 11, 2) := by decide +kernel
theorem dX1_about_145 : decode cX1_about 145 = .ok (.goto 5, 3) := by decide +kernel
theorem dX1_about_148 : decode cX1_about 148 = .ok (.iload 6, 2) := by decide +kernel
theorem dX1_about_150 : decode cX1_about 150 = .ok (.istore 6, 2) := by decide +kernel
theorem dX1_about_152 : decode cX1_about 152 = .ok (.aload_n 0, 1) := by decide +kernel
theorem dX1_about_153 : decode cX1_about 153 = .ok (.getfield 13, 3) := by decide +kernel
theorem dX1_about_156 : decode cX1_about 156 = .ok (.iload 11, 2) := by decide +kernel
theorem dX1_about_158 : decode cX1_about 158 = .ok (.iaload, 1) := by decide +kernel
theorem dX1_about_159 : decode cX1_about 159 = .ok (.iload 7, 2) := by decide +kernel
theorem dX1_about_161 : decode cX1_about 161 = .ok (.if_icmp .ge 13, 3) := by decide +kernel
theorem dX1_about_164 : decode cX1_about 164 = .ok (.aload_n 0, 1) := by decide +kernel
theorem dX1_about_165 : decode cX1_about 165 = .ok (.getfield 13, 3) := by decide +kernel
theorem dX1_about_168 : decode cX1_about 168 = .ok (.iload 11, 2) := by decide +kernel
theorem dX1_about_170 : decode cX1_about 170 = .ok (.iaload, 1) := by decide +kernel
theorem dX1_about_171 : decode cX1_about 171 = .ok (.goto 5, 3) := by decide +kernel
theorem dX1_about_174 : decode cX1_about 174 = .ok (.iload 7, 2) := by decide +kernel
theorem dX1_about_176 : decode cX1_about 176 = .ok (.istore 7, 2) := by decide +kernel
theorem dX1_about_178 : decode cX1_about 178 = .ok (.aload_n 0, 1) := by decide +kernel
theorem dX1_about_179 : decode cX1_about 179 = .ok (.getfield 17, 3) := by decide +kernel
theorem dX1_about_182 : decode cX1_about 182 = .ok (.iload 11, 2) := by decide +kernel
theorem dX1_about_184 : decode cX1_about 184 = .ok (.iaload, 1) := by decide +kernel
theorem dX1_about_185 : decode cX1_about 185 = .ok (.iload 8, 2) := by decide +kernel
theorem dX1_about_187 : decode cX1_about 187 = .ok (.if_icmp .ge 13, 3) := by decide +kernel
theorem dX1_about_190 : decode cX1_about 190 = .ok (.aload_n 0, 1) := by decide +kernel
theorem dX1_about_191 : decode cX1_about 191 = .ok (.getfield 17, 3) := by decide +kernel
theorem dX1_about_194 : decode cX1_about 194 = .ok (.iload 11, 2) := by decide +kernel
theorem dX1_about_196 : decode cX1_about 196 = .ok (.iaload, 1) := by decide +kernel
theorem dX1_about_197 : decode cX1_about 197 = .ok (.goto 5, 3) := by decide +kernel
theorem dX1_about_200 : decode cX1_about 200 = .ok (.iload 8, 2) := by decide +kernel
theorem dX1_about_202 : decode cX1_about 202 = .ok (.istore 8, 2) := by decide +kernel
theorem dX1_about_204 : decode cX1_about 204 = .ok (.aload_n 0, 1) := by decide +kernel
theorem dX1_about_205 : decode cX1_about 205 = .ok (.getfield 13, 3) := by decide +kernel
theorem dX1_about_208 : decode cX1_about 208 = .ok (.iload 11, 2) := by decide +kernel
theorem dX1_about_210 : decode cX1_about 210 = .ok (.iaload, 1) := by decide +kernel
theorem dX1_about_211 : decode cX1_about 211 = .ok (.iload 9, 2) := by decide +kernel
theorem dX1_about_213 : decode cX1_about 213 = .ok (.if_icmp .le 13, 3) := by decide +kernel
theorem dX1_about_216 : decode cX1_about 216 = .ok (.aload_n 0, 1) := by decide +kernel
theorem dX1_about_217 : decode cX1_about 217 = .ok (.getfield 13, 3) := by decide +kernel
theorem dX1_about_220 : decode cX1_about 220 = .ok (.iload 11, 2) := by decide +kernel
theorem dX1_about_222 : decode cX1_about 222 = .ok (.iaload, 1) := by decide +kernel
theorem dX1_about_223 : decode cX1_about 223 = .ok (.goto 5, 3) := by decide +kernel
theorem dX1_about_226 : decode cX1_about 226 = .ok (.iload 9, 2) := by decide +kernel
theorem dX1_about_228 : decode cX1_about 228 = .ok (.istore 9, 2) := by decide +kernel
theorem dX1_about_230 : decode cX1_about 230 = .ok (.aload_n 0, 1) := by decide +kernel
theorem dX1_about_231 : decode cX1_about 231 = .ok (.getfield 17, 3) := by decide +kernel
theorem dX1_about_234 : decode cX1_about 234 = .ok (.iload 11, 2) := by decide +kernel
theorem dX1_about_236 : decode cX1_about 236 = .ok (.iaload, 1) := by decide +kernel
theorem dX1_about_237 : decode cX1_about 237 = .ok (.iload 10, 2) := by decide +kernel
theorem dX1_about_239 : decode cX1_about 239 = .ok (.if_icmp .le 13, 3) := by decide +kernel
theorem dX1_about_242 : decode cX1_about 242 = .ok (.aload_n 0, 1) := by decide +kernel
theorem dX1_about_243 : decode cX1_about 243 = .ok (.getfield 17, 3) := by decide +kernel
theorem dX1_about_246 : decode cX1_about 246 = .ok (.iload 11, 2) := by decide +kernel
theorem dX1_about_248 : decode cX1_about 248 = .ok (.iaload, 1) := by decide +kernel
theorem dX1_about_249 : decode cX1_about 249 = .ok (.goto 5, 3) := by decide +kernel
theorem dX1_about_252 : decode cX1_about 252 = .ok (.iload 10, 2) := by decide +kernel
theorem dX1_about_254 : decode cX1_about 254 = .ok (.istore 10, 2) := by decide +kernel
theorem dX1_about_256 : decode cX1_about 256 = .ok (.iinc 11 1, 3) := by decide +kernel
theorem dX1_about_259 : decode cX1_about 259 = .ok (.goto (-197), 3) := by decide +kernel
theorem dX1_about_262 : decode cX1_about 262 = .ok (.iload_n 2, 1) := by decide +kernel
theorem dX1_about_263 : decode cX1_about 263 = .ok (.tableswitch 61 0 6 #[41, 43, 46, 49, 52, 55, 58], 41) := by decide +kernel
theorem dX1_about_304 : decode cX1_about 304 = .ok (.iload_n 3, 1) := by decide +kernel
theorem dX1_about_305 : decode cX1_about 305 = .ok (.ireturn, 1) := by decide +kernel
theorem dX1_about_306 : decode cX1_about 306 = .ok (.iload 4, 2) := by decide +kernel
theorem dX1_about_308 : decode cX1_about 308 = .ok (.ireturn, 1) := by decide +kernel
theorem dX1_about_309 : decode cX1_about 309 = .ok (.iload 5, 2) := by decide +kernel
theorem dX1_about_311 : decode cX1_about 311 = .ok (.ireturn, 1) := by decide +kernel
theorem dX1_about_312 : decode cX1_about 312 = .ok (.iload 6, 2) := by decide +kernel
theorem dX1_about_314 : decode cX1_about 314 = .ok (.ireturn, 1) := by decide +kernel
theorem dX1_about_315 : decode cX1_about 315 = .ok (.iload 7, 2) := by decide +kernel
theorem dX1_about_317 : decode cX1_about 317 = .ok (.ireturn, 1) := by decide +kernel
theorem dX1_about_318 : decode cX1_about 318 = .ok (.iload 8, 2) := by decide +kernel
theorem dX1_about_320 : decode cX1_about 320 = .ok (.ireturn, 1) := by decide +kernel
theorem dX1_about_321 : decode cX1_about 321 = .ok (.iload 9, 2) := by decide +kernel
theorem dX1_about_323 : decode cX1_about 323 = .ok (.ireturn, 1) := by decide +kernel
theorem dX1_about_324 : decode cX1_about 324 = .ok (.iload 10, 2) := by decide +kernel
theorem dX1_about_326 : decode cX1_about 326 = .ok (.ireturn, 1) := by decide +kernel
theorem dX1_around_0 : decode cX1_around 0 = .ok (.aload_n 0, 1) := by decide +kernel
theorem dX1_around_1 : decode cX1_around 1 = .ok (.iload_n 1, 1) := by decide +kernel
theorem dX1_around_2 : decode cX1_around 2 = .ok (.invokevirtual 49, 3) := by decide +kernel
theorem dX1_around_5 : decode cX1_around 5 = .ok (.ifCond .eq 15, 3) := by decide +kernel
theorem dX1_around_8 : decode cX1_around 8 = .ok (.aload_n 0, 1) := by decide +kernel
theorem dX1_around_9 : decode cX1_around 9 = .ok (.iload_n 1, 1) := by decide +kernel
theorem dX1_around_10 : decode cX1_around 10 = .ok (.aload_n 0, 1) := by decide +kernel
theorem dX1_around_11 : decode cX1_around 11 = .ok (.getfield 60, 3) := by decide +kernel
theorem dX1_around_14 : decode cX1_around 14 = .ok (.invokevirtual 73, 3) := by decide +kernel
theorem dX1_around_17 : decode cX1_around 17 = .ok (.goto 4, 3) := by decide +kernel
theorem dX1_around_20 : decode cX1_around 20 = .ok (.iconst (-1), 1) := by decide +kernel
theorem dX1_around_21 : decode cX1_around 21 = .ok (.ireturn, 1) := by decide +kernel
theorem dX1_belongs_0 : decode cX1_belongs 0 = .ok (.iload_n 1, 1) := by decide +kernel
theorem dX1_belongs_1 : decode cX1_belongs 1 = .ok (.iload_n 2, 1) := by decide +kernel
theorem dX1_belongs_2 : decode cX1_belongs 2 = .ok (.invokestatic 45, 3) := by decide +kernel
theorem dX1_belongs_5 : decode cX1_belongs 5 = .ok (.ifCond .ne 5, 3) := by decide +kernel
theorem dX1_belongs_8 : decode cX1_belongs 8 = .ok (.iconst (-1), 1) := by decide +kernel
theorem dX1_belongs_9 : decode cX1_belongs 9 = .ok (.ireturn, 1) := by decide +kernel
theorem dX1_belongs_10 : decode cX1_belongs 10 = .ok (.aload_n 0, 1) := by decide +kernel
theorem dX1_belongs_11 : decode cX1_belongs 11 = .ok (.aload_n 0, 1) := by decide +kernel
theorem dX1_belongs_12 : decode cX1_belongs 12 = .ok (.getfield 60, 3) := by decide +kernel
theorem dX1_belongs_15 : decode cX1_belongs 15 = .ok (.invokevirtual 85, 3) := by decide +kernel
theorem dX1_belongs_18 : decode cX1_belongs 18 = .ok (.aload_n 0, 1) := by decide +kernel
theorem dX1_belongs_19 : decode cX1_belongs 19 = .ok (.iload_n 1, 1) := by decide +kernel
theorem dX1_belongs_20 : decode cX1_belongs 20 = .ok (.iload_n 2, 1) := by decide +kernel
theorem dX1_belongs_21 : decode cX1_belongs 21 = .ok (.aload_n 0, 1) := by decide +kernel
theorem dX1_belongs_22 : decode cX1_belongs 22 = .ok (.getfield 60, 3) := by decide +kernel
theorem dX1_belongs_25 : decode cX1_belongs 25 = .ok (.invokevirtual 81, 3) := by decide +kernel
theorem dX1_belongs_28 : decode cX1_belongs 28 = .ok (.ireturn, 1) := by decide +kernel
theorem dX1_findDense_0 : decode cX1_findDense 0 = .ok (.ldc2_w 68, 3) := by decide +kernel
theorem dX1_findDense_3 : decode cX1_findDense 3 = .ok (.lstore_n 2, 1) := by decide +kernel
theorem dX1_findDense_4 : decode cX1_findDense 4 = .ok (.iconst 0, 1) := by decide +kernel
theorem dX1_findDense_5 : decode cX1_findDense 5 = .ok (.istore 4, 2) := by decide +kernel
theorem dX1_findDense_7 : decode cX1_findDense 7 = .ok (.iload 4, 2) := by decide +kernel
theorem dX1_findDense_9 : decode cX1_findDense 9 = .ok (.bipush 120, 2) := by decide +kernel
theorem dX1_findDense_11 : decode cX1_findDense 11 = .ok (.if_icmp .ge 75, 3) := by decide +kernel
theorem dX1_findDense_14 : decode cX1_findDense 14 = .ok (.aload_n 0, 1) := by decide +kernel
theorem dX1_findDense_15 : decode cX1_findDense 15 = .ok (.getfield 7, 3) := by decide +kernel
theorem dX1_findDense_18 : decode cX1_findDense 18 = .ok (.iload 4, 2) := by decide +kernel
theorem dX1_findDense_20 : decode cX1_findDense 20 = .ok (.baload, 1) := by decide +kernel
theorem dX1_findDense_21 : decode cX1_findDense 21 = .ok (.ifCond .ne 6, 3) := by decide +kernel
theorem dX1_findDense_24 : decode cX1_findDense 24 = .ok (.goto 56, 3) := by decide +kernel
theorem dX1_findDense_27 : decode cX1_findDense 27 = .ok (.aload_n 0, 1) := by decide +kernel
theorem dX1_findDense_28 : decode cX1_findDense 28 = .ok (.iload_n 1, 1) := by decide +kernel
theorem dX1_findDense_29 : decode cX1_findDense 29 = .ok (.aload_n 0, 1) := by decide +kernel
theorem dX1_findDense_30 : decode cX1_findDense 30 = .ok (.getfield 13, 3) := by decide +kernel
theorem dX1_findDense_33 : decode cX1_findDense 33 = .ok (.iload 4, 2) := by decide +kernel
theorem dX1_findDense_35 : decode cX1_findDense 35 = .ok (.iaload, 1) := by decide +kernel
theorem dX1_findDense_36 : decode cX1_findDense 36 = .ok (.i2l, 1) := by decide +kernel
theorem dX1_findDense_37 : decode cX1_findDense 37 = .ok (.aload_n 0, 1) := by decide +kernel
theorem dX1_findDense_38 : decode cX1_findDense 38 = .ok (.getfield 17, 3) := by decide +kernel
theorem dX1_findDense_41 : decode cX1_findDense 41 = .ok (.iload 4, 2) := by decide +kernel
theorem dX1_findDense_43 : decode cX1_findDense 43 = .ok (.iaload, 1) := by decide +kernel
theorem dX1_findDense_44 : decode cX1_findDense 44 = .ok (.i2l, 1) := by decide +kernel
theorem dX1_findDense_45 : decode cX1_findDense 45 = .ok (.invokevirtual 64, 3) := by decide +kernel
theorem dX1_findDense_48 : decode cX1_findDense 48 = .ok (.lstore 5, 2) := by decide +kernel
theorem dX1_findDense_50 : decode cX1_findDense 50 = .ok (.lload_n 2, 1) := by decide +kernel
theorem dX1_findDense_51 : decode cX1_findDense 51 = .ok (.lconst 0, 1) := by decide +kernel
theorem dX1_findDense_52 : decode cX1_findDense 52 = .ok (.lcmp, 1) := by decide +kernel
theorem dX1_findDense_53 : decode cX1_findDense 53 = .ok (.ifCond .lt 10, 3) := by decide +kernel
theorem dX1_findDense_56 : decode cX1_findDense 56 = .ok (.lload 5, 2) := by decide +kernel
theorem dX1_findDense_58 : decode cX1_findDense 58 = .ok (.lload_n 2, 1) := by decide +kernel
theorem dX1_findDense_59 : decode cX1_findDense 59 = .ok (.lcmp, 1) := by decide +kernel
theorem dX1_findDense_60 : decode cX1_findDense 60 = .ok (.ifCond .ge 20, 3) := by decide +kernel
theorem dX1_findDense_63 : decode cX1_findDense 63 = .ok (.aload_n 0, 1) := by decide +kernel
theorem dX1_findDense_64 : decode cX1_findDense 64 = .ok (.iload_n 1, 1) := by decide +kernel
theorem dX1_findDense_65 : decode cX1_findDense 65 = .ok (.lload 5, 2) := by decide +kernel
theorem dX1_findDense_67 : decode cX1_findDense 67 = .ok (.invokevirtual 73, 3) := by decide +kernel
theorem dX1_findDense_70 : decode cX1_findDense 70 = .ok (.aload_n 0, 1) := by decide +kernel
theorem dX1_findDense_71 : decode cX1_findDense 71 = .ok (.getfield 23, 3) := by decide +kernel
theorem dX1_findDense_74 : decode cX1_findDense 74 = .ok (.if_icmp .lt 6, 3) := by decide +kernel
theorem dX1_findDense_77 : decode cX1_findDense 77 = .ok (.lload 5, 2) := by decide +kernel
theorem dX1_findDense_79 : decode cX1_findDense 79 = .ok (.lstore_n 2, 1) := by decide +kernel
theorem dX1_findDense_80 : decode cX1_findDense 80 = .ok (.iinc 4 1, 3) := by decide +kernel
theorem dX1_findDense_83 : decode cX1_findDense 83 = .ok (.goto (-76), 3) := by decide +kernel
theorem dX1_findDense_86 : decode cX1_findDense 86 = .ok (.lload_n 2, 1) := by decide +kernel
theorem dX1_findDense_87 : decode cX1_findDense 87 = .ok (.lreturn, 1) := by decide +kernel
theorem dX1_dense_0 : decode cX1_dense 0 = .ok (.aload_n 0, 1) := by decide +kernel
theorem dX1_dense_1 : decode cX1_dense 1 = .ok (.iload_n 1, 1) := by decide +kernel
theorem dX1_dense_2 : decode cX1_dense 2 = .ok (.invokevirtual 49, 3) := by decide +kernel
theorem dX1_dense_5 : decode cX1_dense 5 = .ok (.ifCond .eq 11, 3) := by decide +kernel
theorem dX1_dense_8 : decode cX1_dense 8 = .ok (.aload_n 0, 1) := by decide +kernel
theorem dX1_dense_9 : decode cX1_dense 9 = .ok (.iload_n 1, 1) := by decide +kernel
theorem dX1_dense_10 : decode cX1_dense 10 = .ok (.invokevirtual 89, 3) := by decide +kernel
theorem dX1_dense_13 : decode cX1_dense 13 = .ok (.goto 6, 3) := by decide +kernel
theorem dX1_dense_16 : decode cX1_dense 16 = .ok (.ldc2_w 68, 3) := by decide +kernel
theorem dX1_dense_19 : decode cX1_dense 19 = .ok (.lreturn, 1) := by decide +kernel
theorem dX1_greater_0 : decode cX1_greater 0 = .ok (.lload_n 0, 1) := by decide +kernel
theorem dX1_greater_1 : decode cX1_greater 1 = .ok (.lload_n 2, 1) := by decide +kernel
theorem dX1_greater_2 : decode cX1_greater 2 = .ok (.lcmp, 1) := by decide +kernel
theorem dX1_greater_3 : decode cX1_greater 3 = .ok (.ifCond .le 7, 3) := by decide +kernel
theorem dX1_greater_6 : decode cX1_greater 6 = .ok (.lload_n 0, 1) := by decide +kernel
theorem dX1_greater_7 : decode cX1_greater 7 = .ok (.goto 4, 3) := by decide +kernel
theorem dX1_greater_10 : decode cX1_greater 10 = .ok (.lload_n 2, 1) := by decide +kernel
theorem dX1_greater_11 : decode cX1_greater 11 = .ok (.lreturn, 1) := by decide +kernel
theorem dX1_meet_0 : decode cX1_meet 0 = .ok (.aload_n 0, 1) := by decide +kernel
theorem dX1_meet_1 : decode cX1_meet 1 = .ok (.iload_n 1, 1) := by decide +kernel
theorem dX1_meet_2 : decode cX1_meet 2 = .ok (.invokevirtual 49, 3) := by decide +kernel
theorem dX1_meet_5 : decode cX1_meet 5 = .ok (.ifCond .eq 11, 3) := by decide +kernel
theorem dX1_meet_8 : decode cX1_meet 8 = .ok (.aload_n 0, 1) := by decide +kernel
theorem dX1_meet_9 : decode cX1_meet 9 = .ok (.iload_n 2, 1) := by decide +kernel
theorem dX1_meet_10 : decode cX1_meet 10 = .ok (.invokevirtual 49, 3) := by decide +kernel
theorem dX1_meet_13 : decode cX1_meet 13 = .ok (.ifCond .ne 7, 3) := by decide +kernel
theorem dX1_meet_16 : decode cX1_meet 16 = .ok (.ldc2_w 68, 3) := by decide +kernel
theorem dX1_meet_19 : decode cX1_meet 19 = .ok (.lreturn, 1) := by decide +kernel
theorem dX1_meet_20 : decode cX1_meet 20 = .ok (.iconst 0, 1) := by decide +kernel
theorem dX1_meet_21 : decode cX1_meet 21 = .ok (.istore_n 3, 1) := by decide +kernel
theorem dX1_meet_22 : decode cX1_meet 22 = .ok (.iload_n 3, 1) := by decide +kernel
theorem dX1_meet_23 : decode cX1_meet 23 = .ok (.bipush 120, 2) := by decide +kernel
theorem dX1_meet_25 : decode cX1_meet 25 = .ok (.if_icmp .ge 51, 3) := by decide +kernel
theorem dX1_meet_28 : decode cX1_meet 28 = .ok (.aload_n 0, 1) := by decide +kernel
theorem dX1_meet_29 : decode cX1_meet 29 = .ok (.getfield 40, 3) := by decide +kernel
theorem dX1_meet_32 : decode cX1_meet 32 = .ok (.iload_n 3, 1) := by decide +kernel
theorem dX1_meet_33 : decode cX1_meet 33 = .ok (.aload_n 0, 1) := by decide +kernel
theorem dX1_meet_34 : decode cX1_meet 34 = .ok (.getfield 7, 3) := by decide +kernel
theorem dX1_meet_37 : decode cX1_meet 37 = .ok (.iload_n 3, 1) := by decide +kernel
theorem dX1_meet_38 : decode cX1_meet 38 = .ok (.baload, 1) := by decide +kernel
theorem dX1_meet_39 : decode cX1_meet 39 = .ok (.ifCond .eq 11, 3) := by decide +kernel
theorem dX1_meet_42 : decode cX1_meet 42 = .ok (.aload_n 0, 1) := by decide +kernel
theorem dX1_meet_43 : decode cX1_meet 43 = .ok (.iload_n 3, 1) := by decide +kernel
theorem dX1_meet_44 : decode cX1_meet 44 = .ok (.invokevirtual 89, 3) := by decide +kernel
theorem dX1_meet_47 : decode cX1_meet 47 = .ok (.goto 6, 3) := by decide +kernel
theorem dX1_meet_50 : decode cX1_meet 50 = .ok (.ldc2_w 68, 3) := by decide +kernel
theorem dX1_meet_53 : decode cX1_meet 53 = .ok (.lastore, 1) := by decide +kernel
theorem dX1_meet_54 : decode cX1_meet 54 = .ok (.aload_n 0, 1) := by decide +kernel
theorem dX1_meet_55 : decode cX1_meet 55 = .ok (.getfield 33, 3) := by decide +kernel
theorem dX1_meet_58 : decode cX1_meet 58 = .ok (.iload_n 3, 1) := by decide +kernel
theorem dX1_meet_59 : decode cX1_meet 59 = .ok (.iconst 0, 1) := by decide +kernel
theorem dX1_meet_60 : decode cX1_meet 60 = .ok (.bastore, 1) := by decide +kernel
theorem dX1_meet_61 : decode cX1_meet 61 = .ok (.aload_n 0, 1) := by decide +kernel
theorem dX1_meet_62 : decode cX1_meet 62 = .ok (.getfield 36, 3) := by decide +kernel
theorem dX1_meet_65 : decode cX1_meet 65 = .ok (.iload_n 3, 1) := by decide +kernel
theorem dX1_meet_66 : decode cX1_meet 66 = .ok (.ldc2_w 68, 3) := by decide +kernel
theorem dX1_meet_69 : decode cX1_meet 69 = .ok (.lastore, 1) := by decide +kernel
theorem dX1_meet_70 : decode cX1_meet 70 = .ok (.iinc 3 1, 3) := by decide +kernel
theorem dX1_meet_73 : decode cX1_meet 73 = .ok (.goto (-51), 3) := by decide +kernel
theorem dX1_meet_76 : decode cX1_meet 76 = .ok (.aload_n 0, 1) := by decide +kernel
theorem dX1_meet_77 : decode cX1_meet 77 = .ok (.getfield 36, 3) := by decide +kernel
theorem dX1_meet_80 : decode cX1_meet 80 = .ok (.iload_n 1, 1) := by decide +kernel
theorem dX1_meet_81 : decode cX1_meet 81 = .ok (.aload_n 0, 1) := by decide +kernel
theorem dX1_meet_82 : decode cX1_meet 82 = .ok (.getfield 40, 3) := by decide +kernel
theorem dX1_meet_85 : decode cX1_meet 85 = .ok (.iload_n 1, 1) := by decide +kernel
theorem dX1_meet_86 : decode cX1_meet 86 = .ok (.laload, 1) := by decide +kernel
theorem dX1_meet_87 : decode cX1_meet 87 = .ok (.lastore, 1) := by decide +kernel
theorem dX1_meet_88 : decode cX1_meet 88 = .ok (.iconst 1, 1) := by decide +kernel
theorem dX1_meet_89 : decode cX1_meet 89 = .ok (.istore_n 3, 1) := by decide +kernel
theorem dX1_meet_90 : decode cX1_meet 90 = .ok (.iload_n 3, 1) := by decide +kernel
theorem dX1_meet_91 : decode cX1_meet 91 = .ok (.ifCond .eq 220, 3) := by decide +kernel
theorem dX1_meet_94 : decode cX1_meet 94 = .ok (.iconst (-1), 1) := by decide +kernel
theorem dX1_meet_95 : decode cX1_meet 95 = .ok (.istore 4, 2) := by decide +kernel
theorem dX1_meet_97 : decode cX1_meet 97 = .ok (.iconst 0, 1) := by decide +kernel
theorem dX1_meet_98 : decode cX1_meet 98 = .ok (.istore 5, 2) := by decide +kernel
theorem dX1_meet_100 : decode cX1_meet 100 = .ok (.iload 5, 2) := by decide +kernel
theorem dX1_meet_102 : decode cX1_meet 102 = .ok (.bipush 120, 2) := by decide +kernel
theorem dX1_meet_104 : decode cX1_meet 104 = .ok (.if_icmp .ge 58, 3) := by decide +kernel
theorem dX1_meet_107 : decode cX1_meet 107 = .ok (.aload_n 0, 1) := by decide +kernel
theorem dX1_meet_108 : decode cX1_meet 108 = .ok (.getfield 33, 3) := by decide +kernel
theorem dX1_meet_111 : decode cX1_meet 111 = .ok (.iload 5, 2) := by decide +kernel
theorem dX1_meet_113 : decode cX1_meet 113 = .ok (.baload, 1) := by decide +kernel
theorem dX1_meet_114 : decode cX1_meet 114 = .ok (.ifCond .ne 42, 3) := by decide +kernel
theorem dX1_meet_117 : decode cX1_meet 117 = .ok (.aload_n 0, 1) := by decide +kernel
theorem dX1_meet_118 : decode cX1_meet 118 = .ok (.getfield 36, 3) := by decide +kernel
theorem dX1_meet_121 : decode cX1_meet 121 = .ok (.iload 5, 2) := by decide +kernel
theorem dX1_meet_123 : decode cX1_meet 123 = .ok (.laload, 1) := by decide +kernel
theorem dX1_meet_124 : decode cX1_meet 124 = .ok (.lconst 0, 1) := by decide +kernel
theorem dX1_meet_125 : decode cX1_meet 125 = .ok (.lcmp, 1) := by decide +kernel
theorem dX1_meet_126 : decode cX1_meet 126 = .ok (.ifCond .lt 30, 3) := by decide +kernel
theorem dX1_meet_129 : decode cX1_meet 129 = .ok (.iload 4, 2) := by decide +kernel
theorem dX1_meet_131 : decode cX1_meet 131 = .ok (.ifCond .lt 21, 3) := by decide +kernel
theorem dX1_meet_134 : decode cX1_meet 134 = .ok (.aload_n 0, 1) := by decide +kernel
theorem dX1_meet_135 : decode cX1_meet 135 = .ok (.getfield 36, 3) := by decide +kernel
theorem dX1_meet_138 : decode cX1_meet 138 = .ok (.iload 5, 2) := by decide +kernel
theorem dX1_meet_140 : decode cX1_meet 140 = .ok (.laload, 1) := by decide +kernel
theorem dX1_meet_141 : decode cX1_meet 141 = .ok (.aload_n 0, 1) := by decide +kernel
theorem dX1_meet_142 : decode cX1_meet 142 = .ok (.getfield 36, 3) := by decide +kernel
theorem dX1_meet_145 : decode cX1_meet 145 = .ok (.iload 4, 2) := by decide +kernel
theorem dX1_meet_147 : decode cX1_meet 147 = .ok (.laload, 1) := by decide +kernel
theorem dX1_meet_148 : decode cX1_meet 148 = .ok (.lcmp, 1) := by decide +kernel
theorem dX1_meet_149 : decode cX1_meet 149 = .ok (.ifCond .ge 7, 3) := by decide +kernel
theorem dX1_meet_152 : decode cX1_meet 152 = .ok (.iload 5, 2) := by decide +kernel
theorem dX1_meet_154 : decode cX1_meet 154 = .ok (.istore 4, 2) := by decide +kernel
theorem dX1_meet_156 : decode cX1_meet 156 = .ok (.iinc 5 1, 3) := by decide +kernel
theorem dX1_meet_159 : decode cX1_meet 159 = .ok (.goto (-59), 3) := by decide +kernel
theorem dX1_meet_162 : decode cX1_meet 162 = .ok (.iload 4, 2) := by decide +kernel
theorem dX1_meet_164 : decode cX1_meet 164 = .ok (.ifCond .lt 7, 3) := by decide +kernel
theorem dX1_meet_167 : decode cX1_meet 167 = .ok (.iconst 1, 1) := by decide +kernel
theorem dX1_meet_168 : decode cX1_meet 168 = .ok (.goto 4, 3) := by decide +kernel
theorem dX1_meet_171 : decode cX1_meet 171 = .ok (.iconst 0, 1) := by decide +kernel
theorem dX1_meet_172 : decode cX1_meet 172 = .ok (.istore_n 3, 1) := by decide +kernel
theorem dX1_meet_173 : decode cX1_meet 173 = .ok (.iload_n 3, 1) := by decide +kernel
theorem dX1_meet_174 : decode cX1_meet 174 = .ok (.ifCond .eq 11, 3) := by decide +kernel
theorem dX1_meet_177 : decode cX1_meet 177 = .ok (.aload_n 0, 1) := by decide +kernel
theorem dX1_meet_178 : decode cX1_meet 178 = .ok (.getfield 33, 3) := by decide +kernel
theorem dX1_meet_181 : decode cX1_meet 181 = .ok (.iload 4, 2) := by decide +kernel
theorem dX1_meet_183 : decode cX1_meet 183 = .ok (.iconst 1, 1) := by decide +kernel
theorem dX1_meet_184 : decode cX1_meet 184 = .ok (.bastore, 1) := by decide +kernel
theorem dX1_meet_185 : decode cX1_meet 185 = .ok (.iconst 0, 1) := by decide +kernel
theorem dX1_meet_186 : decode cX1_meet 186 = .ok (.istore 5, 2) := by decide +kernel
theorem dX1_meet_188 : decode cX1_meet 188 = .ok (.iload 5, 2) := by decide +kernel
theorem dX1_meet_190 : decode cX1_meet 190 = .ok (.bipush 120, 2) := by decide +kernel
theorem dX1_meet_192 : decode cX1_meet 192 = .ok (.if_icmp .ge 116, 3) := by decide +kernel
theorem dX1_meet_195 : decode cX1_meet 195 = .ok (.iload_n 3, 1) := by decide +kernel
theorem dX1_meet_196 : decode cX1_meet 196 = .ok (.ifCond .eq 112, 3) := by decide +kernel
theorem dX1_meet_199 : decode cX1_meet 199 = .ok (.aload_n 0, 1) := by decide +kernel
theorem dX1_meet_200 : decode cX1_meet 200 = .ok (.getfield 33, 3) := by decide +kernel
theorem dX1_meet_203 : decode cX1_meet 203 = .ok (.iload 5, 2) := by decide +kernel
theorem dX1_meet_205 : decode cX1_meet 205 = .ok (.baload, 1) := by decide +kernel
theorem dX1_meet_206 : decode cX1_meet 206 = .ok (.ifCond .ne 96, 3) := by decide +kernel
theorem dX1_meet_209 : decode cX1_meet 209 = .ok (.aload_n 0, 1) := by decide +kernel
theorem dX1_meet_210 : decode cX1_meet 210 = .ok (.getfield 40, 3) := by decide +kernel
theorem dX1_meet_213 : decode cX1_meet 213 = .ok (.iload 5, 2) := by decide +kernel
theorem dX1_meet_215 : decode cX1_meet 215 = .ok (.laload, 1) := by decide +kernel
theorem dX1_meet_216 : decode cX1_meet 216 = .ok (.lconst 0, 1) := by decide +kernel
theorem dX1_meet_217 : decode cX1_meet 217 = .ok (.lcmp, 1) := by decide +kernel
theorem dX1_meet_218 : decode cX1_meet 218 = .ok (.ifCond .ge 6, 3) := by decide +kernel
theorem dX1_meet_221 : decode cX1_meet 221 = .ok (.goto 81, 3) := by decide +kernel
theorem dX1_meet_224 : decode cX1_meet 224 = .ok (.aload_n 0, 1) := by decide +kernel
theorem dX1_meet_225 : decode cX1_meet 225 = .ok (.getfield 36, 3) := by decide +kernel
theorem dX1_meet_228 : decode cX1_meet 228 = .ok (.iload 4, 2) := by decide +kernel
theorem dX1_meet_230 : decode cX1_meet 230 = .ok (.laload, 1) := by decide +kernel
theorem dX1_meet_231 : decode cX1_meet 231 = .ok (.aload_n 0, 1) := by decide +kernel
theorem dX1_meet_232 : decode cX1_meet 232 = .ok (.getfield 40, 3) := by decide +kernel
theorem dX1_meet_235 : decode cX1_meet 235 = .ok (.iload 5, 2) := by decide +kernel
theorem dX1_meet_237 : decode cX1_meet 237 = .ok (.laload, 1) := by decide +kernel
theorem dX1_meet_238 : decode cX1_meet 238 = .ok (.invokestatic 93, 3) := by decide +kernel
theorem dX1_meet_241 : decode cX1_meet 241 = .ok (.aload_n 0, 1) := by decide +kernel
theorem dX1_meet_242 : decode cX1_meet 242 = .ok (.iload 4, 2) := by decide +kernel
theorem dX1_meet_244 : decode cX1_meet 244 = .ok (.aload_n 0, 1) := by decide +kernel
theorem dX1_meet_245 : decode cX1_meet 245 = .ok (.getfield 13, 3) := by decide +kernel
theorem dX1_meet_248 : decode cX1_meet 248 = .ok (.iload 5, 2) := by decide +kernel
theorem dX1_meet_250 : decode cX1_meet 250 = .ok (.iaload, 1) := by decide +kernel
theorem dX1_meet_251 : decode cX1_meet 251 = .ok (.i2l, 1) := by decide +kernel
theorem dX1_meet_252 : decode cX1_meet 252 = .ok (.aload_n 0, 1) := by decide +kernel
theorem dX1_meet_253 : decode cX1_meet 253 = .ok (.getfield 17, 3) := by decide +kernel
theorem dX1_meet_256 : decode cX1_meet 256 = .ok (.iload 5, 2) := by decide +kernel
theorem dX1_meet_258 : decode cX1_meet 258 = .ok (.iaload, 1) := by decide +kernel
theorem dX1_meet_259 : decode cX1_meet 259 = .ok (.i2l, 1) := by decide +kernel
theorem dX1_meet_260 : decode cX1_meet 260 = .ok (.invokevirtual 64, 3) := by decide +kernel
theorem dX1_meet_263 : decode cX1_meet 263 = .ok (.invokestatic 93, 3) := by decide +kernel
theorem dX1_meet_266 : decode cX1_meet 266 = .ok (.lstore 6, 2) := by decide +kernel
theorem dX1_meet_268 : decode cX1_meet 268 = .ok (.aload_n 0, 1) := by decide +kernel
theorem dX1_meet_269 : decode cX1_meet 269 = .ok (.getfield 36, 3) := by decide +kernel
theorem dX1_meet_272 : decode cX1_meet 272 = .ok (.iload 5, 2) := by decide +kernel
theorem dX1_meet_274 : decode cX1_meet 274 = .ok (.laload, 1) := by decide +kernel
theorem dX1_meet_275 : decode cX1_meet 275 = .ok (.lconst 0, 1) := by decide +kernel
theorem dX1_meet_276 : decode cX1_meet 276 = .ok (.lcmp, 1) := by decide +kernel
theorem dX1_meet_277 : decode cX1_meet 277 = .ok (.ifCond .lt 16, 3) := by decide +kernel
theorem dX1_meet_280 : decode cX1_meet 280 = .ok (.lload 6, 2) := by decide +kernel
theorem dX1_meet_282 : decode cX1_meet 282 = .ok (.aload_n 0, 1) := by decide +kernel
theorem dX1_meet_283 : decode cX1_meet 283 = .ok (.getfield 36, 3) := by decide +kernel
theorem dX1_meet_286 : decode cX1_meet 286 = .ok (.iload 5, 2) := by decide +kernel
theorem dX1_meet_288 : decode cX1_meet 288 = .ok (.laload, 1) := by decide +kernel
theorem dX1_meet_289 : decode cX1_meet 289 = .ok (.lcmp, 1) := by decide +kernel
theorem dX1_meet_290 : decode cX1_meet 290 = .ok (.ifCond .ge 12, 3) := by decide +kernel
theorem dX1_meet_293 : decode cX1_meet 293 = .ok (.aload_n 0, 1) := by decide +kernel
theorem dX1_meet_294 : decode cX1_meet 294 = .ok (.getfield 36, 3) := by decide +kernel
theorem dX1_meet_297 : decode cX1_meet 297 = .ok (.iload 5, 2) := by decide +kernel
theorem dX1_meet_299 : decode cX1_meet 299 = .ok (.lload 6, 2) := by decide +kernel
theorem dX1_meet_301 : decode cX1_meet 301 = .ok (.lastore, 1) := by decide +kernel
theorem dX1_meet_302 : decode cX1_meet 302 = .ok (.iinc 5 1, 3) := by decide +kernel
theorem dX1_meet_305 : decode cX1_meet 305 = .ok (.goto (-117), 3) := by decide +kernel
theorem dX1_meet_308 : decode cX1_meet 308 = .ok (.goto (-218), 3) := by decide +kernel
theorem dX1_meet_311 : decode cX1_meet 311 = .ok (.aload_n 0, 1) := by decide +kernel
theorem dX1_meet_312 : decode cX1_meet 312 = .ok (.getfield 36, 3) := by decide +kernel
theorem dX1_meet_315 : decode cX1_meet 315 = .ok (.iload_n 2, 1) := by decide +kernel
theorem dX1_meet_316 : decode cX1_meet 316 = .ok (.laload, 1) := by decide +kernel
theorem dX1_meet_317 : decode cX1_meet 317 = .ok (.lreturn, 1) := by decide +kernel
theorem dX1_crowds_0 : decode cX1_crowds 0 = .ok (.lload_n 1, 1) := by decide +kernel
theorem dX1_crowds_1 : decode cX1_crowds 1 = .ok (.lconst 0, 1) := by decide +kernel
theorem dX1_crowds_2 : decode cX1_crowds 2 = .ok (.lcmp, 1) := by decide +kernel
theorem dX1_crowds_3 : decode cX1_crowds 3 = .ok (.ifCond .ge 5, 3) := by decide +kernel
theorem dX1_crowds_6 : decode cX1_crowds 6 = .ok (.iconst (-1), 1) := by decide +kernel
theorem dX1_crowds_7 : decode cX1_crowds 7 = .ok (.ireturn, 1) := by decide +kernel
theorem dX1_crowds_8 : decode cX1_crowds 8 = .ok (.aload_n 0, 1) := by decide +kernel
theorem dX1_crowds_9 : decode cX1_crowds 9 = .ok (.lload_n 1, 1) := by decide +kernel
theorem dX1_crowds_10 : decode cX1_crowds 10 = .ok (.invokevirtual 85, 3) := by decide +kernel
theorem dX1_crowds_13 : decode cX1_crowds 13 = .ok (.aload_n 0, 1) := by decide +kernel
theorem dX1_crowds_14 : decode cX1_crowds 14 = .ok (.getfield 70, 3) := by decide +kernel
theorem dX1_crowds_17 : decode cX1_crowds 17 = .ok (.ireturn, 1) := by decide +kernel
theorem dX1_check_0 : decode cX1_check 0 = .ok (.iconst 1, 1) := by decide +kernel
theorem dX1_check_1 : decode cX1_check 1 = .ok (.ireturn, 1) := by decide +kernel
