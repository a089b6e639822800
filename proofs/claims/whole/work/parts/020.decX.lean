theorem dX0_init_0 : decode cX0_init 0 = .ok (.aload_n 0, 1) := by decide +kernel
theorem dX0_init_1 : decode cX0_init 1 = .ok (.invokespecial 3, 3) := by decide +kernel
theorem dX0_init_4 : decode cX0_init 4 = .ok (.aload_n 0, 1) := by decide +kernel
theorem dX0_init_5 : decode cX0_init 5 = .ok (.bipush 120, 2) := by decide +kernel
theorem dX0_init_7 : decode cX0_init 7 = .ok (.newarray .int, 2) := by decide +kernel
theorem dX0_init_9 : decode cX0_init 9 = .ok (.putfield 9, 3) := by decide +kernel
theorem dX0_init_12 : decode cX0_init 12 = .ok (.aload_n 0, 1) := by decide +kernel
theorem dX0_init_13 : decode cX0_init 13 = .ok (.bipush 120, 2) := by decide +kernel
theorem dX0_init_15 : decode cX0_init 15 = .ok (.newarray .int, 2) := by decide +kernel
theorem dX0_init_17 : decode cX0_init 17 = .ok (.putfield 13, 3) := by decide +kernel
theorem dX0_init_20 : decode cX0_init 20 = .ok (.aload_n 0, 1) := by decide +kernel
theorem dX0_init_21 : decode cX0_init 21 = .ok (.bipush 120, 2) := by decide +kernel
theorem dX0_init_23 : decode cX0_init 23 = .ok (.newarray .int, 2) := by decide +kernel
theorem dX0_init_25 : decode cX0_init 25 = .ok (.putfield 16, 3) := by decide +kernel
theorem dX0_init_28 : decode cX0_init 28 = .ok (.aload_n 0, 1) := by decide +kernel
theorem dX0_init_29 : decode cX0_init 29 = .ok (.iconst 0, 1) := by decide +kernel
theorem dX0_init_30 : decode cX0_init 30 = .ok (.putfield 19, 3) := by decide +kernel
theorem dX0_init_33 : decode cX0_init 33 = .ok (.aload_n 0, 1) := by decide +kernel
theorem dX0_init_34 : decode cX0_init 34 = .ok (.lconst 0, 1) := by decide +kernel
theorem dX0_init_35 : decode cX0_init 35 = .ok (.putfield 23, 3) := by decide +kernel
theorem dX0_init_38 : decode cX0_init 38 = .ok (.aload_n 0, 1) := by decide +kernel
theorem dX0_init_39 : decode cX0_init 39 = .ok (.iconst 1, 1) := by decide +kernel
theorem dX0_init_40 : decode cX0_init 40 = .ok (.putfield 27, 3) := by decide +kernel
theorem dX0_init_43 : decode cX0_init 43 = .ok (.aload_n 0, 1) := by decide +kernel
theorem dX0_init_44 : decode cX0_init 44 = .ok (.bipush 120, 2) := by decide +kernel
theorem dX0_init_46 : decode cX0_init 46 = .ok (.newarray .boolean, 2) := by decide +kernel
theorem dX0_init_48 : decode cX0_init 48 = .ok (.putfield 30, 3) := by decide +kernel
theorem dX0_init_51 : decode cX0_init 51 = .ok (.aload_n 0, 1) := by decide +kernel
theorem dX0_init_52 : decode cX0_init 52 = .ok (.bipush 120, 2) := by decide +kernel
theorem dX0_init_54 : decode cX0_init 54 = .ok (.newarray .int, 2) := by decide +kernel
theorem dX0_init_56 : decode cX0_init 56 = .ok (.putfield 34, 3) := by decide +kernel
theorem dX0_init_59 : decode cX0_init 59 = .ok (.aload_n 0, 1) := by decide +kernel
theorem dX0_init_60 : decode cX0_init 60 = .ok (.iconst 0, 1) := by decide +kernel
theorem dX0_init_61 : decode cX0_init 61 = .ok (.putfield 37, 3) := by decide +kernel
theorem dX0_init_64 : decode cX0_init 64 = .ok (.aload_n 0, 1) := by decide +kernel
theorem dX0_init_65 : decode cX0_init 65 = .ok (.lconst 0, 1) := by decide +kernel
theorem dX0_init_66 : decode cX0_init 66 = .ok (.putfield 40, 3) := by decide +kernel
theorem dX0_init_69 : decode cX0_init 69 = .ok (.aload_n 0, 1) := by decide +kernel
theorem dX0_init_70 : decode cX0_init 70 = .ok (.iconst 0, 1) := by decide +kernel
theorem dX0_init_71 : decode cX0_init 71 = .ok (.putfield 43, 3) := by decide +kernel
theorem dX0_init_74 : decode cX0_init 74 = .ok (.aload_n 0, 1) := by decide +kernel
theorem dX0_init_75 : decode cX0_init 75 = .ok (.bipush 120, 2) := by decide +kernel
theorem dX0_init_77 : decode cX0_init 77 = .ok (.newarray .long, 2) := by decide +kernel
theorem dX0_init_79 : decode cX0_init 79 = .ok (.putfield 47, 3) := by decide +kernel
theorem dX0_init_82 : decode cX0_init 82 = .ok (.aload_n 0, 1) := by decide +kernel
theorem dX0_init_83 : decode cX0_init 83 = .ok (.iconst 0, 1) := by decide +kernel
theorem dX0_init_84 : decode cX0_init 84 = .ok (.putfield 51, 3) := by decide +kernel
theorem dX0_init_87 : decode cX0_init 87 = .ok (.aload_n 0, 1) := by decide +kernel
theorem dX0_init_88 : decode cX0_init 88 = .ok (.bipush 120, 2) := by decide +kernel
theorem dX0_init_90 : decode cX0_init 90 = .ok (.newarray .long, 2) := by decide +kernel
theorem dX0_init_92 : decode cX0_init 92 = .ok (.putfield 54, 3) := by decide +kernel
theorem dX0_init_95 : decode cX0_init 95 = .ok (.aload_n 0, 1) := by decide +kernel
theorem dX0_init_96 : decode cX0_init 96 = .ok (.bipush 120, 2) := by decide +kernel
theorem dX0_init_98 : decode cX0_init 98 = .ok (.newarray .int, 2) := by decide +kernel
theorem dX0_init_100 : decode cX0_init 100 = .ok (.putfield 57, 3) := by decide +kernel
theorem dX0_init_103 : decode cX0_init 103 = .ok (.aload_n 0, 1) := by decide +kernel
theorem dX0_init_104 : decode cX0_init 104 = .ok (.bipush 120, 2) := by decide +kernel
theorem dX0_init_106 : decode cX0_init 106 = .ok (.newarray .long, 2) := by decide +kernel
theorem dX0_init_108 : decode cX0_init 108 = .ok (.putfield 60, 3) := by decide +kernel
theorem dX0_init_111 : decode cX0_init 111 = .ok (.aload_n 0, 1) := by decide +kernel
theorem dX0_init_112 : decode cX0_init 112 = .ok (.bipush 120, 2) := by decide +kernel
theorem dX0_init_114 : decode cX0_init 114 = .ok (.newarray .boolean, 2) := by decide +kernel
theorem dX0_init_116 : decode cX0_init 116 = .ok (.putfield 63, 3) := by decide +kernel
theorem dX0_init_119 : decode cX0_init 119 = .ok (.return_, 1) := by decide +kernel
theorem dX0_point_0 : decode cX0_point 0 = .ok (.iload_n 1, 1) := by decide +kernel
theorem dX0_point_1 : decode cX0_point 1 = .ok (.iload_n 2, 1) := by decide +kernel
theorem dX0_point_2 : decode cX0_point 2 = .ok (.invokestatic 66, 3) := by decide +kernel
theorem dX0_point_5 : decode cX0_point 5 = .ok (.ifCond .eq 14, 3) := by decide +kernel
theorem dX0_point_8 : decode cX0_point 8 = .ok (.iload_n 3, 1) := by decide +kernel
theorem dX0_point_9 : decode cX0_point 9 = .ok (.iconst 1, 1) := by decide +kernel
theorem dX0_point_10 : decode cX0_point 10 = .ok (.if_icmp .lt 9, 3) := by decide +kernel
theorem dX0_point_13 : decode cX0_point 13 = .ok (.iload_n 3, 1) := by decide +kernel
theorem dX0_point_14 : decode cX0_point 14 = .ok (.bipush 20, 2) := by decide +kernel
theorem dX0_point_16 : decode cX0_point 16 = .ok (.if_icmp .le 5, 3) := by decide +kernel
theorem dX0_point_19 : decode cX0_point 19 = .ok (.iconst (-1), 1) := by decide +kernel
theorem dX0_point_20 : decode cX0_point 20 = .ok (.ireturn, 1) := by decide +kernel
theorem dX0_point_21 : decode cX0_point 21 = .ok (.aload_n 0, 1) := by decide +kernel
theorem dX0_point_22 : decode cX0_point 22 = .ok (.invokevirtual 70, 3) := by decide +kernel
theorem dX0_point_25 : decode cX0_point 25 = .ok (.istore 4, 2) := by decide +kernel
theorem dX0_point_27 : decode cX0_point 27 = .ok (.iload 4, 2) := by decide +kernel
theorem dX0_point_29 : decode cX0_point 29 = .ok (.iconst (-1), 1) := by decide +kernel
theorem dX0_point_30 : decode cX0_point 30 = .ok (.if_icmp .ne 5, 3) := by decide +kernel
theorem dX0_point_33 : decode cX0_point 33 = .ok (.iconst (-1), 1) := by decide +kernel
theorem dX0_point_34 : decode cX0_point 34 = .ok (.ireturn, 1) := by decide +kernel
theorem dX0_point_35 : decode cX0_point 35 = .ok (.aload_n 0, 1) := by decide +kernel
theorem dX0_point_36 : decode cX0_point 36 = .ok (.getfield 9, 3) := by decide +kernel
theorem dX0_point_39 : decode cX0_point 39 = .ok (.iload 4, 2) := by decide +kernel
theorem dX0_point_41 : decode cX0_point 41 = .ok (.iload_n 3, 1) := by decide +kernel
theorem dX0_point_42 : decode cX0_point 42 = .ok (.iastore, 1) := by decide +kernel
theorem dX0_point_43 : decode cX0_point 43 = .ok (.aload_n 0, 1) := by decide +kernel
theorem dX0_point_44 : decode cX0_point 44 = .ok (.iload 4, 2) := by decide +kernel
theorem dX0_point_46 : decode cX0_point 46 = .ok (.iload_n 1, 1) := by decide +kernel
theorem dX0_point_47 : decode cX0_point 47 = .ok (.iload_n 2, 1) := by decide +kernel
theorem dX0_point_48 : decode cX0_point 48 = .ok (.invokevirtual 74, 3) := by decide +kernel
theorem dX0_point_51 : decode cX0_point 51 = .ok (.iload 4, 2) := by decide +kernel
theorem dX0_point_53 : decode cX0_point 53 = .ok (.ireturn, 1) := by decide +kernel
theorem dX0_remove_0 : decode cX0_remove 0 = .ok (.aload_n 0, 1) := by decide +kernel
theorem dX0_remove_1 : decode cX0_remove 1 = .ok (.iload_n 1, 1) := by decide +kernel
theorem dX0_remove_2 : decode cX0_remove 2 = .ok (.invokevirtual 78, 3) := by decide +kernel
theorem dX0_remove_5 : decode cX0_remove 5 = .ok (.ifCond .ne 5, 3) := by decide +kernel
theorem dX0_remove_8 : decode cX0_remove 8 = .ok (.iconst (-1), 1) := by decide +kernel
theorem dX0_remove_9 : decode cX0_remove 9 = .ok (.ireturn, 1) := by decide +kernel
theorem dX0_remove_10 : decode cX0_remove 10 = .ok (.aload_n 0, 1) := by decide +kernel
theorem dX0_remove_11 : decode cX0_remove 11 = .ok (.getfield 9, 3) := by decide +kernel
theorem dX0_remove_14 : decode cX0_remove 14 = .ok (.iload_n 1, 1) := by decide +kernel
theorem dX0_remove_15 : decode cX0_remove 15 = .ok (.iconst 0, 1) := by decide +kernel
theorem dX0_remove_16 : decode cX0_remove 16 = .ok (.iastore, 1) := by decide +kernel
theorem dX0_remove_17 : decode cX0_remove 17 = .ok (.aload_n 0, 1) := by decide +kernel
theorem dX0_remove_18 : decode cX0_remove 18 = .ok (.invokevirtual 82, 3) := by decide +kernel
theorem dX0_remove_21 : decode cX0_remove 21 = .ok (.aload_n 0, 1) := by decide +kernel
theorem dX0_remove_22 : decode cX0_remove 22 = .ok (.invokevirtual 85, 3) := by decide +kernel
theorem dX0_remove_25 : decode cX0_remove 25 = .ok (.ireturn, 1) := by decide +kernel
theorem dX0_move_0 : decode cX0_move 0 = .ok (.aload_n 0, 1) := by decide +kernel
theorem dX0_move_1 : decode cX0_move 1 = .ok (.iload_n 1, 1) := by decide +kernel
theorem dX0_move_2 : decode cX0_move 2 = .ok (.invokevirtual 78, 3) := by decide +kernel
theorem dX0_move_5 : decode cX0_move 5 = .ok (.ifCond .eq 11, 3) := by decide +kernel
theorem dX0_move_8 : decode cX0_move 8 = .ok (.iload_n 2, 1) := by decide +kernel
theorem dX0_move_9 : decode cX0_move 9 = .ok (.iload_n 3, 1) := by decide +kernel
theorem dX0_move_10 : decode cX0_move 10 = .ok (.invokestatic 66, 3) := by decide +kernel
theorem dX0_move_13 : decode cX0_move 13 = .ok (.ifCond .ne 5, 3) := by decide +kernel
theorem dX0_move_16 : decode cX0_move 16 = .ok (.iconst 0, 1) := by decide +kernel
theorem dX0_move_17 : decode cX0_move 17 = .ok (.ireturn, 1) := by decide +kernel
theorem dX0_move_18 : decode cX0_move 18 = .ok (.aload_n 0, 1) := by decide +kernel
theorem dX0_move_19 : decode cX0_move 19 = .ok (.iload_n 1, 1) := by decide +kernel
theorem dX0_move_20 : decode cX0_move 20 = .ok (.iload_n 2, 1) := by decide +kernel
theorem dX0_move_21 : decode cX0_move 21 = .ok (.iload_n 3, 1) := by decide +kernel
theorem dX0_move_22 : decode cX0_move 22 = .ok (.invokevirtual 74, 3) := by decide +kernel
theorem dX0_move_25 : decode cX0_move 25 = .ok (.iconst 1, 1) := by decide +kernel
theorem dX0_move_26 : decode cX0_move 26 = .ok (.ireturn, 1) := by decide +kernel
theorem dX0_way_0 : decode cX0_way 0 = .ok (.iload_n 1, 1) := by decide +kernel
theorem dX0_way_1 : decode cX0_way 1 = .ok (.ifCond .lt 8, 3) := by decide +kernel
theorem dX0_way_4 : decode cX0_way 4 = .ok (.iload_n 1, 1) := by decide +kernel
theorem dX0_way_5 : decode cX0_way 5 = .ok (.iconst 2, 1) := by decide +kernel
theorem dX0_way_6 : decode cX0_way 6 = .ok (.if_icmp .le 5, 3) := by decide +kernel
theorem dX0_way_9 : decode cX0_way 9 = .ok (.iconst 0, 1) := by decide +kernel
theorem dX0_way_10 : decode cX0_way 10 = .ok (.ireturn, 1) := by decide +kernel
theorem dX0_way_11 : decode cX0_way 11 = .ok (.aload_n 0, 1) := by decide +kernel
theorem dX0_way_12 : decode cX0_way 12 = .ok (.iload_n 1, 1) := by decide +kernel
theorem dX0_way_13 : decode cX0_way 13 = .ok (.putfield 19, 3) := by decide +kernel
theorem dX0_way_16 : decode cX0_way 16 = .ok (.aload_n 0, 1) := by decide +kernel
theorem dX0_way_17 : decode cX0_way 17 = .ok (.invokevirtual 82, 3) := by decide +kernel
theorem dX0_way_20 : decode cX0_way 20 = .ok (.iconst 1, 1) := by decide +kernel
theorem dX0_way_21 : decode cX0_way 21 = .ok (.ireturn, 1) := by decide +kernel
theorem dX0_reach_0 : decode cX0_reach 0 = .ok (.lload_n 1, 1) := by decide +kernel
theorem dX0_reach_1 : decode cX0_reach 1 = .ok (.lconst 0, 1) := by decide +kernel
theorem dX0_reach_2 : decode cX0_reach 2 = .ok (.lcmp, 1) := by decide +kernel
theorem dX0_reach_3 : decode cX0_reach 3 = .ok (.ifCond .ge 5, 3) := by decide +kernel
theorem dX0_reach_6 : decode cX0_reach 6 = .ok (.iconst 0, 1) := by decide +kernel
theorem dX0_reach_7 : decode cX0_reach 7 = .ok (.ireturn, 1) := by decide +kernel
theorem dX0_reach_8 : decode cX0_reach 8 = .ok (.aload_n 0, 1) := by decide +kernel
theorem dX0_reach_9 : decode cX0_reach 9 = .ok (.lload_n 1, 1) := by decide +kernel
theorem dX0_reach_10 : decode cX0_reach 10 = .ok (.putfield 23, 3) := by decide +kernel
theorem dX0_reach_13 : decode cX0_reach 13 = .ok (.iconst 1, 1) := by decide +kernel
theorem dX0_reach_14 : decode cX0_reach 14 = .ok (.ireturn, 1) := by decide +kernel
theorem dX0_demand_0 : decode cX0_demand 0 = .ok (.iload_n 1, 1) := by decide +kernel
theorem dX0_demand_1 : decode cX0_demand 1 = .ok (.iconst 1, 1) := by decide +kernel
theorem dX0_demand_2 : decode cX0_demand 2 = .ok (.if_icmp .lt 10, 3) := by decide +kernel
theorem dX0_demand_5 : decode cX0_demand 5 = .ok (.iload_n 1, 1) := by decide +kernel
theorem dX0_demand_6 : decode cX0_demand 6 = .ok (.sipush 2400, 3) := by decide +kernel
theorem dX0_demand_9 : decode cX0_demand 9 = .ok (.if_icmp .le 5, 3) := by decide +kernel
theorem dX0_demand_12 : decode cX0_demand 12 = .ok (.iconst 0, 1) := by decide +kernel
theorem dX0_demand_13 : decode cX0_demand 13 = .ok (.ireturn, 1) := by decide +kernel
theorem dX0_demand_14 : decode cX0_demand 14 = .ok (.aload_n 0, 1) := by decide +kernel
theorem dX0_demand_15 : decode cX0_demand 15 = .ok (.iload_n 1, 1) := by decide +kernel
theorem dX0_demand_16 : decode cX0_demand 16 = .ok (.putfield 27, 3) := by decide +kernel
theorem dX0_demand_19 : decode cX0_demand 19 = .ok (.aload_n 0, 1) := by decide +kernel
theorem dX0_demand_20 : decode cX0_demand 20 = .ok (.invokevirtual 82, 3) := by decide +kernel
theorem dX0_demand_23 : decode cX0_demand 23 = .ok (.iconst 1, 1) := by decide +kernel
theorem dX0_demand_24 : decode cX0_demand 24 = .ok (.ireturn, 1) := by decide +kernel
theorem dX0_distance_0 : decode cX0_distance 0 = .ok (.aload_n 0, 1) := by decide +kernel
theorem dX0_distance_1 : decode cX0_distance 1 = .ok (.iload_n 1, 1) := by decide +kernel
theorem dX0_distance_2 : decode cX0_distance 2 = .ok (.invokevirtual 78, 3) := by decide +kernel
theorem dX0_distance_5 : decode cX0_distance 5 = .ok (.ifCond .eq 11, 3) := by decide +kernel
theorem dX0_distance_8 : decode cX0_distance 8 = .ok (.aload_n 0, 1) := by decide +kernel
theorem dX0_distance_9 : decode cX0_distance 9 = .ok (.iload_n 2, 1) := by decide +kernel
theorem dX0_distance_10 : decode cX0_distance 10 = .ok (.invokevirtual 78, 3) := by decide +kernel
theorem dX0_distance_13 : decode cX0_distance 13 = .ok (.ifCond .ne 7, 3) := by decide +kernel
theorem dX0_distance_16 : decode cX0_distance 16 = .ok (.ldc2_w 88, 3) := by decide +kernel
theorem dX0_distance_19 : decode cX0_distance 19 = .ok (.lreturn, 1) := by decide +kernel
theorem dX0_distance_20 : decode cX0_distance 20 = .ok (.aload_n 0, 1) := by decide +kernel
theorem dX0_distance_21 : decode cX0_distance 21 = .ok (.iload_n 1, 1) := by decide +kernel
theorem dX0_distance_22 : decode cX0_distance 22 = .ok (.iload_n 2, 1) := by decide +kernel
theorem dX0_distance_23 : decode cX0_distance 23 = .ok (.invokevirtual 90, 3) := by decide +kernel
theorem dX0_distance_26 : decode cX0_distance 26 = .ok (.lreturn, 1) := by decide +kernel
theorem dX0_kind_0 : decode cX0_kind 0 = .ok (.aload_n 0, 1) := by decide +kernel
theorem dX0_kind_1 : decode cX0_kind 1 = .ok (.iload_n 1, 1) := by decide +kernel
theorem dX0_kind_2 : decode cX0_kind 2 = .ok (.invokevirtual 78, 3) := by decide +kernel
theorem dX0_kind_5 : decode cX0_kind 5 = .ok (.ifCond .ne 5, 3) := by decide +kernel
theorem dX0_kind_8 : decode cX0_kind 8 = .ok (.iconst (-1), 1) := by decide +kernel
theorem dX0_kind_9 : decode cX0_kind 9 = .ok (.ireturn, 1) := by decide +kernel
theorem dX0_kind_10 : decode cX0_kind 10 = .ok (.aload_n 0, 1) := by decide +kernel
theorem dX0_kind_11 : decode cX0_kind 11 = .ok (.aload_n 0, 1) := by decide +kernel
theorem dX0_kind_12 : decode cX0_kind 12 = .ok (.getfield 23, 3) := by decide +kernel
theorem dX0_kind_15 : decode cX0_kind 15 = .ok (.invokevirtual 94, 3) := by decide +kernel
theorem dX0_kind_18 : decode cX0_kind 18 = .ok (.aload_n 0, 1) := by decide +kernel
theorem dX0_kind_19 : decode cX0_kind 19 = .ok (.iload_n 1, 1) := by decide +kernel
theorem dX0_kind_20 : decode cX0_kind 20 = .ok (.invokevirtual 98, 3) := by decide +kernel
theorem dX0_kind_23 : decode cX0_kind 23 = .ok (.ireturn, 1) := by decide +kernel
theorem dX0_crowd_0 : decode cX0_crowd 0 = .ok (.aload_n 0, 1) := by decide +kernel
theorem dX0_crowd_1 : decode cX0_crowd 1 = .ok (.iload_n 1, 1) := by decide +kernel
theorem dX0_crowd_2 : decode cX0_crowd 2 = .ok (.invokevirtual 78, 3) := by decide +kernel
theorem dX0_crowd_5 : decode cX0_crowd 5 = .ok (.ifCond .ne 5, 3) := by decide +kernel
theorem dX0_crowd_8 : decode cX0_crowd 8 = .ok (.iconst (-1), 1) := by decide +kernel
theorem dX0_crowd_9 : decode cX0_crowd 9 = .ok (.ireturn, 1) := by decide +kernel
theorem dX0_crowd_10 : decode cX0_crowd 10 = .ok (.aload_n 0, 1) := by decide +kernel
theorem dX0_crowd_11 : decode cX0_crowd 11 = .ok (.aload_n 0, 1) := by decide +kernel
theorem dX0_crowd_12 : decode cX0_crowd 12 = .ok (.getfield 23, 3) := by decide +kernel
theorem dX0_crowd_15 : decode cX0_crowd 15 = .ok (.invokevirtual 94, 3) := by decide +kernel
theorem dX0_crowd_18 : decode cX0_crowd 18 = .ok (.aload_n 0, 1) := by decide +kernel
theorem dX0_crowd_19 : decode cX0_crowd 19 = .ok (.getfield 34, 3) := by decide +kernel
theorem dX0_crowd_22 : decode cX0_crowd 22 = .ok (.iload_n 1, 1) := by decide +kernel
theorem dX0_crowd_23 : decode cX0_crowd 23 = .ok (.iaload, 1) := by decide +kernel
theorem dX0_crowd_24 : decode cX0_crowd 24 = .ok (.ireturn, 1) := by decide +kernel
theorem dX0_around_0 : decode cX0_around 0 = .ok (.aload_n 0, 1) := by decide +kernel
theorem dX0_around_1 : decode cX0_around 1 = .ok (.iload_n 1, 1) := by decide +kernel
theorem dX0_around_2 : decode cX0_around 2 = .ok (.invokevirtual 78, 3) := by decide +kernel
theorem dX0_around_5 : decode cX0_around 5 = .ok (.ifCond .ne 5, 3) := by decide +kernel
theorem dX0_around_8 : decode cX0_around 8 = .ok (.iconst (-1), 1) := by decide +kernel
theorem dX0_around_9 : decode cX0_around 9 = .ok (.ireturn, 1) := by decide +kernel
theorem dX0_around_10 : decode cX0_around 10 = .ok (.aload_n 0, 1) := by decide +kernel
theorem dX0_around_11 : decode cX0_around 11 = .ok (.iload_n 1, 1) := by decide +kernel
theorem dX0_around_12 : decode cX0_around 12 = .ok (.aload_n 0, 1) := by decide +kernel
theorem dX0_around_13 : decode cX0_around 13 = .ok (.getfield 23, 3) := by decide +kernel
theorem dX0_around_16 : decode cX0_around 16 = .ok (.invokevirtual 102, 3) := by decide +kernel
theorem dX0_around_19 : decode cX0_around 19 = .ok (.ireturn, 1) := by decide +kernel
theorem dX0_dense_0 : decode cX0_dense 0 = .ok (.aload_n 0, 1) := by decide +kernel
theorem dX0_dense_1 : decode cX0_dense 1 = .ok (.iload_n 1, 1) := by decide +kernel
theorem dX0_dense_2 : decode cX0_dense 2 = .ok (.invokevirtual 78, 3) := by decide +kernel
theorem dX0_dense_5 : decode cX0_dense 5 = .ok (.ifCond .ne 7, 3) := by decide +kernel
theorem dX0_dense_8 : decode cX0_dense 8 = .ok (.ldc2_w 88, 3) := by decide +kernel
theorem dX0_dense_11 : decode cX0_dense 11 = .ok (.lreturn, 1) := by decide +kernel
theorem dX0_dense_12 : decode cX0_dense 12 = .ok (.aload_n 0, 1) := by decide +kernel
theorem dX0_dense_13 : decode cX0_dense 13 = .ok (.iload_n 1, 1) := by decide +kernel
theorem dX0_dense_14 : decode cX0_dense 14 = .ok (.invokevirtual 106, 3) := by decide +kernel
theorem dX0_dense_17 : decode cX0_dense 17 = .ok (.lreturn, 1) := by decide +kernel
theorem dX0_meet_0 : decode cX0_meet 0 = .ok (.aload_n 0, 1) := by decide +kernel
theorem dX0_meet_1 : decode cX0_meet 1 = .ok (.iload_n 1, 1) := by decide +kernel
theorem dX0_meet_2 : decode cX0_meet 2 = .ok (.invokevirtual 78, 3) := by decide +kernel
theorem dX0_meet_5 : decode cX0_meet 5 = .ok (.ifCond .eq 22, 3) := by decide +kernel
theorem dX0_meet_8 : decode cX0_meet 8 = .ok (.aload_n 0, 1) := by decide +kernel
theorem dX0_meet_9 : decode cX0_meet 9 = .ok (.iload_n 2, 1) := by decide +kernel
theorem dX0_meet_10 : decode cX0_meet 10 = .ok (.invokevirtual 78, 3) := by decide +kernel
theorem dX0_meet_13 : decode cX0_meet 13 = .ok (.ifCond .eq 14, 3) := by decide +kernel
theorem dX0_meet_16 : decode cX0_meet 16 = .ok (.aload_n 0, 1) := by decide +kernel
theorem dX0_meet_17 : decode cX0_meet 17 = .ok (.invokevirtual 110, 3) := by decide +kernel
theorem dX0_meet_20 : decode cX0_meet 20 = .ok (.aload_n 0, 1) := by decide +kernel
theorem dX0_meet_21 : decode cX0_meet 21 = .ok (.getfield 27, 3) := by decide +kernel
theorem dX0_meet_24 : decode cX0_meet 24 = .ok (.if_icmp .ge 7, 3) := by decide +kernel
theorem dX0_meet_27 : decode cX0_meet 27 = .ok (.ldc2_w 88, 3) := by decide +kernel
theorem dX0_meet_30 : decode cX0_meet 30 = .ok (.lreturn, 1) := by decide +kernel
theorem dX0_meet_31 : decode cX0_meet 31 = .ok (.aload_n 0, 1) := by decide +kernel
theorem dX0_meet_32 : decode cX0_meet 32 = .ok (.invokevirtual 113, 3) := by decide +kernel
theorem dX0_meet_35 : decode cX0_meet 35 = .ok (.aload_n 0, 1) := by decide +kernel
theorem dX0_meet_36 : decode cX0_meet 36 = .ok (.iload_n 1, 1) := by decide +kernel
theorem dX0_meet_37 : decode cX0_meet 37 = .ok (.iload_n 2, 1) := by decide +kernel
theorem dX0_meet_38 : decode cX0_meet 38 = .ok (.invokevirtual 116, 3) := by decide +kernel
theorem dX0_meet_41 : decode cX0_meet 41 = .ok (.lreturn, 1) := by decide +kernel
theorem dX0_count_0 : decode cX0_count 0 = .ok (.iload_n 1, 1) := by decide +kernel
theorem dX0_count_1 : decode cX0_count 1 = .ok (.ifCond .lt 16, 3) := by decide +kernel
theorem dX0_count_4 : decode cX0_count 4 = .ok (.iload_n 1, 1) := by decide +kernel
theorem dX0_count_5 : decode cX0_count 5 = .ok (.iconst 3, 1) := by decide +kernel
theorem dX0_count_6 : decode cX0_count 6 = .ok (.if_icmp .gt 11, 3) := by decide +kernel
theorem dX0_count_9 : decode cX0_count 9 = .ok (.aload_n 0, 1) := by decide +kernel
theorem dX0_count_10 : decode cX0_count 10 = .ok (.aload_n 0, 1) := by decide +kernel
theorem dX0_count_11 : decode cX0_count 11 = .ok (.getfield 23, 3) := by decide +kernel
theorem dX0_count_14 : decode cX0_count 14 = .ok (.invokevirtual 94, 3) := by decide +kernel
theorem dX0_count_17 : decode cX0_count 17 = .ok (.iload_n 1, 1) := by decide +kernel
theorem dX0_count_18 : decode cX0_count 18 = .ok (.tableswitch 71 0 5 #[38, 43, 49, 55, 61, 66], 38) := by decide +kernel
theorem dX0_count_56 : decode cX0_count 56 = .ok (.aload_n 0, 1) := by decide +kernel
theorem dX0_count_57 : decode cX0_count 57 = .ok (.getfield 37, 3) := by decide +kernel
theorem dX0_count_60 : decode cX0_count 60 = .ok (.ireturn, 1) := by decide +kernel
theorem dX0_count_61 : decode cX0_count 61 = .ok (.aload_n 0, 1) := by decide +kernel
theorem dX0_count_62 : decode cX0_count 62 = .ok (.iconst 2, 1) := by decide +kernel
theorem dX0_count_63 : decode cX0_count 63 = .ok (.invokevirtual 119, 3) := by decide +kernel
theorem dX0_count_66 : decode cX0_count 66 = .ok (.ireturn, 1) := by decide +kernel
theorem dX0_count_67 : decode cX0_count 67 = .ok (.aload_n 0, 1) := by decide +kernel
theorem dX0_count_68 : decode cX0_count 68 = .ok (.iconst 1, 1) := by decide +kernel
theorem dX0_count_69 : decode cX0_count 69 = .ok (.invokevirtual 119, 3) := by decide +kernel
theorem dX0_count_72 : decode cX0_count 72 = .ok (.ireturn, 1) := by decide +kernel
theorem dX0_count_73 : decode cX0_count 73 = .ok (.aload_n 0, 1) := by decide +kernel
theorem dX0_count_74 : decode cX0_count 74 = .ok (.iconst 0, 1) := by decide +kernel
theorem dX0_count_75 : decode cX0_count 75 = .ok (.invokevirtual 119, 3) := by decide +kernel
theorem dX0_count_78 : decode cX0_count 78 = .ok (.ireturn, 1) := by decide +kernel
theorem dX0_count_79 : decode cX0_count 79 = .ok (.aload_n 0, 1) := by decide +kernel
theorem dX0_count_80 : decode cX0_count 80 = .ok (.invokevirtual 85, 3) := by decide +kernel
theorem dX0_count_83 : decode cX0_count 83 = .ok (.ireturn, 1) := by decide +kernel
theorem dX0_count_84 : decode cX0_count 84 = .ok (.aload_n 0, 1) := by decide +kernel
theorem dX0_count_85 : decode cX0_count 85 = .ok (.invokevirtual 110, 3) := by decide +kernel
theorem dX0_count_88 : decode cX0_count 88 = .ok (.ireturn, 1) := by decide +kernel
theorem dX0_count_89 : decode cX0_count 89 = .ok (.iconst (-1), 1) := by decide +kernel
theorem dX0_count_90 : decode cX0_count 90 = .ok (.ireturn, 1) := by decide +kernel
theorem dX0_about_0 : decode cX0_about 0 = .ok (.aload_n 0, 1) := by decide +kernel
theorem dX0_about_1 : decode cX0_about 1 = .ok (.aload_n 0, 1) := by decide +kernel
theorem dX0_about_2 : decode cX0_about 2 = .ok (.getfield 23, 3) := by decide +kernel
theorem dX0_about_5 : decode cX0_about 5 = .ok (.invokevirtual 94, 3) := by decide +kernel
theorem dX0_about_8 : decode cX0_about 8 = .ok (.iload_n 1, 1) := by decide +kernel
theorem dX0_about_9 : decode cX0_about 9 = .ok (.ifCond .lt 11, 3) := by decide +kernel
theorem dX0_about_12 : decode cX0_about 12 = .ok (.iload_n 1, 1) := by decide +kernel
theorem dX0_about_13 : decode cX0_about 13 = .ok (.aload_n 0, 1) := by decide +kernel
theorem dX0_about_14 : decode cX0_about 14 = .ok (.getfield 37, 3) := by decide +kernel
theorem dX0_about_17 : decode cX0_about 17 = .ok (.if_icmp .lt 5, 3) := by decide +kernel
theorem dX0_about_20 : decode cX0_about 20 = .ok (.iconst (-1), 1) := by decide +kernel
theorem dX0_about_21 : decode cX0_about 21 = .ok (.ireturn, 1) := by decide +kernel
theorem dX0_about_22 : decode cX0_about 22 = .ok (.iload_n 2, 1) := by decide +kernel
theorem dX0_about_23 : decode cX0_about 23 = .ok (.tableswitch 109 0 7 #[45, 51, 57, 63, 69, 79, 89, 99], 45) := by decide +kernel
theorem dX0_about_68 : decode cX0_about 68 = .ok (.aload_n 0, 1) := by decide +kernel
theorem dX0_about_69 : decode cX0_about 69 = .ok (.iload_n 1, 1) := by decide +kernel
theorem dX0_about_70 : decode cX0_about 70 = .ok (.invokevirtual 122, 3) := by decide +kernel
theorem dX0_about_73 : decode cX0_about 73 = .ok (.ireturn, 1) := by decide +kernel
theorem dX0_about_74 : decode cX0_about 74 = .ok (.aload_n 0, 1) := by decide +kernel
theorem dX0_about_75 : decode cX0_about 75 = .ok (.iload_n 1, 1) := by decide +kernel
theorem dX0_about_76 : decode cX0_about 76 = .ok (.invokevirtual 125, 3) := by decide +kernel
theorem dX0_about_79 : decode cX0_about 79 = .ok (.ireturn, 1) := by decide +kernel
theorem dX0_about_80 : decode cX0_about 80 = .ok (.aload_n 0, 1) := by decide +kernel
theorem dX0_about_81 : decode cX0_about 81 = .ok (.iload_n 1, 1) := by decide +kernel
theorem dX0_about_82 : decode cX0_about 82 = .ok (.invokevirtual 128, 3) := by decide +kernel
theorem dX0_about_85 : decode cX0_about 85 = .ok (.ireturn, 1) := by decide +kernel
theorem dX0_about_86 : decode cX0_about 86 = .ok (.aload_n 0, 1) := by decide +kernel
theorem dX0_about_87 : decode cX0_about 87 = .ok (.iload_n 1, 1) := by decide +kernel
theorem dX0_about_88 : decode cX0_about 88 = .ok (.invokevirtual 131, 3) := by decide +kernel
theorem dX0_about_91 : decode cX0_about 91 = .ok (.ireturn, 1) := by decide +kernel
theorem dX0_about_92 : decode cX0_about 92 = .ok (.aload_n 0, 1) := by decide +kernel
theorem dX0_about_93 : decode cX0_about 93 = .ok (.aload_n 0, 1) := by decide +kernel
theorem dX0_about_94 : decode cX0_about 94 = .ok (.getfield 13, 3) := by decide +kernel
theorem dX0_about_97 : decode cX0_about 97 = .ok (.iload_n 1, 1) := by decide +kernel
theorem dX0_about_98 : decode cX0_about 98 = .ok (.invokevirtual 134, 3) := by decide +kernel
theorem dX0_about_101 : decode cX0_about 101 = .ok (.ireturn, 1) := by decide +kernel
theorem dX0_about_102 : decode cX0_about 102 = .ok (.aload_n 0, 1) := by decide +kernel
theorem dX0_about_103 : decode cX0_about 103 = .ok (.aload_n 0, 1) := by decide +kernel
theorem dX0_about_104 : decode cX0_about 104 = .ok (.getfield 16, 3) := by decide +kernel
theorem dX0_about_107 : decode cX0_about 107 = .ok (.iload_n 1, 1) := by decide +kernel
theorem dX0_about_108 : decode cX0_about 108 = .ok (.invokevirtual 134, 3) := by decide +kernel
theorem dX0_about_111 : decode cX0_about 111 = .ok (.ireturn, 1) := by decide +kernel
theorem dX0_about_112 : decode cX0_about 112 = .ok (.aload_n 0, 1) := by decide +kernel
theorem dX0_about_113 : decode cX0_about 113 = .ok (.aload_n 0, 1) := by decide +kernel
theorem dX0_about_114 : decode cX0_about 114 = .ok (.getfield 13, 3) := by decide +kernel
theorem dX0_about_117 : decode cX0_about 117 = .ok (.iload_n 1, 1) := by decide +kernel
theorem dX0_about_118 : decode cX0_about 118 = .ok (.invokevirtual 138, 3) := by decide +kernel
theorem dX0_about_121 : decode cX0_about 121 = .ok (.ireturn, 1) := by decide +kernel
theorem dX0_about_122 : decode cX0_about 122 = .ok (.aload_n 0, 1) := by decide +kernel
theorem dX0_about_123 : decode cX0_about 123 = .ok (.aload_n 0, 1) := by decide +kernel
theorem dX0_about_124 : decode cX0_about 124 = .ok (.getfield 16, 3) := by decide +kernel
theorem dX0_about_127 : decode cX0_about 127 = .ok (.iload_n 1, 1) := by decide +kernel
theorem dX0_about_128 : decode cX0_about 128 = .ok (.invokevirtual 138, 3) := by decide +kernel
theorem dX0_about_131 : decode cX0_about 131 = .ok (.ireturn, 1) := by decide +kernel
theorem dX0_about_132 : decode cX0_about 132 = .ok (.iconst (-1), 1) := by decide +kernel
theorem dX0_about_133 : decode cX0_about 133 = .ok (.ireturn, 1) := by decide +kernel
theorem dX0_belongs_0 : decode cX0_belongs 0 = .ok (.iload_n 1, 1) := by decide +kernel
theorem dX0_belongs_1 : decode cX0_belongs 1 = .ok (.iload_n 2, 1) := by decide +kernel
theorem dX0_belongs_2 : decode cX0_belongs 2 = .ok (.invokestatic 66, 3) := by decide +kernel
theorem dX0_belongs_5 : decode cX0_belongs 5 = .ok (.ifCond .ne 5, 3) := by decide +kernel
theorem dX0_belongs_8 : decode cX0_belongs 8 = .ok (.iconst (-1), 1) := by decide +kernel
theorem dX0_belongs_9 : decode cX0_belongs 9 = .ok (.ireturn, 1) := by decide +kernel
theorem dX0_belongs_10 : decode cX0_belongs 10 = .ok (.aload_n 0, 1) := by decide +kernel
theorem dX0_belongs_11 : decode cX0_belongs 11 = .ok (.aload_n 0, 1) := by decide +kernel
theorem dX0_belongs_12 : decode cX0_belongs 12 = .ok (.getfield 23, 3) := by decide +kernel
theorem dX0_belongs_15 : decode cX0_belongs 15 = .ok (.invokevirtual 94, 3) := by decide +kernel
theorem dX0_belongs_18 : decode cX0_belongs 18 = .ok (.aload_n 0, 1) := by decide +kernel
theorem dX0_belongs_19 : decode cX0_belongs 19 = .ok (.iload_n 1, 1) := by decide +kernel
theorem dX0_belongs_20 : decode cX0_belongs 20 = .ok (.iload_n 2, 1) := by decide +kernel
theorem dX0_belongs_21 : decode cX0_belongs 21 = .ok (.aload_n 0, 1) := by decide +kernel
theorem dX0_belongs_22 : decode cX0_belongs 22 = .ok (.getfield 23, 3) := by decide +kernel
theorem dX0_belongs_25 : decode cX0_belongs 25 = .ok (.invokevirtual 141, 3) := by decide +kernel
theorem dX0_belongs_28 : decode cX0_belongs 28 = .ok (.ireturn, 1) := by decide +kernel
theorem dX0_crowds_0 : decode cX0_crowds 0 = .ok (.lload_n 1, 1) := by decide +kernel
theorem dX0_crowds_1 : decode cX0_crowds 1 = .ok (.lconst 0, 1) := by decide +kernel
theorem dX0_crowds_2 : decode cX0_crowds 2 = .ok (.lcmp, 1) := by decide +kernel
theorem dX0_crowds_3 : decode cX0_crowds 3 = .ok (.ifCond .ge 5, 3) := by decide +kernel
theorem dX0_crowds_6 : decode cX0_crowds 6 = .ok (.iconst (-1), 1) := by decide +kernel
theorem dX0_crowds_7 : decode cX0_crowds 7 = .ok (.ireturn, 1) := by decide +kernel
theorem dX0_crowds_8 : decode cX0_crowds 8 = .ok (.aload_n 0, 1) := by decide +kernel
theorem dX0_crowds_9 : decode cX0_crowds 9 = .ok (.lload_n 1, 1) := by decide +kernel
theorem dX0_crowds_10 : decode cX0_crowds 10 = .ok (.invokevirtual 94, 3) := by decide +kernel
theorem dX0_crowds_13 : decode cX0_crowds 13 = .ok (.aload_n 0, 1) := by decide +kernel
theorem dX0_crowds_14 : decode cX0_crowds 14 = .ok (.getfield 37, 3) := by decide +kernel
theorem dX0_crowds_17 : decode cX0_crowds 17 = .ok (.ireturn, 1) := by decide +kernel
theorem dX0_check_0 : decode cX0_check 0 = .ok (.aload_n 0, 1) := by decide +kernel
theorem dX0_check_1 : decode cX0_check 1 = .ok (.aload_n 0, 1) := by decide +kernel
theorem dX0_check_2 : decode cX0_check 2 = .ok (.getfield 23, 3) := by decide +kernel
theorem dX0_check_5 : decode cX0_check 5 = .ok (.invokevirtual 94, 3) := by decide +kernel
theorem dX0_check_8 : decode cX0_check 8 = .ok (.iconst 0, 1) := by decide +kernel
theorem dX0_check_9 : decode cX0_check 9 = .ok (.istore_n 1, 1) := by decide +kernel
theorem dX0_check_10 : decode cX0_check 10 = .ok (.iload_n 1, 1) := by decide +kernel
theorem dX0_check_11 : decode cX0_check 11 = .ok (.bipush 120, 2) := by decide +kernel
theorem dX0_check_13 : decode cX0_check 13 = .ok (.if_icmp .ge 28, 3) := by decide +kernel
theorem dX0_check_16 : decode cX0_check 16 = .ok (.aload_n 0, 1) := by decide +kernel
theorem dX0_check_17 : decode cX0_check 17 = .ok (.getfield 30, 3) := by decide +kernel
theorem dX0_check_20 : decode cX0_check 20 = .ok (.iload_n 1, 1) := by decide +kernel
theorem dX0_check_21 : decode cX0_check 21 = .ok (.baload, 1) := by decide +kernel
theorem dX0_check_22 : decode cX0_check 22 = .ok (.ifCond .eq 13, 3) := by decide +kernel
theorem dX0_check_25 : decode cX0_check 25 = .ok (.aload_n 0, 1) := by decide +kernel
theorem dX0_check_26 : decode cX0_check 26 = .ok (.iload_n 1, 1) := by decide +kernel
theorem dX0_check_27 : decode cX0_check 27 = .ok (.invokevirtual 145, 3) := by decide +kernel
theorem dX0_check_30 : decode cX0_check 30 = .ok (.ifCond .ne 5, 3) := by decide +kernel
theorem dX0_check_33 : decode cX0_check 33 = .ok (.iconst 0, 1) := by decide +kernel
theorem dX0_check_34 : decode cX0_check 34 = .ok (.ireturn, 1) := by decide +kernel
theorem dX0_check_35 : decode cX0_check 35 = .ok (.iinc 1 1, 3) := by decide +kernel
theorem dX0_check_38 : decode cX0_check 38 = .ok (.goto (-28), 3) := by decide +kernel
theorem dX0_check_41 : decode cX0_check 41 = .ok (.iconst 1, 1) := by decide +kernel
theorem dX0_check_42 : decode cX0_check 42 = .ok (.ireturn, 1) := by decide +kernel
theorem dX0_isPlace_0 : decode cX0_isPlace 0 = .ok (.iload_n 0, 1) := by decide +kernel
theorem dX0_isPlace_1 : decode cX0_isPlace 1 = .ok (.ldc 148, 2) := by decide +kernel
theorem dX0_isPlace_3 : decode cX0_isPlace 3 = .ok (.if_icmp .lt 25, 3) := by decide +kernel
theorem dX0_isPlace_6 : decode cX0_isPlace 6 = .ok (.iload_n 0, 1) := by decide +kernel
theorem dX0_isPlace_7 : decode cX0_isPlace 7 = .ok (.ldc 149, 2) := by decide +kernel
theorem dX0_isPlace_9 : decode cX0_isPlace 9 = .ok (.if_icmp .gt 19, 3) := by decide +kernel
theorem dX0_isPlace_12 : decode cX0_isPlace 12 = .ok (.iload_n 1, 1) := by decide +kernel
theorem dX0_isPlace_13 : decode cX0_isPlace 13 = .ok (.ldc 148, 2) := by decide +kernel
theorem dX0_isPlace_15 : decode cX0_isPlace 15 = .ok (.if_icmp .lt 13, 3) := by decide +kernel
theorem dX0_isPlace_18 : decode cX0_isPlace 18 = .ok (.iload_n 1, 1) := by decide +kernel
theorem dX0_isPlace_19 : decode cX0_isPlace 19 = .ok (.ldc 149, 2) := by decide +kernel
theorem dX0_isPlace_21 : decode cX0_isPlace 21 = .ok (.if_icmp .gt 7, 3) := by decide +kernel
theorem dX0_isPlace_24 : decode cX0_isPlace 24 = .ok (.iconst 1, 1) := by decide +kernel
theorem dX0_isPlace_25 : decode cX0_isPlace 25 = .ok (.goto 4, 3) := by decide +kernel
theorem dX0_isPlace_28 : decode cX0_isPlace 28 = .ok (.iconst 0, 1) := by decide +kernel
theorem dX0_isPlace_29 : decode cX0_isPlace 29 = .ok (.ireturn, 1) := by decide +kernel
theorem dX0_isPoint_0 : decode cX0_isPoint 0 = .ok (.iload_n 1, 1) := by decide +kernel
theorem dX0_isPoint_1 : decode cX0_isPoint 1 = .ok (.ifCond .lt 22, 3) := by decide +kernel
theorem dX0_isPoint_4 : decode cX0_isPoint 4 = .ok (.iload_n 1, 1) := by decide +kernel
theorem dX0_isPoint_5 : decode cX0_isPoint 5 = .ok (.bipush 120, 2) := by decide +kernel
theorem dX0_isPoint_7 : decode cX0_isPoint 7 = .ok (.if_icmp .ge 16, 3) := by decide +kernel
theorem dX0_isPoint_10 : decode cX0_isPoint 10 = .ok (.aload_n 0, 1) := by decide +kernel
theorem dX0_isPoint_11 : decode cX0_isPoint 11 = .ok (.getfield 9, 3) := by decide +kernel
theorem dX0_isPoint_14 : decode cX0_isPoint 14 = .ok (.iload_n 1, 1) := by decide +kernel
theorem dX0_isPoint_15 : decode cX0_isPoint 15 = .ok (.iaload, 1) := by decide +kernel
theorem dX0_isPoint_16 : decode cX0_isPoint 16 = .ok (.ifCond .le 7, 3) := by decide +kernel
theorem dX0_isPoint_19 : decode cX0_isPoint 19 = .ok (.iconst 1, 1) := by decide +kernel
theorem dX0_isPoint_20 : decode cX0_isPoint 20 = .ok (.goto 4, 3) := by decide +kernel
theorem dX0_isPoint_23 : decode cX0_isPoint 23 = .ok (.iconst 0, 1) := by decide +kernel
theorem dX0_isPoint_24 : decode cX0_isPoint 24 = .ok (.ireturn, 1) := by decide +kernel
theorem dX0_leastFree_0 : decode cX0_leastFree 0 = .ok (.iconst 0, 1) := by decide +kernel
theorem dX0_leastFree_1 : decode cX0_leastFree 1 = .ok (.istore_n 1, 1) := by decide +kernel
theorem dX0_leastFree_2 : decode cX0_leastFree 2 = .ok (.iload_n 1, 1) := by decide +kernel
theorem dX0_leastFree_3 : decode cX0_leastFree 3 = .ok (.bipush 120, 2) := by decide +kernel
theorem dX0_leastFree_5 : decode cX0_leastFree 5 = .ok (.if_icmp .ge 20, 3) := by decide +kernel
theorem dX0_leastFree_8 : decode cX0_leastFree 8 = .ok (.aload_n 0, 1) := by decide +kernel
theorem dX0_leastFree_9 : decode cX0_leastFree 9 = .ok (.getfield 9, 3) := by decide +kernel
theorem dX0_leastFree_12 : decode cX0_leastFree 12 = .ok (.iload_n 1, 1) := by decide +kernel
theorem dX0_leastFree_13 : decode cX0_leastFree 13 = .ok (.iaload, 1) := by decide +kernel
theorem dX0_leastFree_14 : decode cX0_leastFree 14 = .ok (.ifCond .ne 5, 3) := by decide +kernel
theorem dX0_leastFree_17 : decode cX0_leastFree 17 = .ok (.iload_n 1, 1) := by decide +kernel
theorem dX0_leastFree_18 : decode cX0_leastFree 18 = .ok (.ireturn, 1) := by decide +kernel
theorem dX0_leastFree_19 : decode cX0_leastFree 19 = .ok (.iinc 1 1, 3) := by decide +kernel
theorem dX0_leastFree_22 : decode cX0_leastFree 22 = .ok (.goto (-20), 3) := by decide +kernel
theorem dX0_leastFree_25 : decode cX0_leastFree 25 = .ok (.iconst (-1), 1) := by decide +kernel
theorem dX0_leastFree_26 : decode cX0_leastFree 26 = .ok (.ireturn, 1) := by decide +kernel
theorem dX0_put_0 : decode cX0_put 0 = .ok (.aload_n 0, 1) := by decide +kernel
theorem dX0_put_1 : decode cX0_put 1 = .ok (.getfield 13, 3) := by decide +kernel
theorem dX0_put_4 : decode cX0_put 4 = .ok (.iload_n 1, 1) := by decide +kernel
theorem dX0_put_5 : decode cX0_put 5 = .ok (.iload_n 2, 1) := by decide +kernel
theorem dX0_put_6 : decode cX0_put 6 = .ok (.iastore, 1) := by decide +kernel
theorem dX0_put_7 : decode cX0_put 7 = .ok (.aload_n 0, 1) := by decide +kernel
theorem dX0_put_8 : decode cX0_put 8 = .ok (.getfield 16, 3) := by decide +kernel
theorem dX0_put_11 : decode cX0_put 11 = .ok (.iload_n 1, 1) := by decide +kernel
theorem dX0_put_12 : decode cX0_put 12 = .ok (.iload_n 3, 1) := by decide +kernel
theorem dX0_put_13 : decode cX0_put 13 = .ok (.iastore, 1) := by decide +kernel
theorem dX0_put_14 : decode cX0_put 14 = .ok (.aload_n 0, 1) := by decide +kernel
theorem dX0_put_15 : decode cX0_put 15 = .ok (.invokevirtual 82, 3) := by decide +kernel
theorem dX0_put_18 : decode cX0_put 18 = .ok (.return_, 1) := by decide +kernel
theorem dX0_forget_0 : decode cX0_forget 0 = .ok (.aload_n 0, 1) := by decide +kernel
theorem dX0_forget_1 : decode cX0_forget 1 = .ok (.iconst 0, 1) := by decide +kernel
theorem dX0_forget_2 : decode cX0_forget 2 = .ok (.putfield 43, 3) := by decide +kernel
theorem dX0_forget_5 : decode cX0_forget 5 = .ok (.aload_n 0, 1) := by decide +kernel
theorem dX0_forget_6 : decode cX0_forget 6 = .ok (.iconst 0, 1) := by decide +kernel
theorem dX0_forget_7 : decode cX0_forget 7 = .ok (.putfield 51, 3) := by decide +kernel
theorem dX0_forget_10 : decode cX0_forget 10 = .ok (.return_, 1) := by decide +kernel
theorem dX0_countPoints_0 : decode cX0_countPoints 0 = .ok (.iconst 0, 1) := by decide +kernel
theorem dX0_countPoints_1 : decode cX0_countPoints 1 = .ok (.istore_n 1, 1) := by decide +kernel
theorem dX0_countPoints_2 : decode cX0_countPoints 2 = .ok (.iconst 0, 1) := by decide +kernel
theorem dX0_countPoints_3 : decode cX0_countPoints 3 = .ok (.istore_n 2, 1) := by decide +kernel
theorem dX0_countPoints_4 : decode cX0_countPoints 4 = .ok (.iload_n 2, 1) := by decide +kernel
theorem dX0_countPoints_5 : decode cX0_countPoints 5 = .ok (.bipush 120, 2) := by decide +kernel
theorem dX0_countPoints_7 : decode cX0_countPoints 7 = .ok (.if_icmp .ge 21, 3) := by decide +kernel
theorem dX0_countPoints_10 : decode cX0_countPoints 10 = .ok (.aload_n 0, 1) := by decide +kernel
theorem dX0_countPoints_11 : decode cX0_countPoints 11 = .ok (.getfield 9, 3) := by decide +kernel
theorem dX0_countPoints_14 : decode cX0_countPoints 14 = .ok (.iload_n 2, 1) := by decide +kernel
theorem dX0_countPoints_15 : decode cX0_countPoints 15 = .ok (.iaload, 1) := by decide +kernel
theorem dX0_countPoints_16 : decode cX0_countPoints 16 = .ok (.ifCond .le 6, 3) := by decide +kernel
theorem dX0_countPoints_19 : decode cX0_countPoints 19 = .ok (.iinc 1 1, 3) := by decide +kernel
theorem dX0_countPoints_22 : decode cX0_countPoints 22 = .ok (.iinc 2 1, 3) := by decide +kernel
theorem dX0_countPoints_25 : decode cX0_countPoints 25 = .ok (.goto (-21), 3) := by decide +kernel
theorem dX0_countPoints_28 : decode cX0_countPoints 28 = .ok (.iload_n 1, 1) := by decide +kernel
theorem dX0_countPoints_29 : decode cX0_countPoints 29 = .ok (.ireturn, 1) := by decide +kernel
theorem dX0_countWeights_0 : decode cX0_countWeights 0 = .ok (.iconst 0, 1) := by decide +kernel
theorem dX0_countWeights_1 : decode cX0_countWeights 1 = .ok (.istore_n 1, 1) := by decide +kernel
theorem dX0_countWeights_2 : decode cX0_countWeights 2 = .ok (.iconst 0, 1) := by decide +kernel
theorem dX0_countWeights_3 : decode cX0_countWeights 3 = .ok (.istore_n 2, 1) := by decide +kernel
theorem dX0_countWeights_4 : decode cX0_countWeights 4 = .ok (.iload_n 2, 1) := by decide +kernel
theorem dX0_countWeights_5 : decode cX0_countWeights 5 = .ok (.bipush 120, 2) := by decide +kernel
theorem dX0_countWeights_7 : decode cX0_countWeights 7 = .ok (.if_icmp .ge 18, 3) := by decide +kernel
theorem dX0_countWeights_10 : decode cX0_countWeights 10 = .ok (.iload_n 1, 1) := by decide +kernel
theorem dX0_countWeights_11 : decode cX0_countWeights 11 = .ok (.aload_n 0, 1) := by decide +kernel
theorem dX0_countWeights_12 : decode cX0_countWeights 12 = .ok (.getfield 9, 3) := by decide +kernel
theorem dX0_countWeights_15 : decode cX0_countWeights 15 = .ok (.iload_n 2, 1) := by decide +kernel
theorem dX0_countWeights_16 : decode cX0_countWeights 16 = .ok (.iaload, 1) := by decide +kernel
theorem dX0_countWeights_17 : decode cX0_countWeights 17 = .ok (.iadd, 1) := by decide +kernel
theorem dX0_countWeights_18 : decode cX0_countWeights 18 = .ok (.istore_n 1, 1) := by decide +kernel
theorem dX0_countWeights_19 : decode cX0_countWeights 19 = .ok (.iinc 2 1, 3) := by decide +kernel
theorem dX0_countWeights_22 : decode cX0_countWeights 22 = .ok (.goto (-18), 3) := by decide +kernel
theorem dX0_countWeights_25 : decode cX0_countWeights 25 = .ok (.iload_n 1, 1) := by decide +kernel
theorem dX0_countWeights_26 : decode cX0_countWeights 26 = .ok (.ireturn, 1) := by decide +kernel
theorem dX0_gapBetween_0 : decode cX0_gapBetween 0 = .ok (.aload_n 0, 1) := by decide +kernel
theorem dX0_gapBetween_1 : decode cX0_gapBetween 1 = .ok (.iload_n 2, 1) := by decide +kernel
theorem dX0_gapBetween_2 : decode cX0_gapBetween 2 = .ok (.aload_n 0, 1) := by decide +kernel
theorem dX0_gapBetween_3 : decode cX0_gapBetween 3 = .ok (.getfield 13, 3) := by decide +kernel
theorem dX0_gapBetween_6 : decode cX0_gapBetween 6 = .ok (.iload_n 1, 1) := by decide +kernel
theorem dX0_gapBetween_7 : decode cX0_gapBetween 7 = .ok (.iaload, 1) := by decide +kernel
theorem dX0_gapBetween_8 : decode cX0_gapBetween 8 = .ok (.aload_n 0, 1) := by decide +kernel
theorem dX0_gapBetween_9 : decode cX0_gapBetween 9 = .ok (.getfield 16, 3) := by decide +kernel
theorem dX0_gapBetween_12 : decode cX0_gapBetween 12 = .ok (.iload_n 1, 1) := by decide +kernel
theorem dX0_gapBetween_13 : decode cX0_gapBetween 13 = .ok (.iaload, 1) := by decide +kernel
theorem dX0_gapBetween_14 : decode cX0_gapBetween 14 = .ok (.invokevirtual 150, 3) := by decide +kernel
theorem dX0_gapBetween_17 : decode cX0_gapBetween 17 = .ok (.lreturn, 1) := by decide +kernel
theorem dX0_gapTo_0 : decode cX0_gapTo 0 = .ok (.aload_n 0, 1) := by decide +kernel
theorem dX0_gapTo_1 : decode cX0_gapTo 1 = .ok (.getfield 13, 3) := by decide +kernel
theorem dX0_gapTo_4 : decode cX0_gapTo 4 = .ok (.iload_n 1, 1) := by decide +kernel
theorem dX0_gapTo_5 : decode cX0_gapTo 5 = .ok (.iaload, 1) := by decide +kernel
theorem dX0_gapTo_6 : decode cX0_gapTo 6 = .ok (.i2l, 1) := by decide +kernel
theorem dX0_gapTo_7 : decode cX0_gapTo 7 = .ok (.iload_n 2, 1) := by decide +kernel
theorem dX0_gapTo_8 : decode cX0_gapTo 8 = .ok (.i2l, 1) := by decide +kernel
theorem dX0_gapTo_9 : decode cX0_gapTo 9 = .ok (.lsub, 1) := by decide +kernel
theorem dX0_gapTo_10 : decode cX0_gapTo 10 = .ok (.invokestatic 154, 3) := by decide +kernel
theorem dX0_gapTo_13 : decode cX0_gapTo 13 = .ok (.lstore 4, 2) := by decide +kernel
theorem dX0_gapTo_15 : decode cX0_gapTo 15 = .ok (.aload_n 0, 1) := by decide +kernel
theorem dX0_gapTo_16 : decode cX0_gapTo 16 = .ok (.getfield 16, 3) := by decide +kernel
theorem dX0_gapTo_19 : decode cX0_gapTo 19 = .ok (.iload_n 1, 1) := by decide +kernel
theorem dX0_gapTo_20 : decode cX0_gapTo 20 = .ok (.iaload, 1) := by decide +kernel
theorem dX0_gapTo_21 : decode cX0_gapTo 21 = .ok (.i2l, 1) := by decide +kernel
theorem dX0_gapTo_22 : decode cX0_gapTo 22 = .ok (.iload_n 3, 1) := by decide +kernel
theorem dX0_gapTo_23 : decode cX0_gapTo 23 = .ok (.i2l, 1) := by decide +kernel
theorem dX0_gapTo_24 : decode cX0_gapTo 24 = .ok (.lsub, 1) := by decide +kernel
theorem dX0_gapTo_25 : decode cX0_gapTo 25 = .ok (.invokestatic 154, 3) := by decide +kernel
theorem dX0_gapTo_28 : decode cX0_gapTo 28 = .ok (.lstore 6, 2) := by decide +kernel
theorem dX0_gapTo_30 : decode cX0_gapTo 30 = .ok (.aload_n 0, 1) := by decide +kernel
theorem dX0_gapTo_31 : decode cX0_gapTo 31 = .ok (.getfield 19, 3) := by decide +kernel
theorem dX0_gapTo_34 : decode cX0_gapTo 34 = .ok (.ifCond .ne 15, 3) := by decide +kernel
theorem dX0_gapTo_37 : decode cX0_gapTo 37 = .ok (.lload 4, 2) := by decide +kernel
theorem dX0_gapTo_39 : decode cX0_gapTo 39 = .ok (.lload 4, 2) := by decide +kernel
theorem dX0_gapTo_41 : decode cX0_gapTo 41 = .ok (.lmul, 1) := by decide +kernel
theorem dX0_gapTo_42 : decode cX0_gapTo 42 = .ok (.lload 6, 2) := by decide +kernel
theorem dX0_gapTo_44 : decode cX0_gapTo 44 = .ok (.lload 6, 2) := by decide +kernel
theorem dX0_gapTo_46 : decode cX0_gapTo 46 = .ok (.lmul, 1) := by decide +kernel
theorem dX0_gapTo_47 : decode cX0_gapTo 47 = .ok (.ladd, 1) := by decide +kernel
theorem dX0_gapTo_48 : decode cX0_gapTo 48 = .ok (.lreturn, 1) := by decide +kernel
theorem dX0_gapTo_49 : decode cX0_gapTo 49 = .ok (.aload_n 0, 1) := by decide +kernel
theorem dX0_gapTo_50 : decode cX0_gapTo 50 = .ok (.getfield 19, 3) := by decide +kernel
theorem dX0_gapTo_53 : decode cX0_gapTo 53 = .ok (.iconst 1, 1) := by decide +kernel
theorem dX0_gapTo_54 : decode cX0_gapTo 54 = .ok (.if_icmp .ne 13, 3) := by decide +kernel
theorem dX0_gapTo_57 : decode cX0_gapTo 57 = .ok (.lload 4, 2) := by decide +kernel
theorem dX0_gapTo_59 : decode cX0_gapTo 59 = .ok (.lload 6, 2) := by decide +kernel
theorem dX0_gapTo_61 : decode cX0_gapTo 61 = .ok (.invokestatic 160, 3) := by decide +kernel
theorem dX0_gapTo_64 : decode cX0_gapTo 64 = .ok (.goto 8, 3) := by decide +kernel
theorem dX0_gapTo_67 : decode cX0_gapTo 67 = .ok (.lload 4, 2) := by decide +kernel
theorem dX0_gapTo_69 : decode cX0_gapTo 69 = .ok (.lload 6, 2) := by decide +kernel
theorem dX0_gapTo_71 : decode cX0_gapTo 71 = .ok (.ladd, 1) := by decide +kernel
theorem dX0_gapTo_72 : decode cX0_gapTo 72 = .ok (.lreturn, 1) := by decide +kernel
theorem dX0_weightWithin_0 : decode cX0_weightWithin 0 = .ok (.iconst 0, 1) := by decide +kernel
theorem dX0_weightWithin_1 : decode cX0_weightWithin 1 = .ok (.istore 4, 2) := by decide +kernel
theorem dX0_weightWithin_3 : decode cX0_weightWithin 3 = .ok (.iconst 0, 1) := by decide +kernel
theorem dX0_weightWithin_4 : decode cX0_weightWithin 4 = .ok (.istore 5, 2) := by decide +kernel
theorem dX0_weightWithin_6 : decode cX0_weightWithin 6 = .ok (.iload 5, 2) := by decide +kernel
theorem dX0_weightWithin_8 : decode cX0_weightWithin 8 = .ok (.bipush 120, 2) := by decide +kernel
theorem dX0_weightWithin_10 : decode cX0_weightWithin 10 = .ok (.if_icmp .ge 43, 3) := by decide +kernel
theorem dX0_weightWithin_13 : decode cX0_weightWithin 13 = .ok (.aload_n 0, 1) := by decide +kernel
theorem dX0_weightWithin_14 : decode cX0_weightWithin 14 = .ok (.getfield 9, 3) := by decide +kernel
theorem dX0_weightWithin_17 : decode cX0_weightWithin 17 = .ok (.iload 5, 2) := by decide +kernel
theorem dX0_weightWithin_19 : decode cX0_weightWithin 19 = .ok (.iaload, 1) := by decide +kernel
theorem dX0_weightWithin_20 : decode cX0_weightWithin 20 = .ok (.ifCond .le 27, 3) := by decide +kernel
theorem dX0_weightWithin_23 : decode cX0_weightWithin 23 = .ok (.aload_n 0, 1) := by decide +kernel
theorem dX0_weightWithin_24 : decode cX0_weightWithin 24 = .ok (.iload_n 1, 1) := by decide +kernel
theorem dX0_weightWithin_25 : decode cX0_weightWithin 25 = .ok (.iload 5, 2) := by decide +kernel
theorem dX0_weightWithin_27 : decode cX0_weightWithin 27 = .ok (.invokevirtual 90, 3) := by decide +kernel
theorem dX0_weightWithin_30 : decode cX0_weightWithin 30 = .ok (.lload_n 2, 1) := by decide +kernel
theorem dX0_weightWithin_31 : decode cX0_weightWithin 31 = .ok (.lcmp, 1) := by decide +kernel
theorem dX0_weightWithin_32 : decode cX0_weightWithin 32 = .ok (.ifCond .gt 15, 3) := by decide +kernel
theorem dX0_weightWithin_35 : decode cX0_weightWithin 35 = .ok (.iload 4, 2) := by decide +kernel
theorem dX0_weightWithin_37 : decode cX0_weightWithin 37 = .ok (.aload_n 0, 1) := by decide +kernel
theorem dX0_weightWithin_38 : decode cX0_weightWithin 38 = .ok (.getfield 9, 3) := by decide +kernel
theorem dX0_weightWithin_41 : decode cX0_weightWithin 41 = .ok (.iload 5, 2) := by decide +kernel
theorem dX0_weightWithin_43 : decode cX0_weightWithin 43 = .ok (.iaload, 1) := by decide +kernel
theorem dX0_weightWithin_44 : decode cX0_weightWithin 44 = .ok (.iadd, 1) := by decide +kernel
theorem dX0_weightWithin_45 : decode cX0_weightWithin 45 = .ok (.istore 4, 2) := by decide +kernel
theorem dX0_weightWithin_47 : decode cX0_weightWithin 47 = .ok (.iinc 5 1, 3) := by decide +kernel
theorem dX0_weightWithin_50 : decode cX0_weightWithin 50 = .ok (.goto (-44), 3) := by decide +kernel
theorem dX0_weightWithin_53 : decode cX0_weightWithin 53 = .ok (.iload 4, 2) := by decide +kernel
theorem dX0_weightWithin_55 : decode cX0_weightWithin 55 = .ok (.ireturn, 1) := by decide +kernel
theorem dX0_sortWith_0 : decode cX0_sortWith 0 = .ok (.aload_n 0, 1) := by decide +kernel
theorem dX0_sortWith_1 : decode cX0_sortWith 1 = .ok (.getfield 43, 3) := by decide +kernel
theorem dX0_sortWith_4 : decode cX0_sortWith 4 = .ok (.ifCond .eq 13, 3) := by decide +kernel
theorem dX0_sortWith_7 : decode cX0_sortWith 7 = .ok (.aload_n 0, 1) := by decide +kernel
theorem dX0_sortWith_8 : decode cX0_sortWith 8 = .ok (.getfield 40, 3) := by decide +kernel
theorem dX0_sortWith_11 : decode cX0_sortWith 11 = .ok (.lload_n 1, 1) := by decide +kernel
theorem dX0_sortWith_12 : decode cX0_sortWith 12 = .ok (.lcmp, 1) := by decide +kernel
theorem dX0_sortWith_13 : decode cX0_sortWith 13 = .ok (.ifCond .ne 4, 3) := by decide +kernel
theorem dX0_sortWith_16 : decode cX0_sortWith 16 = .ok (.return_, 1) := by decide +kernel
theorem dX0_sortWith_17 : decode cX0_sortWith 17 = .ok (.aload_n 0, 1) := by decide +kernel
theorem dX0_sortWith_18 : decode cX0_sortWith 18 = .ok (.lload_n 1, 1) := by decide +kernel
theorem dX0_sortWith_19 : decode cX0_sortWith 19 = .ok (.invokevirtual 164, 3) := by decide +kernel
theorem dX0_sortWith_22 : decode cX0_sortWith 22 = .ok (.aload_n 0, 1) := by decide +kernel
theorem dX0_sortWith_23 : decode cX0_sortWith 23 = .ok (.lload_n 1, 1) := by decide +kernel
theorem dX0_sortWith_24 : decode cX0_sortWith 24 = .ok (.invokevirtual 167, 3) := by decide +kernel
theorem dX0_sortWith_27 : decode cX0_sortWith 27 = .ok (.aload_n 0, 1) := by decide +kernel
theorem dX0_sortWith_28 : decode cX0_sortWith 28 = .ok (.lload_n 1, 1) := by decide +kernel
theorem dX0_sortWith_29 : decode cX0_sortWith 29 = .ok (.invokevirtual 170, 3) := by decide +kernel
theorem dX0_sortWith_32 : decode cX0_sortWith 32 = .ok (.aload_n 0, 1) := by decide +kernel
theorem dX0_sortWith_33 : decode cX0_sortWith 33 = .ok (.lload_n 1, 1) := by decide +kernel
theorem dX0_sortWith_34 : decode cX0_sortWith 34 = .ok (.putfield 40, 3) := by decide +kernel
theorem dX0_sortWith_37 : decode cX0_sortWith 37 = .ok (.aload_n 0, 1) := by decide +kernel
theorem dX0_sortWith_38 : decode cX0_sortWith 38 = .ok (.iconst 1, 1) := by decide +kernel
theorem dX0_sortWith_39 : decode cX0_sortWith 39 = .ok (.putfield 43, 3) := by decide +kernel
theorem dX0_sortWith_42 : decode cX0_sortWith 42 = .ok (.return_, 1) := by decide +kernel
theorem dX0_markCores_0 : decode cX0_markCores 0 = .ok (.iconst 0, 1) := by decide +kernel
theorem dX0_markCores_1 : decode cX0_markCores 1 = .ok (.istore_n 3, 1) := by decide +kernel
theorem dX0_markCores_2 : decode cX0_markCores 2 = .ok (.iload_n 3, 1) := by decide +kernel
theorem dX0_markCores_3 : decode cX0_markCores 3 = .ok (.bipush 120, 2) := by decide +kernel
theorem dX0_markCores_5 : decode cX0_markCores 5 = .ok (.if_icmp .ge 56, 3) := by decide +kernel
theorem dX0_markCores_8 : decode cX0_markCores 8 = .ok (.aload_n 0, 1) := by decide +kernel
theorem dX0_markCores_9 : decode cX0_markCores 9 = .ok (.getfield 30, 3) := by decide +kernel
theorem dX0_markCores_12 : decode cX0_markCores 12 = .ok (.iload_n 3, 1) := by decide +kernel
theorem dX0_markCores_13 : decode cX0_markCores 13 = .ok (.aload_n 0, 1) := by decide +kernel
theorem dX0_markCores_14 : decode cX0_markCores 14 = .ok (.getfield 9, 3) := by decide +kernel
theorem dX0_markCores_17 : decode cX0_markCores 17 = .ok (.iload_n 3, 1) := by decide +kernel
theorem dX0_markCores_18 : decode cX0_markCores 18 = .ok (.iaload, 1) := by decide +kernel
theorem dX0_markCores_19 : decode cX0_markCores 19 = .ok (.ifCond .le 20, 3) := by decide +kernel
theorem dX0_markCores_22 : decode cX0_markCores 22 = .ok (.aload_n 0, 1) := by decide +kernel
theorem dX0_markCores_23 : decode cX0_markCores 23 = .ok (.iload_n 3, 1) := by decide +kernel
theorem dX0_markCores_24 : decode cX0_markCores 24 = .ok (.lload_n 1, 1) := by decide +kernel
theorem dX0_markCores_25 : decode cX0_markCores 25 = .ok (.invokevirtual 102, 3) := by decide +kernel
theorem dX0_markCores_28 : decode cX0_markCores 28 = .ok (.aload_n 0, 1) := by decide +kernel
theorem dX0_markCores_29 : decode cX0_markCores 29 = .ok (.getfield 27, 3) := by decide +kernel
theorem dX0_markCores_32 : decode cX0_markCores 32 = .ok (.if_icmp .lt 7, 3) := by decide +kernel
theorem dX0_markCores_35 : decode cX0_markCores 35 = .ok (.iconst 1, 1) := by decide +kernel
theorem dX0_markCores_36 : decode cX0_markCores 36 = .ok (.goto 4, 3) := by decide +kernel
theorem dX0_markCores_39 : decode cX0_markCores 39 = .ok (.iconst 0, 1) := by decide +kernel
theorem dX0_markCores_40 : decode cX0_markCores 40 = .ok (.bastore, 1) := by decide +kernel
theorem dX0_markCores_41 : decode cX0_markCores 41 = .ok (.aload_n 0, 1) := by decide +kernel
theorem dX0_markCores_42 : decode cX0_markCores 42 = .ok (.getfield 34, 3) := by decide +kernel
theorem dX0_markCores_45 : decode cX0_markCores 45 = .ok (.iload_n 3, 1) := by decide +kernel
theorem dX0_markCores_46 : decode cX0_markCores 46 = .ok (.iconst (-1), 1) := by decide +kernel
theorem dX0_markCores_47 : decode cX0_markCores 47 = .ok (.iastore, 1) := by decide +kernel
theorem dX0_markCores_48 : decode cX0_markCores 48 = .ok (.aload_n 0, 1) := by decide +kernel
theorem dX0_markCores_49 : decode cX0_markCores 49 = .ok (.getfield 63, 3) := by decide +kernel
theorem dX0_markCores_52 : decode cX0_markCores 52 = .ok (.iload_n 3, 1) := by decide +kernel
theorem dX0_markCores_53 : decode cX0_markCores 53 = .ok (.iconst 0, 1) := by decide +kernel
theorem dX0_markCores_54 : decode cX0_markCores 54 = .ok (.bastore, 1) := by decide +kernel
theorem dX0_markCores_55 : decode cX0_markCores 55 = .ok (.iinc 3 1, 3) := by decide +kernel
theorem dX0_markCores_58 : decode cX0_markCores 58 = .ok (.goto (-56), 3) := by decide +kernel
theorem dX0_markCores_61 : decode cX0_markCores 61 = .ok (.return_, 1) := by decide +kernel
theorem dX0_gatherCrowds_0 : decode cX0_gatherCrowds 0 = .ok (.aload_n 0, 1) := by decide +kernel
theorem dX0_gatherCrowds_1 : decode cX0_gatherCrowds 1 = .ok (.iconst 0, 1) := by decide +kernel
theorem dX0_gatherCrowds_2 : decode cX0_gatherCrowds 2 = .ok (.putfield 37, 3) := by decide +kernel
theorem dX0_gatherCrowds_5 : decode cX0_gatherCrowds 5 = .ok (.iconst 0, 1) := by decide +kernel
theorem dX0_gatherCrowds_6 : decode cX0_gatherCrowds 6 = .ok (.istore_n 3, 1) := by decide +kernel
theorem dX0_gatherCrowds_7 : decode cX0_gatherCrowds 7 = .ok (.iload_n 3, 1) := by decide +kernel
theorem dX0_gatherCrowds_8 : decode cX0_gatherCrowds 8 = .ok (.bipush 120, 2) := by decide +kernel
theorem dX0_gatherCrowds_10 : decode cX0_gatherCrowds 10 = .ok (.if_icmp .ge 44, 3) := by decide +kernel
theorem dX0_gatherCrowds_13 : decode cX0_gatherCrowds 13 = .ok (.aload_n 0, 1) := by decide +kernel
theorem dX0_gatherCrowds_14 : decode cX0_gatherCrowds 14 = .ok (.getfield 30, 3) := by decide +kernel
theorem dX0_gatherCrowds_17 : decode cX0_gatherCrowds 17 = .ok (.iload_n 3, 1) := by decide +kernel
theorem dX0_gatherCrowds_18 : decode cX0_gatherCrowds 18 = .ok (.baload, 1) := by decide +kernel
theorem dX0_gatherCrowds_19 : decode cX0_gatherCrowds 19 = .ok (.ifCond .eq 29, 3) := by decide +kernel
theorem dX0_gatherCrowds_22 : decode cX0_gatherCrowds 22 = .ok (.aload_n 0, 1) := by decide +kernel
theorem dX0_gatherCrowds_23 : decode cX0_gatherCrowds 23 = .ok (.getfield 34, 3) := by decide +kernel
theorem dX0_gatherCrowds_26 : decode cX0_gatherCrowds 26 = .ok (.iload_n 3, 1) := by decide +kernel
theorem dX0_gatherCrowds_27 : decode cX0_gatherCrowds 27 = .ok (.iaload, 1) := by decide +kernel
theorem dX0_gatherCrowds_28 : decode cX0_gatherCrowds 28 = .ok (.iconst (-1), 1) := by decide +kernel
theorem dX0_gatherCrowds_29 : decode cX0_gatherCrowds 29 = .ok (.if_icmp .ne 19, 3) := by decide +kernel
theorem dX0_gatherCrowds_32 : decode cX0_gatherCrowds 32 = .ok (.aload_n 0, 1) := by decide +kernel
theorem dX0_gatherCrowds_33 : decode cX0_gatherCrowds 33 = .ok (.iload_n 3, 1) := by decide +kernel
theorem dX0_gatherCrowds_34 : decode cX0_gatherCrowds 34 = .ok (.lload_n 1, 1) := by decide +kernel
theorem dX0_gatherCrowds_35 : decode cX0_gatherCrowds 35 = .ok (.invokevirtual 173, 3) := by decide +kernel
theorem dX0_gatherCrowds_38 : decode cX0_gatherCrowds 38 = .ok (.aload_n 0, 1) := by decide +kernel
theorem dX0_gatherCrowds_39 : decode cX0_gatherCrowds 39 = .ok (.dup, 1) := by decide +kernel
theorem dX0_gatherCrowds_40 : decode cX0_gatherCrowds 40 = .ok (.getfield 37, 3) := by decide +kernel
theorem dX0_gatherCrowds_43 : decode cX0_gatherCrowds 43 = .ok (.iconst 1, 1) := by decide +kernel
theorem dX0_gatherCrowds_44 : decode cX0_gatherCrowds 44 = .ok (.iadd, 1) := by decide +kernel
theorem dX0_gatherCrowds_45 : decode cX0_gatherCrowds 45 = .ok (.putfield 37, 3) := by decide +kernel
theorem dX0_gatherCrowds_48 : decode cX0_gatherCrowds 48 = .ok (.iinc 3 1, 3) := by decide +kernel
theorem dX0_gatherCrowds_51 : decode cX0_gatherCrowds 51 = .ok (.goto (-44), 3) := by decide +kernel
theorem dX0_gatherCrowds_54 : decode cX0_gatherCrowds 54 = .ok (.return_, 1) := by decide +kernel
theorem dX0_gatherFrom_0 : decode cX0_gatherFrom 0 = .ok (.aload_n 0, 1) := by decide +kernel
theorem dX0_gatherFrom_1 : decode cX0_gatherFrom 1 = .ok (.getfield 34, 3) := by decide +kernel
theorem dX0_gatherFrom_4 : decode cX0_gatherFrom 4 = .ok (.iload_n 1, 1) := by decide +kernel
theorem dX0_gatherFrom_5 : decode cX0_gatherFrom 5 = .ok (.aload_n 0, 1) := by decide +kernel
theorem dX0_gatherFrom_6 : decode cX0_gatherFrom 6 = .ok (.getfield 37, 3) := by decide +kernel
theorem dX0_gatherFrom_9 : decode cX0_gatherFrom 9 = .ok (.iastore, 1) := by decide +kernel
theorem dX0_gatherFrom_10 : decode cX0_gatherFrom 10 = .ok (.iconst 0, 1) := by decide +kernel
theorem dX0_gatherFrom_11 : decode cX0_gatherFrom 11 = .ok (.istore 4, 2) := by decide +kernel
theorem dX0_gatherFrom_13 : decode cX0_gatherFrom 13 = .ok (.iload 4, 2) := by decide +kernel
theorem dX0_gatherFrom_15 : decode cX0_gatherFrom 15 = .ok (.bipush 120, 2) := by decide +kernel
theorem dX0_gatherFrom_17 : decode cX0_gatherFrom 17 = .ok (.if_icmp .ge 37, 3) := by decide +kernel
theorem dX0_gatherFrom_20 : decode cX0_gatherFrom 20 = .ok (.aload_n 0, 1) := by decide +kernel
theorem dX0_gatherFrom_21 : decode cX0_gatherFrom 21 = .ok (.invokevirtual 177, 3) := by decide +kernel
theorem dX0_gatherFrom_24 : decode cX0_gatherFrom 24 = .ok (.istore 5, 2) := by decide +kernel
theorem dX0_gatherFrom_26 : decode cX0_gatherFrom 26 = .ok (.iload 5, 2) := by decide +kernel
theorem dX0_gatherFrom_28 : decode cX0_gatherFrom 28 = .ok (.iconst (-1), 1) := by decide +kernel
theorem dX0_gatherFrom_29 : decode cX0_gatherFrom 29 = .ok (.if_icmp .ne 4, 3) := by decide +kernel
theorem dX0_gatherFrom_32 : decode cX0_gatherFrom 32 = .ok (.return_, 1) := by decide +kernel
theorem dX0_gatherFrom_33 : decode cX0_gatherFrom 33 = .ok (.aload_n 0, 1) := by decide +kernel
theorem dX0_gatherFrom_34 : decode cX0_gatherFrom 34 = .ok (.getfield 63, 3) := by decide +kernel
theorem dX0_gatherFrom_37 : decode cX0_gatherFrom 37 = .ok (.iload 5, 2) := by decide +kernel
theorem dX0_gatherFrom_39 : decode cX0_gatherFrom 39 = .ok (.iconst 1, 1) := by decide +kernel
theorem dX0_gatherFrom_40 : decode cX0_gatherFrom 40 = .ok (.bastore, 1) := by decide +kernel
theorem dX0_gatherFrom_41 : decode cX0_gatherFrom 41 = .ok (.aload_n 0, 1) := by decide +kernel
theorem dX0_gatherFrom_42 : decode cX0_gatherFrom 42 = .ok (.iload 5, 2) := by decide +kernel
theorem dX0_gatherFrom_44 : decode cX0_gatherFrom 44 = .ok (.lload_n 2, 1) := by decide +kernel
theorem dX0_gatherFrom_45 : decode cX0_gatherFrom 45 = .ok (.invokevirtual 180, 3) := by decide +kernel
theorem dX0_gatherFrom_48 : decode cX0_gatherFrom 48 = .ok (.iinc 4 1, 3) := by decide +kernel
theorem dX0_gatherFrom_51 : decode cX0_gatherFrom 51 = .ok (.goto (-38), 3) := by decide +kernel
theorem dX0_gatherFrom_54 : decode cX0_gatherFrom 54 = .ok (.return_, 1) := by decide +kernel
theorem dX0_leastUnsettledCore_0 : decode cX0_leastUnsettledCore 0 = .ok (.iconst 0, 1) := by decide +kernel
theorem dX0_leastUnsettledCore_1 : decode cX0_leastUnsettledCore 1 = .ok (.istore_n 1, 1) := by decide +kernel
theorem dX0_leastUnsettledCore_2 : decode cX0_leastUnsettledCore 2 = .ok (.iload_n 1, 1) := by decide +kernel
theorem dX0_leastUnsettledCore_3 : decode cX0_leastUnsettledCore 3 = .ok (.bipush 120, 2) := by decide +kernel
theorem dX0_leastUnsettledCore_5 : decode cX0_leastUnsettledCore 5 = .ok (.if_icmp .ge 33, 3) := by decide +kernel
theorem dX0_leastUnsettledCore_8 : decode cX0_leastUnsettledCore 8 = .ok (.aload_n 0, 1) := by decide +kernel
theorem dX0_leastUnsettledCore_9 : decode cX0_leastUnsettledCore 9 = .ok (.getfield 34, 3) := by decide +kernel
theorem dX0_leastUnsettledCore_12 : decode cX0_leastUnsettledCore 12 = .ok (.iload_n 1, 1) := by decide +kernel
theorem dX0_leastUnsettledCore_13 : decode cX0_leastUnsettledCore 13 = .ok (.iaload, 1) := by decide +kernel
theorem dX0_leastUnsettledCore_14 : decode cX0_leastUnsettledCore 14 = .ok (.aload_n 0, 1) := by decide +kernel
theorem dX0_leastUnsettledCore_15 : decode cX0_leastUnsettledCore 15 = .ok (.getfield 37, 3) := by decide +kernel
theorem dX0_leastUnsettledCore_18 : decode cX0_leastUnsettledCore 18 = .ok (.if_icmp .ne 14, 3) := by decide +kernel
theorem dX0_leastUnsettledCore_21 : decode cX0_leastUnsettledCore 21 = .ok (.aload_n 0, 1) := by decide +kernel
theorem dX0_leastUnsettledCore_22 : decode cX0_leastUnsettledCore 22 = .ok (.getfield 63, 3) := by decide +kernel
theorem dX0_leastUnsettledCore_25 : decode cX0_leastUnsettledCore 25 = .ok (.iload_n 1, 1) := by decide +kernel
theorem dX0_leastUnsettledCore_26 : decode cX0_leastUnsettledCore 26 = .ok (.baload, 1) := by decide +kernel
theorem dX0_leastUnsettledCore_27 : decode cX0_leastUnsettledCore 27 = .ok (.ifCond .ne 5, 3) := by decide +kernel
theorem dX0_leastUnsettledCore_30 : decode cX0_leastUnsettledCore 30 = .ok (.iload_n 1, 1) := by decide +kernel
theorem dX0_leastUnsettledCore_31 : decode cX0_leastUnsettledCore 31 = .ok (.ireturn, 1) := by decide +kernel
theorem dX0_leastUnsettledCore_32 : decode cX0_leastUnsettledCore 32 = .ok (.iinc 1 1, 3) := by decide +kernel
theorem dX0_leastUnsettledCore_35 : decode cX0_leastUnsettledCore 35 = .ok (.goto (-33), 3) := by decide +kernel
theorem dX0_leastUnsettledCore_38 : decode cX0_leastUnsettledCore 38 = .ok (.iconst (-1), 1) := by decide +kernel
theorem dX0_leastUnsettledCore_39 : decode cX0_leastUnsettledCore 39 = .ok (.ireturn, 1) := by decide +kernel
theorem dX0_gatherCoresNear_0 : decode cX0_gatherCoresNear 0 = .ok (.iconst 0, 1) := by decide +kernel
theorem dX0_gatherCoresNear_1 : decode cX0_gatherCoresNear 1 = .ok (.istore 4, 2) := by decide +kernel
theorem dX0_gatherCoresNear_3 : decode cX0_gatherCoresNear 3 = .ok (.iload 4, 2) := by decide +kernel
theorem dX0_gatherCoresNear_5 : decode cX0_gatherCoresNear 5 = .ok (.bipush 120, 2) := by decide +kernel
theorem dX0_gatherCoresNear_7 : decode cX0_gatherCoresNear 7 = .ok (.if_icmp .ge 53, 3) := by decide +kernel
theorem dX0_gatherCoresNear_10 : decode cX0_gatherCoresNear 10 = .ok (.aload_n 0, 1) := by decide +kernel
theorem dX0_gatherCoresNear_11 : decode cX0_gatherCoresNear 11 = .ok (.getfield 30, 3) := by decide +kernel
theorem dX0_gatherCoresNear_14 : decode cX0_gatherCoresNear 14 = .ok (.iload 4, 2) := by decide +kernel
theorem dX0_gatherCoresNear_16 : decode cX0_gatherCoresNear 16 = .ok (.baload, 1) := by decide +kernel
theorem dX0_gatherCoresNear_17 : decode cX0_gatherCoresNear 17 = .ok (.ifCond .eq 37, 3) := by decide +kernel
theorem dX0_gatherCoresNear_20 : decode cX0_gatherCoresNear 20 = .ok (.aload_n 0, 1) := by decide +kernel
theorem dX0_gatherCoresNear_21 : decode cX0_gatherCoresNear 21 = .ok (.getfield 34, 3) := by decide +kernel
theorem dX0_gatherCoresNear_24 : decode cX0_gatherCoresNear 24 = .ok (.iload 4, 2) := by decide +kernel
theorem dX0_gatherCoresNear_26 : decode cX0_gatherCoresNear 26 = .ok (.iaload, 1) := by decide +kernel
theorem dX0_gatherCoresNear_27 : decode cX0_gatherCoresNear 27 = .ok (.iconst (-1), 1) := by decide +kernel
theorem dX0_gatherCoresNear_28 : decode cX0_gatherCoresNear 28 = .ok (.if_icmp .ne 26, 3) := by decide +kernel
theorem dX0_gatherCoresNear_31 : decode cX0_gatherCoresNear 31 = .ok (.aload_n 0, 1) := by decide +kernel
theorem dX0_gatherCoresNear_32 : decode cX0_gatherCoresNear 32 = .ok (.iload_n 1, 1) := by decide +kernel
theorem dX0_gatherCoresNear_33 : decode cX0_gatherCoresNear 33 = .ok (.iload 4, 2) := by decide +kernel
theorem dX0_gatherCoresNear_35 : decode cX0_gatherCoresNear 35 = .ok (.invokevirtual 90, 3) := by decide +kernel
theorem dX0_gatherCoresNear_38 : decode cX0_gatherCoresNear 38 = .ok (.lload_n 2, 1) := by decide +kernel
theorem dX0_gatherCoresNear_39 : decode cX0_gatherCoresNear 39 = .ok (.lcmp, 1) := by decide +kernel
theorem dX0_gatherCoresNear_40 : decode cX0_gatherCoresNear 40 = .ok (.ifCond .gt 14, 3) := by decide +kernel
theorem dX0_gatherCoresNear_43 : decode cX0_gatherCoresNear 43 = .ok (.aload_n 0, 1) := by decide +kernel
theorem dX0_gatherCoresNear_44 : decode cX0_gatherCoresNear 44 = .ok (.getfield 34, 3) := by decide +kernel
theorem dX0_gatherCoresNear_47 : decode cX0_gatherCoresNear 47 = .ok (.iload 4, 2) := by decide +kernel
theorem dX0_gatherCoresNear_49 : decode cX0_gatherCoresNear 49 = .ok (.aload_n 0, 1) := by decide +kernel
theorem dX0_gatherCoresNear_50 : decode cX0_gatherCoresNear 50 = .ok (.getfield 37, 3) := by decide +kernel
theorem dX0_gatherCoresNear_53 : decode cX0_gatherCoresNear 53 = .ok (.iastore, 1) := by decide +kernel
theorem dX0_gatherCoresNear_54 : decode cX0_gatherCoresNear 54 = .ok (.iinc 4 1, 3) := by decide +kernel
theorem dX0_gatherCoresNear_57 : decode cX0_gatherCoresNear 57 = .ok (.goto (-54), 3) := by decide +kernel
theorem dX0_gatherCoresNear_60 : decode cX0_gatherCoresNear 60 = .ok (.return_, 1) := by decide +kernel
theorem dX0_joinBorders_0 : decode cX0_joinBorders 0 = .ok (.iconst 0, 1) := by decide +kernel
theorem dX0_joinBorders_1 : decode cX0_joinBorders 1 = .ok (.istore_n 3, 1) := by decide +kernel
theorem dX0_joinBorders_2 : decode cX0_joinBorders 2 = .ok (.iload_n 3, 1) := by decide +kernel
theorem dX0_joinBorders_3 : decode cX0_joinBorders 3 = .ok (.bipush 120, 2) := by decide +kernel
theorem dX0_joinBorders_5 : decode cX0_joinBorders 5 = .ok (.if_icmp .ge 50, 3) := by decide +kernel
theorem dX0_joinBorders_8 : decode cX0_joinBorders 8 = .ok (.aload_n 0, 1) := by decide +kernel
theorem dX0_joinBorders_9 : decode cX0_joinBorders 9 = .ok (.getfield 9, 3) := by decide +kernel
theorem dX0_joinBorders_12 : decode cX0_joinBorders 12 = .ok (.iload_n 3, 1) := by decide +kernel
theorem dX0_joinBorders_13 : decode cX0_joinBorders 13 = .ok (.iaload, 1) := by decide +kernel
theorem dX0_joinBorders_14 : decode cX0_joinBorders 14 = .ok (.ifCond .le 35, 3) := by decide +kernel
theorem dX0_joinBorders_17 : decode cX0_joinBorders 17 = .ok (.aload_n 0, 1) := by decide +kernel
theorem dX0_joinBorders_18 : decode cX0_joinBorders 18 = .ok (.getfield 30, 3) := by decide +kernel
theorem dX0_joinBorders_21 : decode cX0_joinBorders 21 = .ok (.iload_n 3, 1) := by decide +kernel
theorem dX0_joinBorders_22 : decode cX0_joinBorders 22 = .ok (.baload, 1) := by decide +kernel
theorem dX0_joinBorders_23 : decode cX0_joinBorders 23 = .ok (.ifCond .ne 26, 3) := by decide +kernel
theorem dX0_joinBorders_26 : decode cX0_joinBorders 26 = .ok (.aload_n 0, 1) := by decide +kernel
theorem dX0_joinBorders_27 : decode cX0_joinBorders 27 = .ok (.getfield 34, 3) := by decide +kernel
theorem dX0_joinBorders_30 : decode cX0_joinBorders 30 = .ok (.iload_n 3, 1) := by decide +kernel
theorem dX0_joinBorders_31 : decode cX0_joinBorders 31 = .ok (.aload_n 0, 1) := by decide +kernel
theorem dX0_joinBorders_32 : decode cX0_joinBorders 32 = .ok (.aload_n 0, 1) := by decide +kernel
theorem dX0_joinBorders_33 : decode cX0_joinBorders 33 = .ok (.getfield 13, 3) := by decide +kernel
theorem dX0_joinBorders_36 : decode cX0_joinBorders 36 = .ok (.iload_n 3, 1) := by decide +kernel
theorem dX0_joinBorders_37 : decode cX0_joinBorders 37 = .ok (.iaload, 1) := by decide +kernel
theorem dX0_joinBorders_38 : decode cX0_joinBorders 38 = .ok (.aload_n 0, 1) := by decide +kernel
theorem dX0_joinBorders_39 : decode cX0_joinBorders 39 = .ok (.getfield 16, 3) := by decide +kernel
theorem dX0_joinBorders_42 : decode cX0_joinBorders 42 = .ok (.iload_n 3, 1) := by decide +kernel
theorem dX0_joinBorders_43 : decode cX0_joinBorders 43 = .ok (.iaload, 1) := by decide +kernel
theorem dX0_joinBorders_44 : decode cX0_joinBorders 44 = .ok (.lload_n 1, 1) := by decide +kernel
theorem dX0_joinBorders_45 : decode cX0_joinBorders 45 = .ok (.invokevirtual 141, 3) := by decide +kernel
theorem dX0_joinBorders_48 : decode cX0_joinBorders 48 = .ok (.iastore, 1) := by decide +kernel
theorem dX0_joinBorders_49 : decode cX0_joinBorders 49 = .ok (.iinc 3 1, 3) := by decide +kernel
theorem dX0_joinBorders_52 : decode cX0_joinBorders 52 = .ok (.goto (-50), 3) := by decide +kernel
theorem dX0_joinBorders_55 : decode cX0_joinBorders 55 = .ok (.return_, 1) := by decide +kernel
theorem dX0_leastCrowdAt_0 : decode cX0_leastCrowdAt 0 = .ok (.iconst (-1), 1) := by decide +kernel
theorem dX0_leastCrowdAt_1 : decode cX0_leastCrowdAt 1 = .ok (.istore 5, 2) := by decide +kernel
theorem dX0_leastCrowdAt_3 : decode cX0_leastCrowdAt 3 = .ok (.iconst 0, 1) := by decide +kernel
theorem dX0_leastCrowdAt_4 : decode cX0_leastCrowdAt 4 = .ok (.istore 6, 2) := by decide +kernel
theorem dX0_leastCrowdAt_6 : decode cX0_leastCrowdAt 6 = .ok (.iload 6, 2) := by decide +kernel
theorem dX0_leastCrowdAt_8 : decode cX0_leastCrowdAt 8 = .ok (.bipush 120, 2) := by decide +kernel
theorem dX0_leastCrowdAt_10 : decode cX0_leastCrowdAt 10 = .ok (.if_icmp .ge 59, 3) := by decide +kernel
theorem dX0_leastCrowdAt_13 : decode cX0_leastCrowdAt 13 = .ok (.aload_n 0, 1) := by decide +kernel
theorem dX0_leastCrowdAt_14 : decode cX0_leastCrowdAt 14 = .ok (.getfield 30, 3) := by decide +kernel
theorem dX0_leastCrowdAt_17 : decode cX0_leastCrowdAt 17 = .ok (.iload 6, 2) := by decide +kernel
theorem dX0_leastCrowdAt_19 : decode cX0_leastCrowdAt 19 = .ok (.baload, 1) := by decide +kernel
theorem dX0_leastCrowdAt_20 : decode cX0_leastCrowdAt 20 = .ok (.ifCond .eq 43, 3) := by decide +kernel
theorem dX0_leastCrowdAt_23 : decode cX0_leastCrowdAt 23 = .ok (.iload 5, 2) := by decide +kernel
theorem dX0_leastCrowdAt_25 : decode cX0_leastCrowdAt 25 = .ok (.iconst (-1), 1) := by decide +kernel
theorem dX0_leastCrowdAt_26 : decode cX0_leastCrowdAt 26 = .ok (.if_icmp .eq 15, 3) := by decide +kernel
theorem dX0_leastCrowdAt_29 : decode cX0_leastCrowdAt 29 = .ok (.aload_n 0, 1) := by decide +kernel
theorem dX0_leastCrowdAt_30 : decode cX0_leastCrowdAt 30 = .ok (.getfield 34, 3) := by decide +kernel
theorem dX0_leastCrowdAt_33 : decode cX0_leastCrowdAt 33 = .ok (.iload 6, 2) := by decide +kernel
theorem dX0_leastCrowdAt_35 : decode cX0_leastCrowdAt 35 = .ok (.iaload, 1) := by decide +kernel
theorem dX0_leastCrowdAt_36 : decode cX0_leastCrowdAt 36 = .ok (.iload 5, 2) := by decide +kernel
theorem dX0_leastCrowdAt_38 : decode cX0_leastCrowdAt 38 = .ok (.if_icmp .ge 25, 3) := by decide +kernel
theorem dX0_leastCrowdAt_41 : decode cX0_leastCrowdAt 41 = .ok (.aload_n 0, 1) := by decide +kernel
theorem dX0_leastCrowdAt_42 : decode cX0_leastCrowdAt 42 = .ok (.iload 6, 2) := by decide +kernel
theorem dX0_leastCrowdAt_44 : decode cX0_leastCrowdAt 44 = .ok (.iload_n 1, 1) := by decide +kernel
theorem dX0_leastCrowdAt_45 : decode cX0_leastCrowdAt 45 = .ok (.iload_n 2, 1) := by decide +kernel
theorem dX0_leastCrowdAt_46 : decode cX0_leastCrowdAt 46 = .ok (.invokevirtual 150, 3) := by decide +kernel
theorem dX0_leastCrowdAt_49 : decode cX0_leastCrowdAt 49 = .ok (.lload_n 3, 1) := by decide +kernel
theorem dX0_leastCrowdAt_50 : decode cX0_leastCrowdAt 50 = .ok (.lcmp, 1) := by decide +kernel
theorem dX0_leastCrowdAt_51 : decode cX0_leastCrowdAt 51 = .ok (.ifCond .gt 12, 3) := by decide +kernel
theorem dX0_leastCrowdAt_54 : decode cX0_leastCrowdAt 54 = .ok (.aload_n 0, 1) := by decide +kernel
theorem dX0_leastCrowdAt_55 : decode cX0_leastCrowdAt 55 = .ok (.getfield 34, 3) := by decide +kernel
theorem dX0_leastCrowdAt_58 : decode cX0_leastCrowdAt 58 = .ok (.iload 6, 2) := by decide +kernel
theorem dX0_leastCrowdAt_60 : decode cX0_leastCrowdAt 60 = .ok (.iaload, 1) := by decide +kernel
theorem dX0_leastCrowdAt_61 : decode cX0_leastCrowdAt 61 = .ok (.istore 5, 2) := by decide +kernel
theorem dX0_leastCrowdAt_63 : decode cX0_leastCrowdAt 63 = .ok (.iinc 6 1, 3) := by decide +kernel
theorem dX0_leastCrowdAt_66 : decode cX0_leastCrowdAt 66 = .ok (.goto (-60), 3) := by decide +kernel
theorem dX0_leastCrowdAt_69 : decode cX0_leastCrowdAt 69 = .ok (.iload 5, 2) := by decide +kernel
theorem dX0_leastCrowdAt_71 : decode cX0_leastCrowdAt 71 = .ok (.ireturn, 1) := by decide +kernel
theorem dX0_kindOf_0 : decode cX0_kindOf 0 = .ok (.aload_n 0, 1) := by decide +kernel
theorem dX0_kindOf_1 : decode cX0_kindOf 1 = .ok (.getfield 30, 3) := by decide +kernel
theorem dX0_kindOf_4 : decode cX0_kindOf 4 = .ok (.iload_n 1, 1) := by decide +kernel
theorem dX0_kindOf_5 : decode cX0_kindOf 5 = .ok (.baload, 1) := by decide +kernel
theorem dX0_kindOf_6 : decode cX0_kindOf 6 = .ok (.ifCond .eq 5, 3) := by decide +kernel
theorem dX0_kindOf_9 : decode cX0_kindOf 9 = .ok (.iconst 2, 1) := by decide +kernel
theorem dX0_kindOf_10 : decode cX0_kindOf 10 = .ok (.ireturn, 1) := by decide +kernel
theorem dX0_kindOf_11 : decode cX0_kindOf 11 = .ok (.aload_n 0, 1) := by decide +kernel
theorem dX0_kindOf_12 : decode cX0_kindOf 12 = .ok (.getfield 34, 3) := by decide +kernel
theorem dX0_kindOf_15 : decode cX0_kindOf 15 = .ok (.iload_n 1, 1) := by decide +kernel
theorem dX0_kindOf_16 : decode cX0_kindOf 16 = .ok (.iaload, 1) := by decide +kernel
theorem dX0_kindOf_17 : decode cX0_kindOf 17 = .ok (.iconst (-1), 1) := by decide +kernel
theorem dX0_kindOf_18 : decode cX0_kindOf 18 = .ok (.if_icmp .ne 7, 3) := by decide +kernel
theorem dX0_kindOf_21 : decode cX0_kindOf 21 = .ok (.iconst 0, 1) := by decide +kernel
theorem dX0_kindOf_22 : decode cX0_kindOf 22 = .ok (.goto 4, 3) := by decide +kernel
theorem dX0_kindOf_25 : decode cX0_kindOf 25 = .ok (.iconst 1, 1) := by decide +kernel
theorem dX0_kindOf_26 : decode cX0_kindOf 26 = .ok (.ireturn, 1) := by decide +kernel
theorem dX0_countKind_0 : decode cX0_countKind 0 = .ok (.iconst 0, 1) := by decide +kernel
theorem dX0_countKind_1 : decode cX0_countKind 1 = .ok (.istore_n 2, 1) := by decide +kernel
theorem dX0_countKind_2 : decode cX0_countKind 2 = .ok (.iconst 0, 1) := by decide +kernel
theorem dX0_countKind_3 : decode cX0_countKind 3 = .ok (.istore_n 3, 1) := by decide +kernel
theorem dX0_countKind_4 : decode cX0_countKind 4 = .ok (.iload_n 3, 1) := by decide +kernel
theorem dX0_countKind_5 : decode cX0_countKind 5 = .ok (.bipush 120, 2) := by decide +kernel
theorem dX0_countKind_7 : decode cX0_countKind 7 = .ok (.if_icmp .ge 30, 3) := by decide +kernel
theorem dX0_countKind_10 : decode cX0_countKind 10 = .ok (.aload_n 0, 1) := by decide +kernel
theorem dX0_countKind_11 : decode cX0_countKind 11 = .ok (.getfield 9, 3) := by decide +kernel
theorem dX0_countKind_14 : decode cX0_countKind 14 = .ok (.iload_n 3, 1) := by decide +kernel
theorem dX0_countKind_15 : decode cX0_countKind 15 = .ok (.iaload, 1) := by decide +kernel
theorem dX0_countKind_16 : decode cX0_countKind 16 = .ok (.ifCond .le 15, 3) := by decide +kernel
theorem dX0_countKind_19 : decode cX0_countKind 19 = .ok (.aload_n 0, 1) := by decide +kernel
theorem dX0_countKind_20 : decode cX0_countKind 20 = .ok (.iload_n 3, 1) := by decide +kernel
theorem dX0_countKind_21 : decode cX0_countKind 21 = .ok (.invokevirtual 98, 3) := by decide +kernel
theorem dX0_countKind_24 : decode cX0_countKind 24 = .ok (.iload_n 1, 1) := by decide +kernel
theorem dX0_countKind_25 : decode cX0_countKind 25 = .ok (.if_icmp .ne 6, 3) := by decide +kernel
theorem dX0_countKind_28 : decode cX0_countKind 28 = .ok (.iinc 2 1, 3) := by decide +kernel
theorem dX0_countKind_31 : decode cX0_countKind 31 = .ok (.iinc 3 1, 3) := by decide +kernel
theorem dX0_countKind_34 : decode cX0_countKind 34 = .ok (.goto (-30), 3) := by decide +kernel
theorem dX0_countKind_37 : decode cX0_countKind 37 = .ok (.iload_n 2, 1) := by decide +kernel
theorem dX0_countKind_38 : decode cX0_countKind 38 = .ok (.ireturn, 1) := by decide +kernel
theorem dX0_standsRight_0 : decode cX0_standsRight 0 = .ok (.iconst 0, 1) := by decide +kernel
theorem dX0_standsRight_1 : decode cX0_standsRight 1 = .ok (.istore_n 2, 1) := by decide +kernel
theorem dX0_standsRight_2 : decode cX0_standsRight 2 = .ok (.iconst 0, 1) := by decide +kernel
theorem dX0_standsRight_3 : decode cX0_standsRight 3 = .ok (.istore_n 3, 1) := by decide +kernel
theorem dX0_standsRight_4 : decode cX0_standsRight 4 = .ok (.iconst 0, 1) := by decide +kernel
theorem dX0_standsRight_5 : decode cX0_standsRight 5 = .ok (.istore 4, 2) := by decide +kernel
theorem dX0_standsRight_7 : decode cX0_standsRight 7 = .ok (.iload 4, 2) := by decide +kernel
theorem dX0_standsRight_9 : decode cX0_standsRight 9 = .ok (.bipush 120, 2) := by decide +kernel
theorem dX0_standsRight_11 : decode cX0_standsRight 11 = .ok (.if_icmp .ge 93, 3) := by decide +kernel
theorem dX0_standsRight_14 : decode cX0_standsRight 14 = .ok (.iload 4, 2) := by decide +kernel
theorem dX0_standsRight_16 : decode cX0_standsRight 16 = .ok (.iload_n 1, 1) := by decide +kernel
theorem dX0_standsRight_17 : decode cX0_standsRight 17 = .ok (.if_icmp .eq 81, 3) := by decide +kernel
theorem dX0_standsRight_20 : decode cX0_standsRight 20 = .ok (.aload_n 0, 1) := by decide +kernel
theorem dX0_standsRight_21 : decode cX0_standsRight 21 = .ok (.getfield 30, 3) := by decide +kernel
theorem dX0_standsRight_24 : decode cX0_standsRight 24 = .ok (.iload 4, 2) := by decide +kernel
theorem dX0_standsRight_26 : decode cX0_standsRight 26 = .ok (.baload, 1) := by decide +kernel
theorem dX0_standsRight_27 : decode cX0_standsRight 27 = .ok (.ifCond .ne 6, 3) := by decide +kernel
theorem dX0_standsRight_30 : decode cX0_standsRight 30 = .ok (.goto 68, 3) := by decide +kernel
theorem dX0_standsRight_33 : decode cX0_standsRight 33 = .ok (.aload_n 0, 1) := by decide +kernel
theorem dX0_standsRight_34 : decode cX0_standsRight 34 = .ok (.iload_n 1, 1) := by decide +kernel
theorem dX0_standsRight_35 : decode cX0_standsRight 35 = .ok (.iload 4, 2) := by decide +kernel
theorem dX0_standsRight_37 : decode cX0_standsRight 37 = .ok (.invokevirtual 90, 3) := by decide +kernel
theorem dX0_standsRight_40 : decode cX0_standsRight 40 = .ok (.aload_n 0, 1) := by decide +kernel
theorem dX0_standsRight_41 : decode cX0_standsRight 41 = .ok (.getfield 23, 3) := by decide +kernel
theorem dX0_standsRight_44 : decode cX0_standsRight 44 = .ok (.lcmp, 1) := by decide +kernel
theorem dX0_standsRight_45 : decode cX0_standsRight 45 = .ok (.ifCond .gt 7, 3) := by decide +kernel
theorem dX0_standsRight_48 : decode cX0_standsRight 48 = .ok (.iconst 1, 1) := by decide +kernel
theorem dX0_standsRight_49 : decode cX0_standsRight 49 = .ok (.goto 4, 3) := by decide +kernel
theorem dX0_standsRight_52 : decode cX0_standsRight 52 = .ok (.iconst 0, 1) := by decide +kernel
theorem dX0_standsRight_53 : decode cX0_standsRight 53 = .ok (.istore 5, 2) := by decide +kernel
theorem dX0_standsRight_55 : decode cX0_standsRight 55 = .ok (.aload_n 0, 1) := by decide +kernel
theorem dX0_standsRight_56 : decode cX0_standsRight 56 = .ok (.getfield 34, 3) := by decide +kernel
theorem dX0_standsRight_59 : decode cX0_standsRight 59 = .ok (.iload 4, 2) := by decide +kernel
theorem dX0_standsRight_61 : decode cX0_standsRight 61 = .ok (.iaload, 1) := by decide +kernel
theorem dX0_standsRight_62 : decode cX0_standsRight 62 = .ok (.aload_n 0, 1) := by decide +kernel
theorem dX0_standsRight_63 : decode cX0_standsRight 63 = .ok (.getfield 34, 3) := by decide +kernel
theorem dX0_standsRight_66 : decode cX0_standsRight 66 = .ok (.iload_n 1, 1) := by decide +kernel
theorem dX0_standsRight_67 : decode cX0_standsRight 67 = .ok (.iaload, 1) := by decide +kernel
theorem dX0_standsRight_68 : decode cX0_standsRight 68 = .ok (.if_icmp .ne 23, 3) := by decide +kernel
theorem dX0_standsRight_71 : decode cX0_standsRight 71 = .ok (.iconst 1, 1) := by decide +kernel
theorem dX0_standsRight_72 : decode cX0_standsRight 72 = .ok (.istore_n 2, 1) := by decide +kernel
theorem dX0_standsRight_73 : decode cX0_standsRight 73 = .ok (.iload_n 3, 1) := by decide +kernel
theorem dX0_standsRight_74 : decode cX0_standsRight 74 = .ok (.ifCond .ne 8, 3) := by decide +kernel
theorem dX0_standsRight_77 : decode cX0_standsRight 77 = .ok (.iload 5, 2) := by decide +kernel
theorem dX0_standsRight_79 : decode cX0_standsRight 79 = .ok (.ifCond .eq 7, 3) := by decide +kernel
theorem dX0_standsRight_82 : decode cX0_standsRight 82 = .ok (.iconst 1, 1) := by decide +kernel
theorem dX0_standsRight_83 : decode cX0_standsRight 83 = .ok (.goto 4, 3) := by decide +kernel
theorem dX0_standsRight_86 : decode cX0_standsRight 86 = .ok (.iconst 0, 1) := by decide +kernel
theorem dX0_standsRight_87 : decode cX0_standsRight 87 = .ok (.istore_n 3, 1) := by decide +kernel
theorem dX0_standsRight_88 : decode cX0_standsRight 88 = .ok (.goto 10, 3) := by decide +kernel
theorem dX0_standsRight_91 : decode cX0_standsRight 91 = .ok (.iload 5, 2) := by decide +kernel
theorem dX0_standsRight_93 : decode cX0_standsRight 93 = .ok (.ifCond .eq 5, 3) := by decide +kernel
theorem dX0_standsRight_96 : decode cX0_standsRight 96 = .ok (.iconst 0, 1) := by decide +kernel
theorem dX0_standsRight_97 : decode cX0_standsRight 97 = .ok (.ireturn, 1) := by decide +kernel
theorem dX0_standsRight_98 : decode cX0_standsRight 98 = .ok (.iinc 4 1, 3) := by decide +kernel
theorem dX0_standsRight_101 : decode cX0_standsRight 101 = .ok (.goto (-94), 3) := by decide +kernel
theorem dX0_standsRight_104 : decode cX0_standsRight 104 = .ok (.iload_n 3, 1) := by decide +kernel
theorem dX0_standsRight_105 : decode cX0_standsRight 105 = .ok (.ifCond .ne 7, 3) := by decide +kernel
theorem dX0_standsRight_108 : decode cX0_standsRight 108 = .ok (.iload_n 2, 1) := by decide +kernel
theorem dX0_standsRight_109 : decode cX0_standsRight 109 = .ok (.ifCond .ne 7, 3) := by decide +kernel
theorem dX0_standsRight_112 : decode cX0_standsRight 112 = .ok (.iconst 1, 1) := by decide +kernel
theorem dX0_standsRight_113 : decode cX0_standsRight 113 = .ok (.goto 4, 3) := by decide +kernel
theorem dX0_standsRight_116 : decode cX0_standsRight 116 = .ok (.iconst 0, 1) := by decide +kernel
theorem dX0_standsRight_117 : decode cX0_standsRight 117 = .ok (.ireturn, 1) := by decide +kernel
theorem dX0_pointsOf_0 : decode cX0_pointsOf 0 = .ok (.iconst 0, 1) := by decide +kernel
theorem dX0_pointsOf_1 : decode cX0_pointsOf 1 = .ok (.istore_n 2, 1) := by decide +kernel
theorem dX0_pointsOf_2 : decode cX0_pointsOf 2 = .ok (.iconst 0, 1) := by decide +kernel
theorem dX0_pointsOf_3 : decode cX0_pointsOf 3 = .ok (.istore_n 3, 1) := by decide +kernel
theorem dX0_pointsOf_4 : decode cX0_pointsOf 4 = .ok (.iload_n 3, 1) := by decide +kernel
theorem dX0_pointsOf_5 : decode cX0_pointsOf 5 = .ok (.bipush 120, 2) := by decide +kernel
theorem dX0_pointsOf_7 : decode cX0_pointsOf 7 = .ok (.if_icmp .ge 22, 3) := by decide +kernel
theorem dX0_pointsOf_10 : decode cX0_pointsOf 10 = .ok (.aload_n 0, 1) := by decide +kernel
theorem dX0_pointsOf_11 : decode cX0_pointsOf 11 = .ok (.getfield 34, 3) := by decide +kernel
theorem dX0_pointsOf_14 : decode cX0_pointsOf 14 = .ok (.iload_n 3, 1) := by decide +kernel
theorem dX0_pointsOf_15 : decode cX0_pointsOf 15 = .ok (.iaload, 1) := by decide +kernel
theorem dX0_pointsOf_16 : decode cX0_pointsOf 16 = .ok (.iload_n 1, 1) := by decide +kernel
theorem dX0_pointsOf_17 : decode cX0_pointsOf 17 = .ok (.if_icmp .ne 6, 3) := by decide +kernel
theorem dX0_pointsOf_20 : decode cX0_pointsOf 20 = .ok (.iinc 2 1, 3) := by decide +kernel
theorem dX0_pointsOf_23 : decode cX0_pointsOf 23 = .ok (.iinc 3 1, 3) := by decide +kernel
theorem dX0_pointsOf_26 : decode cX0_pointsOf 26 = .ok (.goto (-22), 3) := by decide +kernel
theorem dX0_pointsOf_29 : decode cX0_pointsOf 29 = .ok (.iload_n 2, 1) := by decide +kernel
theorem dX0_pointsOf_30 : decode cX0_pointsOf 30 = .ok (.ireturn, 1) := by decide +kernel
theorem dX0_coresOf_0 : decode cX0_coresOf 0 = .ok (.iconst 0, 1) := by decide +kernel
theorem dX0_coresOf_1 : decode cX0_coresOf 1 = .ok (.istore_n 2, 1) := by decide +kernel
theorem dX0_coresOf_2 : decode cX0_coresOf 2 = .ok (.iconst 0, 1) := by decide +kernel
theorem dX0_coresOf_3 : decode cX0_coresOf 3 = .ok (.istore_n 3, 1) := by decide +kernel
theorem dX0_coresOf_4 : decode cX0_coresOf 4 = .ok (.iload_n 3, 1) := by decide +kernel
theorem dX0_coresOf_5 : decode cX0_coresOf 5 = .ok (.bipush 120, 2) := by decide +kernel
theorem dX0_coresOf_7 : decode cX0_coresOf 7 = .ok (.if_icmp .ge 31, 3) := by decide +kernel
theorem dX0_coresOf_10 : decode cX0_coresOf 10 = .ok (.aload_n 0, 1) := by decide +kernel
theorem dX0_coresOf_11 : decode cX0_coresOf 11 = .ok (.getfield 30, 3) := by decide +kernel
theorem dX0_coresOf_14 : decode cX0_coresOf 14 = .ok (.iload_n 3, 1) := by decide +kernel
theorem dX0_coresOf_15 : decode cX0_coresOf 15 = .ok (.baload, 1) := by decide +kernel
theorem dX0_coresOf_16 : decode cX0_coresOf 16 = .ok (.ifCond .eq 16, 3) := by decide +kernel
theorem dX0_coresOf_19 : decode cX0_coresOf 19 = .ok (.aload_n 0, 1) := by decide +kernel
theorem dX0_coresOf_20 : decode cX0_coresOf 20 = .ok (.getfield 34, 3) := by decide +kernel
theorem dX0_coresOf_23 : decode cX0_coresOf 23 = .ok (.iload_n 3, 1) := by decide +kernel
theorem dX0_coresOf_24 : decode cX0_coresOf 24 = .ok (.iaload, 1) := by decide +kernel
theorem dX0_coresOf_25 : decode cX0_coresOf 25 = .ok (.iload_n 1, 1) := by decide +kernel
theorem dX0_coresOf_26 : decode cX0_coresOf 26 = .ok (.if_icmp .ne 6, 3) := by decide +kernel
theorem dX0_coresOf_29 : decode cX0_coresOf 29 = .ok (.iinc 2 1, 3) := by decide +kernel
theorem dX0_coresOf_32 : decode cX0_coresOf 32 = .ok (.iinc 3 1, 3) := by decide +kernel
theorem dX0_coresOf_35 : decode cX0_coresOf 35 = .ok (.goto (-31), 3) := by decide +kernel
theorem dX0_coresOf_38 : decode cX0_coresOf 38 = .ok (.iload_n 2, 1) := by decide +kernel
theorem dX0_coresOf_39 : decode cX0_coresOf 39 = .ok (.ireturn, 1) := by decide +kernel
theorem dX0_weightsOf_0 : decode cX0_weightsOf 0 = .ok (.iconst 0, 1) := by decide +kernel
theorem dX0_weightsOf_1 : decode cX0_weightsOf 1 = .ok (.istore_n 2, 1) := by decide +kernel
theorem dX0_weightsOf_2 : decode cX0_weightsOf 2 = .ok (.iconst 0, 1) := by decide +kernel
theorem dX0_weightsOf_3 : decode cX0_weightsOf 3 = .ok (.istore_n 3, 1) := by decide +kernel
theorem dX0_weightsOf_4 : decode cX0_weightsOf 4 = .ok (.iload_n 3, 1) := by decide +kernel
theorem dX0_weightsOf_5 : decode cX0_weightsOf 5 = .ok (.bipush 120, 2) := by decide +kernel
theorem dX0_weightsOf_7 : decode cX0_weightsOf 7 = .ok (.if_icmp .ge 28, 3) := by decide +kernel
theorem dX0_weightsOf_10 : decode cX0_weightsOf 10 = .ok (.aload_n 0, 1) := by decide +kernel
theorem dX0_weightsOf_11 : decode cX0_weightsOf 11 = .ok (.getfield 34, 3) := by decide +kernel
theorem dX0_weightsOf_14 : decode cX0_weightsOf 14 = .ok (.iload_n 3, 1) := by decide +kernel
theorem dX0_weightsOf_15 : decode cX0_weightsOf 15 = .ok (.iaload, 1) := by decide +kernel
theorem dX0_weightsOf_16 : decode cX0_weightsOf 16 = .ok (.iload_n 1, 1) := by decide +kernel
theorem dX0_weightsOf_17 : decode cX0_weightsOf 17 = .ok (.if_icmp .ne 12, 3) := by decide +kernel
theorem dX0_weightsOf_20 : decode cX0_weightsOf 20 = .ok (.iload_n 2, 1) := by decide +kernel
theorem dX0_weightsOf_21 : decode cX0_weightsOf 21 = .ok (.aload_n 0, 1) := by decide +kernel
theorem dX0_weightsOf_22 : decode cX0_weightsOf 22 = .ok (.getfield 9, 3) := by decide +kernel
theorem dX0_weightsOf_25 : decode cX0_weightsOf 25 = .ok (.iload_n 3, 1) := by decide +kernel
theorem dX0_weightsOf_26 : decode cX0_weightsOf 26 = .ok (.iaload, 1) := by decide +kernel
theorem dX0_weightsOf_27 : decode cX0_weightsOf 27 = .ok (.iadd, 1) := by decide +kernel
theorem dX0_weightsOf_28 : decode cX0_weightsOf 28 = .ok (.istore_n 2, 1) := by decide +kernel
theorem dX0_weightsOf_29 : decode cX0_weightsOf 29 = .ok (.iinc 3 1, 3) := by decide +kernel
theorem dX0_weightsOf_32 : decode cX0_weightsOf 32 = .ok (.goto (-28), 3) := by decide +kernel
theorem dX0_weightsOf_35 : decode cX0_weightsOf 35 = .ok (.iload_n 2, 1) := by decide +kernel
theorem dX0_weightsOf_36 : decode cX0_weightsOf 36 = .ok (.ireturn, 1) := by decide +kernel
theorem dX0_leastCoreOf_0 : decode cX0_leastCoreOf 0 = .ok (.iconst 0, 1) := by decide +kernel
theorem dX0_leastCoreOf_1 : decode cX0_leastCoreOf 1 = .ok (.istore_n 2, 1) := by decide +kernel
theorem dX0_leastCoreOf_2 : decode cX0_leastCoreOf 2 = .ok (.iload_n 2, 1) := by decide +kernel
theorem dX0_leastCoreOf_3 : decode cX0_leastCoreOf 3 = .ok (.bipush 120, 2) := by decide +kernel
theorem dX0_leastCoreOf_5 : decode cX0_leastCoreOf 5 = .ok (.if_icmp .ge 30, 3) := by decide +kernel
theorem dX0_leastCoreOf_8 : decode cX0_leastCoreOf 8 = .ok (.aload_n 0, 1) := by decide +kernel
theorem dX0_leastCoreOf_9 : decode cX0_leastCoreOf 9 = .ok (.getfield 30, 3) := by decide +kernel
theorem dX0_leastCoreOf_12 : decode cX0_leastCoreOf 12 = .ok (.iload_n 2, 1) := by decide +kernel
theorem dX0_leastCoreOf_13 : decode cX0_leastCoreOf 13 = .ok (.baload, 1) := by decide +kernel
theorem dX0_leastCoreOf_14 : decode cX0_leastCoreOf 14 = .ok (.ifCond .eq 15, 3) := by decide +kernel
theorem dX0_leastCoreOf_17 : decode cX0_leastCoreOf 17 = .ok (.aload_n 0, 1) := by decide +kernel
theorem dX0_leastCoreOf_18 : decode cX0_leastCoreOf 18 = .ok (.getfield 34, 3) := by decide +kernel
theorem dX0_leastCoreOf_21 : decode cX0_leastCoreOf 21 = .ok (.iload_n 2, 1) := by decide +kernel
theorem dX0_leastCoreOf_22 : decode cX0_leastCoreOf 22 = .ok (.iaload, 1) := by decide +kernel
theorem dX0_leastCoreOf_23 : decode cX0_leastCoreOf 23 = .ok (.iload_n 1, 1) := by decide +kernel
theorem dX0_leastCoreOf_24 : decode cX0_leastCoreOf 24 = .ok (.if_icmp .ne 5, 3) := by decide +kernel
theorem dX0_leastCoreOf_27 : decode cX0_leastCoreOf 27 = .ok (.iload_n 2, 1) := by decide +kernel
theorem dX0_leastCoreOf_28 : decode cX0_leastCoreOf 28 = .ok (.ireturn, 1) := by decide +kernel
theorem dX0_leastCoreOf_29 : decode cX0_leastCoreOf 29 = .ok (.iinc 2 1, 3) := by decide +kernel
theorem dX0_leastCoreOf_32 : decode cX0_leastCoreOf 32 = .ok (.goto (-30), 3) := by decide +kernel
theorem dX0_leastCoreOf_35 : decode cX0_leastCoreOf 35 = .ok (.iconst (-1), 1) := by decide +kernel
theorem dX0_leastCoreOf_36 : decode cX0_leastCoreOf 36 = .ok (.ireturn, 1) := by decide +kernel
theorem dX0_leastOf_0 : decode cX0_leastOf 0 = .ok (.ldc 149, 2) := by decide +kernel
theorem dX0_leastOf_2 : decode cX0_leastOf 2 = .ok (.istore_n 3, 1) := by decide +kernel
theorem dX0_leastOf_3 : decode cX0_leastOf 3 = .ok (.iconst 0, 1) := by decide +kernel
theorem dX0_leastOf_4 : decode cX0_leastOf 4 = .ok (.istore 4, 2) := by decide +kernel
theorem dX0_leastOf_6 : decode cX0_leastOf 6 = .ok (.iload 4, 2) := by decide +kernel
theorem dX0_leastOf_8 : decode cX0_leastOf 8 = .ok (.bipush 120, 2) := by decide +kernel
theorem dX0_leastOf_10 : decode cX0_leastOf 10 = .ok (.if_icmp .ge 36, 3) := by decide +kernel
theorem dX0_leastOf_13 : decode cX0_leastOf 13 = .ok (.iload 4, 2) := by decide +kernel
theorem dX0_leastOf_15 : decode cX0_leastOf 15 = .ok (.aload_n 1, 1) := by decide +kernel
theorem dX0_leastOf_16 : decode cX0_leastOf 16 = .ok (.arraylength, 1) := by decide +kernel
theorem dX0_leastOf_17 : decode cX0_leastOf 17 = .ok (.if_icmp .ge 29, 3) := by decide +kernel
theorem dX0_leastOf_20 : decode cX0_leastOf 20 = .ok (.aload_n 0, 1) := by decide +kernel
theorem dX0_leastOf_21 : decode cX0_leastOf 21 = .ok (.getfield 34, 3) := by decide +kernel
theorem dX0_leastOf_24 : decode cX0_leastOf 24 = .ok (.iload 4, 2) := by decide +kernel
theorem dX0_leastOf_26 : decode cX0_leastOf 26 = .ok (.iaload, 1) := by decide +kernel
theorem dX0_leastOf_27 : decode cX0_leastOf 27 = .ok (.iload_n 2, 1) := by decide +kernel
theorem dX0_leastOf_28 : decode cX0_leastOf 28 = .ok (.if_icmp .ne 12, 3) := by decide +kernel
theorem dX0_leastOf_31 : decode cX0_leastOf 31 = .ok (.iload_n 3, 1) := by decide +kernel
theorem dX0_leastOf_32 : decode cX0_leastOf 32 = .ok (.aload_n 1, 1) := by decide +kernel
theorem dX0_leastOf_33 : decode cX0_leastOf 33 = .ok (.iload 4, 2) := by decide +kernel
theorem dX0_leastOf_35 : decode cX0_leastOf 35 = .ok (.iaload, 1) := by decide +kernel
theorem dX0_leastOf_36 : decode cX0_leastOf 36 = .ok (.invokestatic 183, 3) := by decide +kernel
theorem dX0_leastOf_39 : decode cX0_leastOf 39 = .ok (.istore_n 3, 1) := by decide +kernel
theorem dX0_leastOf_40 : decode cX0_leastOf 40 = .ok (.iinc 4 1, 3) := by decide +kernel
theorem dX0_leastOf_43 : decode cX0_leastOf 43 = .ok (.goto (-37), 3) := by decide +kernel
theorem dX0_leastOf_46 : decode cX0_leastOf 46 = .ok (.iload_n 3, 1) := by decide +kernel
theorem dX0_leastOf_47 : decode cX0_leastOf 47 = .ok (.ireturn, 1) := by decide +kernel
theorem dX0_greatestOf_0 : decode cX0_greatestOf 0 = .ok (.ldc 148, 2) := by decide +kernel
theorem dX0_greatestOf_2 : decode cX0_greatestOf 2 = .ok (.istore_n 3, 1) := by decide +kernel
theorem dX0_greatestOf_3 : decode cX0_greatestOf 3 = .ok (.iconst 0, 1) := by decide +kernel
theorem dX0_greatestOf_4 : decode cX0_greatestOf 4 = .ok (.istore 4, 2) := by decide +kernel
theorem dX0_greatestOf_6 : decode cX0_greatestOf 6 = .ok (.iload 4, 2) := by decide +kernel
theorem dX0_greatestOf_8 : decode cX0_greatestOf 8 = .ok (.bipush 120, 2) := by decide +kernel
theorem dX0_greatestOf_10 : decode cX0_greatestOf 10 = .ok (.if_icmp .ge 36, 3) := by decide +kernel
theorem dX0_greatestOf_13 : decode cX0_greatestOf 13 = .ok (.iload 4, 2) := by decide +kernel
theorem dX0_greatestOf_15 : decode cX0_greatestOf 15 = .ok (.aload_n 1, 1) := by decide +kernel
theorem dX0_greatestOf_16 : decode cX0_greatestOf 16 = .ok (.arraylength, 1) := by decide +kernel
theorem dX0_greatestOf_17 : decode cX0_greatestOf 17 = .ok (.if_icmp .ge 29, 3) := by decide +kernel
theorem dX0_greatestOf_20 : decode cX0_greatestOf 20 = .ok (.aload_n 0, 1) := by decide +kernel
theorem dX0_greatestOf_21 : decode cX0_greatestOf 21 = .ok (.getfield 34, 3) := by decide +kernel
theorem dX0_greatestOf_24 : decode cX0_greatestOf 24 = .ok (.iload 4, 2) := by decide +kernel
theorem dX0_greatestOf_26 : decode cX0_greatestOf 26 = .ok (.iaload, 1) := by decide +kernel
theorem dX0_greatestOf_27 : decode cX0_greatestOf 27 = .ok (.iload_n 2, 1) := by decide +kernel
theorem dX0_greatestOf_28 : decode cX0_greatestOf 28 = .ok (.if_icmp .ne 12, 3) := by decide +kernel
theorem dX0_greatestOf_31 : decode cX0_greatestOf 31 = .ok (.iload_n 3, 1) := by decide +kernel
theorem dX0_greatestOf_32 : decode cX0_greatestOf 32 = .ok (.aload_n 1, 1) := by decide +kernel
theorem dX0_greatestOf_33 : decode cX0_greatestOf 33 = .ok (.iload 4, 2) := by decide +kernel
theorem dX0_greatestOf_35 : decode cX0_greatestOf 35 = .ok (.iaload, 1) := by decide +kernel
theorem dX0_greatestOf_36 : decode cX0_greatestOf 36 = .ok (.invokestatic 187, 3) := by decide +kernel
theorem dX0_greatestOf_39 : decode cX0_greatestOf 39 = .ok (.istore_n 3, 1) := by decide +kernel
theorem dX0_greatestOf_40 : decode cX0_greatestOf 40 = .ok (.iinc 4 1, 3) := by decide +kernel
theorem dX0_greatestOf_43 : decode cX0_greatestOf 43 = .ok (.goto (-37), 3) := by decide +kernel
theorem dX0_greatestOf_46 : decode cX0_greatestOf 46 = .ok (.iload_n 3, 1) := by decide +kernel
theorem dX0_greatestOf_47 : decode cX0_greatestOf 47 = .ok (.ireturn, 1) := by decide +kernel
theorem dX0_findCoreFrom_0 : decode cX0_findCoreFrom 0 = .ok (.aload_n 0, 1) := by decide +kernel
theorem dX0_findCoreFrom_1 : decode cX0_findCoreFrom 1 = .ok (.getfield 51, 3) := by decide +kernel
theorem dX0_findCoreFrom_4 : decode cX0_findCoreFrom 4 = .ok (.ifCond .eq 4, 3) := by decide +kernel
theorem dX0_findCoreFrom_7 : decode cX0_findCoreFrom 7 = .ok (.return_, 1) := by decide +kernel
theorem dX0_findCoreFrom_8 : decode cX0_findCoreFrom 8 = .ok (.iconst 0, 1) := by decide +kernel
theorem dX0_findCoreFrom_9 : decode cX0_findCoreFrom 9 = .ok (.istore_n 1, 1) := by decide +kernel
theorem dX0_findCoreFrom_10 : decode cX0_findCoreFrom 10 = .ok (.iload_n 1, 1) := by decide +kernel
theorem dX0_findCoreFrom_11 : decode cX0_findCoreFrom 11 = .ok (.bipush 120, 2) := by decide +kernel
theorem dX0_findCoreFrom_13 : decode cX0_findCoreFrom 13 = .ok (.if_icmp .ge 35, 3) := by decide +kernel
theorem dX0_findCoreFrom_16 : decode cX0_findCoreFrom 16 = .ok (.aload_n 0, 1) := by decide +kernel
theorem dX0_findCoreFrom_17 : decode cX0_findCoreFrom 17 = .ok (.getfield 47, 3) := by decide +kernel
theorem dX0_findCoreFrom_20 : decode cX0_findCoreFrom 20 = .ok (.iload_n 1, 1) := by decide +kernel
theorem dX0_findCoreFrom_21 : decode cX0_findCoreFrom 21 = .ok (.aload_n 0, 1) := by decide +kernel
theorem dX0_findCoreFrom_22 : decode cX0_findCoreFrom 22 = .ok (.getfield 9, 3) := by decide +kernel
theorem dX0_findCoreFrom_25 : decode cX0_findCoreFrom 25 = .ok (.iload_n 1, 1) := by decide +kernel
theorem dX0_findCoreFrom_26 : decode cX0_findCoreFrom 26 = .ok (.iaload, 1) := by decide +kernel
theorem dX0_findCoreFrom_27 : decode cX0_findCoreFrom 27 = .ok (.ifCond .le 11, 3) := by decide +kernel
theorem dX0_findCoreFrom_30 : decode cX0_findCoreFrom 30 = .ok (.aload_n 0, 1) := by decide +kernel
theorem dX0_findCoreFrom_31 : decode cX0_findCoreFrom 31 = .ok (.iload_n 1, 1) := by decide +kernel
theorem dX0_findCoreFrom_32 : decode cX0_findCoreFrom 32 = .ok (.invokevirtual 106, 3) := by decide +kernel
theorem dX0_findCoreFrom_35 : decode cX0_findCoreFrom 35 = .ok (.goto 6, 3) := by decide +kernel
theorem dX0_findCoreFrom_38 : decode cX0_findCoreFrom 38 = .ok (.ldc2_w 88, 3) := by decide +kernel
theorem dX0_findCoreFrom_41 : decode cX0_findCoreFrom 41 = .ok (.lastore, 1) := by decide +kernel
theorem dX0_findCoreFrom_42 : decode cX0_findCoreFrom 42 = .ok (.iinc 1 1, 3) := by decide +kernel
theorem dX0_findCoreFrom_45 : decode cX0_findCoreFrom 45 = .ok (.goto (-35), 3) := by decide +kernel
theorem dX0_findCoreFrom_48 : decode cX0_findCoreFrom 48 = .ok (.aload_n 0, 1) := by decide +kernel
theorem dX0_findCoreFrom_49 : decode cX0_findCoreFrom 49 = .ok (.iconst 1, 1) := by decide +kernel
theorem dX0_findCoreFrom_50 : decode cX0_findCoreFrom 50 = .ok (.putfield 51, 3) := by decide +kernel
theorem dX0_findCoreFrom_53 : decode cX0_findCoreFrom 53 = .ok (.return_, 1) := by decide +kernel
theorem dX0_leastReachAsCore_0 : decode cX0_leastReachAsCore 0 = .ok (.iconst 0, 1) := by decide +kernel
theorem dX0_leastReachAsCore_1 : decode cX0_leastReachAsCore 1 = .ok (.istore_n 2, 1) := by decide +kernel
theorem dX0_leastReachAsCore_2 : decode cX0_leastReachAsCore 2 = .ok (.iconst 0, 1) := by decide +kernel
theorem dX0_leastReachAsCore_3 : decode cX0_leastReachAsCore 3 = .ok (.istore_n 3, 1) := by decide +kernel
theorem dX0_leastReachAsCore_4 : decode cX0_leastReachAsCore 4 = .ok (.iconst 0, 1) := by decide +kernel
theorem dX0_leastReachAsCore_5 : decode cX0_leastReachAsCore 5 = .ok (.istore 4, 2) := by decide +kernel
theorem dX0_leastReachAsCore_7 : decode cX0_leastReachAsCore 7 = .ok (.iload 4, 2) := by decide +kernel
theorem dX0_leastReachAsCore_9 : decode cX0_leastReachAsCore 9 = .ok (.bipush 120, 2) := by decide +kernel
theorem dX0_leastReachAsCore_11 : decode cX0_leastReachAsCore 11 = .ok (.if_icmp .ge 114, 3) := by decide +kernel
theorem dX0_leastReachAsCore_14 : decode cX0_leastReachAsCore 14 = .ok (.aload_n 0, 1) := by decide +kernel
theorem dX0_leastReachAsCore_15 : decode cX0_leastReachAsCore 15 = .ok (.getfield 9, 3) := by decide +kernel
theorem dX0_leastReachAsCore_18 : decode cX0_leastReachAsCore 18 = .ok (.iload 4, 2) := by decide +kernel
theorem dX0_leastReachAsCore_20 : decode cX0_leastReachAsCore 20 = .ok (.iaload, 1) := by decide +kernel
theorem dX0_leastReachAsCore_21 : decode cX0_leastReachAsCore 21 = .ok (.ifCond .ne 6, 3) := by decide +kernel
theorem dX0_leastReachAsCore_24 : decode cX0_leastReachAsCore 24 = .ok (.goto 95, 3) := by decide +kernel
theorem dX0_leastReachAsCore_27 : decode cX0_leastReachAsCore 27 = .ok (.aload_n 0, 1) := by decide +kernel
theorem dX0_leastReachAsCore_28 : decode cX0_leastReachAsCore 28 = .ok (.iload_n 1, 1) := by decide +kernel
theorem dX0_leastReachAsCore_29 : decode cX0_leastReachAsCore 29 = .ok (.iload 4, 2) := by decide +kernel
theorem dX0_leastReachAsCore_31 : decode cX0_leastReachAsCore 31 = .ok (.invokevirtual 90, 3) := by decide +kernel
theorem dX0_leastReachAsCore_34 : decode cX0_leastReachAsCore 34 = .ok (.lstore 5, 2) := by decide +kernel
theorem dX0_leastReachAsCore_36 : decode cX0_leastReachAsCore 36 = .ok (.iload_n 3, 1) := by decide +kernel
theorem dX0_leastReachAsCore_37 : decode cX0_leastReachAsCore 37 = .ok (.aload_n 0, 1) := by decide +kernel
theorem dX0_leastReachAsCore_38 : decode cX0_leastReachAsCore 38 = .ok (.getfield 27, 3) := by decide +kernel
theorem dX0_leastReachAsCore_41 : decode cX0_leastReachAsCore 41 = .ok (.if_icmp .lt 17, 3) := by decide +kernel
theorem dX0_leastReachAsCore_44 : decode cX0_leastReachAsCore 44 = .ok (.lload 5, 2) := by decide +kernel
theorem dX0_leastReachAsCore_46 : decode cX0_leastReachAsCore 46 = .ok (.aload_n 0, 1) := by decide +kernel
theorem dX0_leastReachAsCore_47 : decode cX0_leastReachAsCore 47 = .ok (.iload_n 2, 1) := by decide +kernel
theorem dX0_leastReachAsCore_48 : decode cX0_leastReachAsCore 48 = .ok (.invokevirtual 189, 3) := by decide +kernel
theorem dX0_leastReachAsCore_51 : decode cX0_leastReachAsCore 51 = .ok (.lcmp, 1) := by decide +kernel
theorem dX0_leastReachAsCore_52 : decode cX0_leastReachAsCore 52 = .ok (.ifCond .lt 6, 3) := by decide +kernel
theorem dX0_leastReachAsCore_55 : decode cX0_leastReachAsCore 55 = .ok (.goto 64, 3) := by decide +kernel
theorem dX0_leastReachAsCore_58 : decode cX0_leastReachAsCore 58 = .ok (.aload_n 0, 1) := by decide +kernel
theorem dX0_leastReachAsCore_59 : decode cX0_leastReachAsCore 59 = .ok (.iload_n 2, 1) := by decide +kernel
theorem dX0_leastReachAsCore_60 : decode cX0_leastReachAsCore 60 = .ok (.lload 5, 2) := by decide +kernel
theorem dX0_leastReachAsCore_62 : decode cX0_leastReachAsCore 62 = .ok (.aload_n 0, 1) := by decide +kernel
theorem dX0_leastReachAsCore_63 : decode cX0_leastReachAsCore 63 = .ok (.getfield 9, 3) := by decide +kernel
theorem dX0_leastReachAsCore_66 : decode cX0_leastReachAsCore 66 = .ok (.iload 4, 2) := by decide +kernel
theorem dX0_leastReachAsCore_68 : decode cX0_leastReachAsCore 68 = .ok (.iaload, 1) := by decide +kernel
theorem dX0_leastReachAsCore_69 : decode cX0_leastReachAsCore 69 = .ok (.invokevirtual 192, 3) := by decide +kernel
theorem dX0_leastReachAsCore_72 : decode cX0_leastReachAsCore 72 = .ok (.istore_n 2, 1) := by decide +kernel
theorem dX0_leastReachAsCore_73 : decode cX0_leastReachAsCore 73 = .ok (.iload_n 3, 1) := by decide +kernel
theorem dX0_leastReachAsCore_74 : decode cX0_leastReachAsCore 74 = .ok (.aload_n 0, 1) := by decide +kernel
theorem dX0_leastReachAsCore_75 : decode cX0_leastReachAsCore 75 = .ok (.getfield 9, 3) := by decide +kernel
theorem dX0_leastReachAsCore_78 : decode cX0_leastReachAsCore 78 = .ok (.iload 4, 2) := by decide +kernel
theorem dX0_leastReachAsCore_80 : decode cX0_leastReachAsCore 80 = .ok (.iaload, 1) := by decide +kernel
theorem dX0_leastReachAsCore_81 : decode cX0_leastReachAsCore 81 = .ok (.iadd, 1) := by decide +kernel
theorem dX0_leastReachAsCore_82 : decode cX0_leastReachAsCore 82 = .ok (.istore_n 3, 1) := by decide +kernel
theorem dX0_leastReachAsCore_83 : decode cX0_leastReachAsCore 83 = .ok (.iload_n 2, 1) := by decide +kernel
theorem dX0_leastReachAsCore_84 : decode cX0_leastReachAsCore 84 = .ok (.ifCond .le 35, 3) := by decide +kernel
theorem dX0_leastReachAsCore_87 : decode cX0_leastReachAsCore 87 = .ok (.iload_n 3, 1) := by decide +kernel
theorem dX0_leastReachAsCore_88 : decode cX0_leastReachAsCore 88 = .ok (.aload_n 0, 1) := by decide +kernel
theorem dX0_leastReachAsCore_89 : decode cX0_leastReachAsCore 89 = .ok (.getfield 57, 3) := by decide +kernel
theorem dX0_leastReachAsCore_92 : decode cX0_leastReachAsCore 92 = .ok (.iload_n 2, 1) := by decide +kernel
theorem dX0_leastReachAsCore_93 : decode cX0_leastReachAsCore 93 = .ok (.iconst 1, 1) := by decide +kernel
theorem dX0_leastReachAsCore_94 : decode cX0_leastReachAsCore 94 = .ok (.isub, 1) := by decide +kernel
theorem dX0_leastReachAsCore_95 : decode cX0_leastReachAsCore 95 = .ok (.iaload, 1) := by decide +kernel
theorem dX0_leastReachAsCore_96 : decode cX0_leastReachAsCore 96 = .ok (.isub, 1) := by decide +kernel
theorem dX0_leastReachAsCore_97 : decode cX0_leastReachAsCore 97 = .ok (.aload_n 0, 1) := by decide +kernel
theorem dX0_leastReachAsCore_98 : decode cX0_leastReachAsCore 98 = .ok (.getfield 27, 3) := by decide +kernel
theorem dX0_leastReachAsCore_101 : decode cX0_leastReachAsCore 101 = .ok (.if_icmp .lt 18, 3) := by decide +kernel
theorem dX0_leastReachAsCore_104 : decode cX0_leastReachAsCore 104 = .ok (.iinc 2 (-1), 3) := by decide +kernel
theorem dX0_leastReachAsCore_107 : decode cX0_leastReachAsCore 107 = .ok (.iload_n 3, 1) := by decide +kernel
theorem dX0_leastReachAsCore_108 : decode cX0_leastReachAsCore 108 = .ok (.aload_n 0, 1) := by decide +kernel
theorem dX0_leastReachAsCore_109 : decode cX0_leastReachAsCore 109 = .ok (.getfield 57, 3) := by decide +kernel
theorem dX0_leastReachAsCore_112 : decode cX0_leastReachAsCore 112 = .ok (.iload_n 2, 1) := by decide +kernel
theorem dX0_leastReachAsCore_113 : decode cX0_leastReachAsCore 113 = .ok (.iaload, 1) := by decide +kernel
theorem dX0_leastReachAsCore_114 : decode cX0_leastReachAsCore 114 = .ok (.isub, 1) := by decide +kernel
theorem dX0_leastReachAsCore_115 : decode cX0_leastReachAsCore 115 = .ok (.istore_n 3, 1) := by decide +kernel
theorem dX0_leastReachAsCore_116 : decode cX0_leastReachAsCore 116 = .ok (.goto (-33), 3) := by decide +kernel
theorem dX0_leastReachAsCore_119 : decode cX0_leastReachAsCore 119 = .ok (.iinc 4 1, 3) := by decide +kernel
theorem dX0_leastReachAsCore_122 : decode cX0_leastReachAsCore 122 = .ok (.goto (-115), 3) := by decide +kernel
theorem dX0_leastReachAsCore_125 : decode cX0_leastReachAsCore 125 = .ok (.iload_n 3, 1) := by decide +kernel
theorem dX0_leastReachAsCore_126 : decode cX0_leastReachAsCore 126 = .ok (.aload_n 0, 1) := by decide +kernel
theorem dX0_leastReachAsCore_127 : decode cX0_leastReachAsCore 127 = .ok (.getfield 27, 3) := by decide +kernel
theorem dX0_leastReachAsCore_130 : decode cX0_leastReachAsCore 130 = .ok (.if_icmp .lt 11, 3) := by decide +kernel
theorem dX0_leastReachAsCore_133 : decode cX0_leastReachAsCore 133 = .ok (.aload_n 0, 1) := by decide +kernel
theorem dX0_leastReachAsCore_134 : decode cX0_leastReachAsCore 134 = .ok (.iload_n 2, 1) := by decide +kernel
theorem dX0_leastReachAsCore_135 : decode cX0_leastReachAsCore 135 = .ok (.invokevirtual 189, 3) := by decide +kernel
theorem dX0_leastReachAsCore_138 : decode cX0_leastReachAsCore 138 = .ok (.goto 6, 3) := by decide +kernel
theorem dX0_leastReachAsCore_141 : decode cX0_leastReachAsCore 141 = .ok (.ldc2_w 88, 3) := by decide +kernel
theorem dX0_leastReachAsCore_144 : decode cX0_leastReachAsCore 144 = .ok (.lreturn, 1) := by decide +kernel
theorem dX0_lastGap_0 : decode cX0_lastGap 0 = .ok (.iload_n 1, 1) := by decide +kernel
theorem dX0_lastGap_1 : decode cX0_lastGap 1 = .ok (.ifCond .le 14, 3) := by decide +kernel
theorem dX0_lastGap_4 : decode cX0_lastGap 4 = .ok (.aload_n 0, 1) := by decide +kernel
theorem dX0_lastGap_5 : decode cX0_lastGap 5 = .ok (.getfield 54, 3) := by decide +kernel
theorem dX0_lastGap_8 : decode cX0_lastGap 8 = .ok (.iload_n 1, 1) := by decide +kernel
theorem dX0_lastGap_9 : decode cX0_lastGap 9 = .ok (.iconst 1, 1) := by decide +kernel
theorem dX0_lastGap_10 : decode cX0_lastGap 10 = .ok (.isub, 1) := by decide +kernel
theorem dX0_lastGap_11 : decode cX0_lastGap 11 = .ok (.laload, 1) := by decide +kernel
theorem dX0_lastGap_12 : decode cX0_lastGap 12 = .ok (.goto 6, 3) := by decide +kernel
theorem dX0_lastGap_15 : decode cX0_lastGap 15 = .ok (.ldc2_w 88, 3) := by decide +kernel
theorem dX0_lastGap_18 : decode cX0_lastGap 18 = .ok (.lreturn, 1) := by decide +kernel
theorem dX0_keepNear_0 : decode cX0_keepNear 0 = .ok (.iload_n 1, 1) := by decide +kernel
theorem dX0_keepNear_1 : decode cX0_keepNear 1 = .ok (.bipush 120, 2) := by decide +kernel
theorem dX0_keepNear_3 : decode cX0_keepNear 3 = .ok (.if_icmp .lt 5, 3) := by decide +kernel
theorem dX0_keepNear_6 : decode cX0_keepNear 6 = .ok (.iload_n 1, 1) := by decide +kernel
theorem dX0_keepNear_7 : decode cX0_keepNear 7 = .ok (.ireturn, 1) := by decide +kernel
theorem dX0_keepNear_8 : decode cX0_keepNear 8 = .ok (.iload_n 1, 1) := by decide +kernel
theorem dX0_keepNear_9 : decode cX0_keepNear 9 = .ok (.istore 5, 2) := by decide +kernel
theorem dX0_keepNear_11 : decode cX0_keepNear 11 = .ok (.iload 5, 2) := by decide +kernel
theorem dX0_keepNear_13 : decode cX0_keepNear 13 = .ok (.ifCond .le 55, 3) := by decide +kernel
theorem dX0_keepNear_16 : decode cX0_keepNear 16 = .ok (.aload_n 0, 1) := by decide +kernel
theorem dX0_keepNear_17 : decode cX0_keepNear 17 = .ok (.getfield 54, 3) := by decide +kernel
theorem dX0_keepNear_20 : decode cX0_keepNear 20 = .ok (.iload 5, 2) := by decide +kernel
theorem dX0_keepNear_22 : decode cX0_keepNear 22 = .ok (.iconst 1, 1) := by decide +kernel
theorem dX0_keepNear_23 : decode cX0_keepNear 23 = .ok (.isub, 1) := by decide +kernel
theorem dX0_keepNear_24 : decode cX0_keepNear 24 = .ok (.laload, 1) := by decide +kernel
theorem dX0_keepNear_25 : decode cX0_keepNear 25 = .ok (.lload_n 2, 1) := by decide +kernel
theorem dX0_keepNear_26 : decode cX0_keepNear 26 = .ok (.lcmp, 1) := by decide +kernel
theorem dX0_keepNear_27 : decode cX0_keepNear 27 = .ok (.ifCond .le 41, 3) := by decide +kernel
theorem dX0_keepNear_30 : decode cX0_keepNear 30 = .ok (.aload_n 0, 1) := by decide +kernel
theorem dX0_keepNear_31 : decode cX0_keepNear 31 = .ok (.getfield 54, 3) := by decide +kernel
theorem dX0_keepNear_34 : decode cX0_keepNear 34 = .ok (.iload 5, 2) := by decide +kernel
theorem dX0_keepNear_36 : decode cX0_keepNear 36 = .ok (.aload_n 0, 1) := by decide +kernel
theorem dX0_keepNear_37 : decode cX0_keepNear 37 = .ok (.getfield 54, 3) := by decide +kernel
theorem dX0_keepNear_40 : decode cX0_keepNear 40 = .ok (.iload 5, 2) := by decide +kernel
theorem dX0_keepNear_42 : decode cX0_keepNear 42 = .ok (.iconst 1, 1) := by decide +kernel
theorem dX0_keepNear_43 : decode cX0_keepNear 43 = .ok (.isub, 1) := by decide +kernel
theorem dX0_keepNear_44 : decode cX0_keepNear 44 = .ok (.laload, 1) := by decide +kernel
theorem dX0_keepNear_45 : decode cX0_keepNear 45 = .ok (.lastore, 1) := by decide +kernel
theorem dX0_keepNear_46 : decode cX0_keepNear 46 = .ok (.aload_n 0, 1) := by decide +kernel
theorem dX0_keepNear_47 : decode cX0_keepNear 47 = .ok (.getfield 57, 3) := by decide +kernel
theorem dX0_keepNear_50 : decode cX0_keepNear 50 = .ok (.iload 5, 2) := by decide +kernel
theorem dX0_keepNear_52 : decode cX0_keepNear 52 = .ok (.aload_n 0, 1) := by decide +kernel
theorem dX0_keepNear_53 : decode cX0_keepNear 53 = .ok (.getfield 57, 3) := by decide +kernel
theorem dX0_keepNear_56 : decode cX0_keepNear 56 = .ok (.iload 5, 2) := by decide +kernel
theorem dX0_keepNear_58 : decode cX0_keepNear 58 = .ok (.iconst 1, 1) := by decide +kernel
theorem dX0_keepNear_59 : decode cX0_keepNear 59 = .ok (.isub, 1) := by decide +kernel
theorem dX0_keepNear_60 : decode cX0_keepNear 60 = .ok (.iaload, 1) := by decide +kernel
theorem dX0_keepNear_61 : decode cX0_keepNear 61 = .ok (.iastore, 1) := by decide +kernel
theorem dX0_keepNear_62 : decode cX0_keepNear 62 = .ok (.iinc 5 (-1), 3) := by decide +kernel
theorem dX0_keepNear_65 : decode cX0_keepNear 65 = .ok (.goto (-54), 3) := by decide +kernel
theorem dX0_keepNear_68 : decode cX0_keepNear 68 = .ok (.aload_n 0, 1) := by decide +kernel
theorem dX0_keepNear_69 : decode cX0_keepNear 69 = .ok (.getfield 54, 3) := by decide +kernel
theorem dX0_keepNear_72 : decode cX0_keepNear 72 = .ok (.iload 5, 2) := by decide +kernel
theorem dX0_keepNear_74 : decode cX0_keepNear 74 = .ok (.lload_n 2, 1) := by decide +kernel
theorem dX0_keepNear_75 : decode cX0_keepNear 75 = .ok (.lastore, 1) := by decide +kernel
theorem dX0_keepNear_76 : decode cX0_keepNear 76 = .ok (.aload_n 0, 1) := by decide +kernel
theorem dX0_keepNear_77 : decode cX0_keepNear 77 = .ok (.getfield 57, 3) := by decide +kernel
theorem dX0_keepNear_80 : decode cX0_keepNear 80 = .ok (.iload 5, 2) := by decide +kernel
theorem dX0_keepNear_82 : decode cX0_keepNear 82 = .ok (.iload 4, 2) := by decide +kernel
theorem dX0_keepNear_84 : decode cX0_keepNear 84 = .ok (.iastore, 1) := by decide +kernel
theorem dX0_keepNear_85 : decode cX0_keepNear 85 = .ok (.iload_n 1, 1) := by decide +kernel
theorem dX0_keepNear_86 : decode cX0_keepNear 86 = .ok (.iconst 1, 1) := by decide +kernel
theorem dX0_keepNear_87 : decode cX0_keepNear 87 = .ok (.iadd, 1) := by decide +kernel
theorem dX0_keepNear_88 : decode cX0_keepNear 88 = .ok (.ireturn, 1) := by decide +kernel
theorem dX0_leastReachFrom_0 : decode cX0_leastReachFrom 0 = .ok (.iconst 0, 1) := by decide +kernel
theorem dX0_leastReachFrom_1 : decode cX0_leastReachFrom 1 = .ok (.istore_n 3, 1) := by decide +kernel
theorem dX0_leastReachFrom_2 : decode cX0_leastReachFrom 2 = .ok (.iload_n 3, 1) := by decide +kernel
theorem dX0_leastReachFrom_3 : decode cX0_leastReachFrom 3 = .ok (.bipush 120, 2) := by decide +kernel
theorem dX0_leastReachFrom_5 : decode cX0_leastReachFrom 5 = .ok (.if_icmp .ge 25, 3) := by decide +kernel
theorem dX0_leastReachFrom_8 : decode cX0_leastReachFrom 8 = .ok (.aload_n 0, 1) := by decide +kernel
theorem dX0_leastReachFrom_9 : decode cX0_leastReachFrom 9 = .ok (.getfield 60, 3) := by decide +kernel
theorem dX0_leastReachFrom_12 : decode cX0_leastReachFrom 12 = .ok (.iload_n 3, 1) := by decide +kernel
theorem dX0_leastReachFrom_13 : decode cX0_leastReachFrom 13 = .ok (.ldc2_w 198, 3) := by decide +kernel
theorem dX0_leastReachFrom_16 : decode cX0_leastReachFrom 16 = .ok (.lastore, 1) := by decide +kernel
theorem dX0_leastReachFrom_17 : decode cX0_leastReachFrom 17 = .ok (.aload_n 0, 1) := by decide +kernel
theorem dX0_leastReachFrom_18 : decode cX0_leastReachFrom 18 = .ok (.getfield 63, 3) := by decide +kernel
theorem dX0_leastReachFrom_21 : decode cX0_leastReachFrom 21 = .ok (.iload_n 3, 1) := by decide +kernel
theorem dX0_leastReachFrom_22 : decode cX0_leastReachFrom 22 = .ok (.iconst 0, 1) := by decide +kernel
theorem dX0_leastReachFrom_23 : decode cX0_leastReachFrom 23 = .ok (.bastore, 1) := by decide +kernel
theorem dX0_leastReachFrom_24 : decode cX0_leastReachFrom 24 = .ok (.iinc 3 1, 3) := by decide +kernel
theorem dX0_leastReachFrom_27 : decode cX0_leastReachFrom 27 = .ok (.goto (-25), 3) := by decide +kernel
theorem dX0_leastReachFrom_30 : decode cX0_leastReachFrom 30 = .ok (.aload_n 0, 1) := by decide +kernel
theorem dX0_leastReachFrom_31 : decode cX0_leastReachFrom 31 = .ok (.getfield 60, 3) := by decide +kernel
theorem dX0_leastReachFrom_34 : decode cX0_leastReachFrom 34 = .ok (.iload_n 1, 1) := by decide +kernel
theorem dX0_leastReachFrom_35 : decode cX0_leastReachFrom 35 = .ok (.aload_n 0, 1) := by decide +kernel
theorem dX0_leastReachFrom_36 : decode cX0_leastReachFrom 36 = .ok (.getfield 47, 3) := by decide +kernel
theorem dX0_leastReachFrom_39 : decode cX0_leastReachFrom 39 = .ok (.iload_n 1, 1) := by decide +kernel
theorem dX0_leastReachFrom_40 : decode cX0_leastReachFrom 40 = .ok (.laload, 1) := by decide +kernel
theorem dX0_leastReachFrom_41 : decode cX0_leastReachFrom 41 = .ok (.lastore, 1) := by decide +kernel
theorem dX0_leastReachFrom_42 : decode cX0_leastReachFrom 42 = .ok (.iconst 0, 1) := by decide +kernel
theorem dX0_leastReachFrom_43 : decode cX0_leastReachFrom 43 = .ok (.istore_n 3, 1) := by decide +kernel
theorem dX0_leastReachFrom_44 : decode cX0_leastReachFrom 44 = .ok (.iload_n 3, 1) := by decide +kernel
theorem dX0_leastReachFrom_45 : decode cX0_leastReachFrom 45 = .ok (.bipush 120, 2) := by decide +kernel
theorem dX0_leastReachFrom_47 : decode cX0_leastReachFrom 47 = .ok (.if_icmp .ge 52, 3) := by decide +kernel
theorem dX0_leastReachFrom_50 : decode cX0_leastReachFrom 50 = .ok (.aload_n 0, 1) := by decide +kernel
theorem dX0_leastReachFrom_51 : decode cX0_leastReachFrom 51 = .ok (.invokevirtual 200, 3) := by decide +kernel
theorem dX0_leastReachFrom_54 : decode cX0_leastReachFrom 54 = .ok (.istore 4, 2) := by decide +kernel
theorem dX0_leastReachFrom_56 : decode cX0_leastReachFrom 56 = .ok (.iload 4, 2) := by decide +kernel
theorem dX0_leastReachFrom_58 : decode cX0_leastReachFrom 58 = .ok (.iconst (-1), 1) := by decide +kernel
theorem dX0_leastReachFrom_59 : decode cX0_leastReachFrom 59 = .ok (.if_icmp .ne 7, 3) := by decide +kernel
theorem dX0_leastReachFrom_62 : decode cX0_leastReachFrom 62 = .ok (.ldc2_w 88, 3) := by decide +kernel
theorem dX0_leastReachFrom_65 : decode cX0_leastReachFrom 65 = .ok (.lreturn, 1) := by decide +kernel
theorem dX0_leastReachFrom_66 : decode cX0_leastReachFrom 66 = .ok (.iload 4, 2) := by decide +kernel
theorem dX0_leastReachFrom_68 : decode cX0_leastReachFrom 68 = .ok (.iload_n 2, 1) := by decide +kernel
theorem dX0_leastReachFrom_69 : decode cX0_leastReachFrom 69 = .ok (.if_icmp .ne 10, 3) := by decide +kernel
theorem dX0_leastReachFrom_72 : decode cX0_leastReachFrom 72 = .ok (.aload_n 0, 1) := by decide +kernel
theorem dX0_leastReachFrom_73 : decode cX0_leastReachFrom 73 = .ok (.getfield 60, 3) := by decide +kernel
theorem dX0_leastReachFrom_76 : decode cX0_leastReachFrom 76 = .ok (.iload_n 2, 1) := by decide +kernel
theorem dX0_leastReachFrom_77 : decode cX0_leastReachFrom 77 = .ok (.laload, 1) := by decide +kernel
theorem dX0_leastReachFrom_78 : decode cX0_leastReachFrom 78 = .ok (.lreturn, 1) := by decide +kernel
theorem dX0_leastReachFrom_79 : decode cX0_leastReachFrom 79 = .ok (.aload_n 0, 1) := by decide +kernel
theorem dX0_leastReachFrom_80 : decode cX0_leastReachFrom 80 = .ok (.getfield 63, 3) := by decide +kernel
theorem dX0_leastReachFrom_83 : decode cX0_leastReachFrom 83 = .ok (.iload 4, 2) := by decide +kernel
theorem dX0_leastReachFrom_85 : decode cX0_leastReachFrom 85 = .ok (.iconst 1, 1) := by decide +kernel
theorem dX0_leastReachFrom_86 : decode cX0_leastReachFrom 86 = .ok (.bastore, 1) := by decide +kernel
theorem dX0_leastReachFrom_87 : decode cX0_leastReachFrom 87 = .ok (.aload_n 0, 1) := by decide +kernel
theorem dX0_leastReachFrom_88 : decode cX0_leastReachFrom 88 = .ok (.iload 4, 2) := by decide +kernel
theorem dX0_leastReachFrom_90 : decode cX0_leastReachFrom 90 = .ok (.invokevirtual 203, 3) := by decide +kernel
theorem dX0_leastReachFrom_93 : decode cX0_leastReachFrom 93 = .ok (.iinc 3 1, 3) := by decide +kernel
theorem dX0_leastReachFrom_96 : decode cX0_leastReachFrom 96 = .ok (.goto (-52), 3) := by decide +kernel
theorem dX0_leastReachFrom_99 : decode cX0_leastReachFrom 99 = .ok (.ldc2_w 88, 3) := by decide +kernel
theorem dX0_leastReachFrom_102 : decode cX0_leastReachFrom 102 = .ok (.lreturn, 1) := by decide +kernel
theorem dX0_cheapestUnsettled_0 : decode cX0_cheapestUnsettled 0 = .ok (.iconst (-1), 1) := by decide +kernel
theorem dX0_cheapestUnsettled_1 : decode cX0_cheapestUnsettled 1 = .ok (.istore_n 1, 1) := by decide +kernel
theorem dX0_cheapestUnsettled_2 : decode cX0_cheapestUnsettled 2 = .ok (.iconst 0, 1) := by decide +kernel
theorem dX0_cheapestUnsettled_3 : decode cX0_cheapestUnsettled 3 = .ok (.istore_n 2, 1) := by decide +kernel
theorem dX0_cheapestUnsettled_4 : decode cX0_cheapestUnsettled 4 = .ok (.iload_n 2, 1) := by decide +kernel
theorem dX0_cheapestUnsettled_5 : decode cX0_cheapestUnsettled 5 = .ok (.bipush 120, 2) := by decide +kernel
theorem dX0_cheapestUnsettled_7 : decode cX0_cheapestUnsettled 7 = .ok (.if_icmp .ge 50, 3) := by decide +kernel
theorem dX0_cheapestUnsettled_10 : decode cX0_cheapestUnsettled 10 = .ok (.aload_n 0, 1) := by decide +kernel
theorem dX0_cheapestUnsettled_11 : decode cX0_cheapestUnsettled 11 = .ok (.getfield 9, 3) := by decide +kernel
theorem dX0_cheapestUnsettled_14 : decode cX0_cheapestUnsettled 14 = .ok (.iload_n 2, 1) := by decide +kernel
theorem dX0_cheapestUnsettled_15 : decode cX0_cheapestUnsettled 15 = .ok (.iaload, 1) := by decide +kernel
theorem dX0_cheapestUnsettled_16 : decode cX0_cheapestUnsettled 16 = .ok (.ifCond .le 35, 3) := by decide +kernel
theorem dX0_cheapestUnsettled_19 : decode cX0_cheapestUnsettled 19 = .ok (.aload_n 0, 1) := by decide +kernel
theorem dX0_cheapestUnsettled_20 : decode cX0_cheapestUnsettled 20 = .ok (.getfield 63, 3) := by decide +kernel
theorem dX0_cheapestUnsettled_23 : decode cX0_cheapestUnsettled 23 = .ok (.iload_n 2, 1) := by decide +kernel
theorem dX0_cheapestUnsettled_24 : decode cX0_cheapestUnsettled 24 = .ok (.baload, 1) := by decide +kernel
theorem dX0_cheapestUnsettled_25 : decode cX0_cheapestUnsettled 25 = .ok (.ifCond .ne 26, 3) := by decide +kernel
theorem dX0_cheapestUnsettled_28 : decode cX0_cheapestUnsettled 28 = .ok (.iload_n 1, 1) := by decide +kernel
theorem dX0_cheapestUnsettled_29 : decode cX0_cheapestUnsettled 29 = .ok (.iconst (-1), 1) := by decide +kernel
theorem dX0_cheapestUnsettled_30 : decode cX0_cheapestUnsettled 30 = .ok (.if_icmp .eq 19, 3) := by decide +kernel
theorem dX0_cheapestUnsettled_33 : decode cX0_cheapestUnsettled 33 = .ok (.aload_n 0, 1) := by decide +kernel
theorem dX0_cheapestUnsettled_34 : decode cX0_cheapestUnsettled 34 = .ok (.getfield 60, 3) := by decide +kernel
theorem dX0_cheapestUnsettled_37 : decode cX0_cheapestUnsettled 37 = .ok (.iload_n 2, 1) := by decide +kernel
theorem dX0_cheapestUnsettled_38 : decode cX0_cheapestUnsettled 38 = .ok (.laload, 1) := by decide +kernel
theorem dX0_cheapestUnsettled_39 : decode cX0_cheapestUnsettled 39 = .ok (.aload_n 0, 1) := by decide +kernel
theorem dX0_cheapestUnsettled_40 : decode cX0_cheapestUnsettled 40 = .ok (.getfield 60, 3) := by decide +kernel
theorem dX0_cheapestUnsettled_43 : decode cX0_cheapestUnsettled 43 = .ok (.iload_n 1, 1) := by decide +kernel
theorem dX0_cheapestUnsettled_44 : decode cX0_cheapestUnsettled 44 = .ok (.laload, 1) := by decide +kernel
theorem dX0_cheapestUnsettled_45 : decode cX0_cheapestUnsettled 45 = .ok (.lcmp, 1) := by decide +kernel
theorem dX0_cheapestUnsettled_46 : decode cX0_cheapestUnsettled 46 = .ok (.ifCond .ge 5, 3) := by decide +kernel
theorem dX0_cheapestUnsettled_49 : decode cX0_cheapestUnsettled 49 = .ok (.iload_n 2, 1) := by decide +kernel
theorem dX0_cheapestUnsettled_50 : decode cX0_cheapestUnsettled 50 = .ok (.istore_n 1, 1) := by decide +kernel
theorem dX0_cheapestUnsettled_51 : decode cX0_cheapestUnsettled 51 = .ok (.iinc 2 1, 3) := by decide +kernel
theorem dX0_cheapestUnsettled_54 : decode cX0_cheapestUnsettled 54 = .ok (.goto (-50), 3) := by decide +kernel
theorem dX0_cheapestUnsettled_57 : decode cX0_cheapestUnsettled 57 = .ok (.iload_n 1, 1) := by decide +kernel
theorem dX0_cheapestUnsettled_58 : decode cX0_cheapestUnsettled 58 = .ok (.ireturn, 1) := by decide +kernel
theorem dX0_reachOnFrom_0 : decode cX0_reachOnFrom 0 = .ok (.iconst 0, 1) := by decide +kernel
theorem dX0_reachOnFrom_1 : decode cX0_reachOnFrom 1 = .ok (.istore_n 2, 1) := by decide +kernel
theorem dX0_reachOnFrom_2 : decode cX0_reachOnFrom 2 = .ok (.iload_n 2, 1) := by decide +kernel
theorem dX0_reachOnFrom_3 : decode cX0_reachOnFrom 3 = .ok (.bipush 120, 2) := by decide +kernel
theorem dX0_reachOnFrom_5 : decode cX0_reachOnFrom 5 = .ok (.if_icmp .ge 68, 3) := by decide +kernel
theorem dX0_reachOnFrom_8 : decode cX0_reachOnFrom 8 = .ok (.aload_n 0, 1) := by decide +kernel
theorem dX0_reachOnFrom_9 : decode cX0_reachOnFrom 9 = .ok (.getfield 9, 3) := by decide +kernel
theorem dX0_reachOnFrom_12 : decode cX0_reachOnFrom 12 = .ok (.iload_n 2, 1) := by decide +kernel
theorem dX0_reachOnFrom_13 : decode cX0_reachOnFrom 13 = .ok (.iaload, 1) := by decide +kernel
theorem dX0_reachOnFrom_14 : decode cX0_reachOnFrom 14 = .ok (.ifCond .le 53, 3) := by decide +kernel
theorem dX0_reachOnFrom_17 : decode cX0_reachOnFrom 17 = .ok (.aload_n 0, 1) := by decide +kernel
theorem dX0_reachOnFrom_18 : decode cX0_reachOnFrom 18 = .ok (.getfield 63, 3) := by decide +kernel
theorem dX0_reachOnFrom_21 : decode cX0_reachOnFrom 21 = .ok (.iload_n 2, 1) := by decide +kernel
theorem dX0_reachOnFrom_22 : decode cX0_reachOnFrom 22 = .ok (.baload, 1) := by decide +kernel
theorem dX0_reachOnFrom_23 : decode cX0_reachOnFrom 23 = .ok (.ifCond .ne 44, 3) := by decide +kernel
theorem dX0_reachOnFrom_26 : decode cX0_reachOnFrom 26 = .ok (.aload_n 0, 1) := by decide +kernel
theorem dX0_reachOnFrom_27 : decode cX0_reachOnFrom 27 = .ok (.getfield 60, 3) := by decide +kernel
theorem dX0_reachOnFrom_30 : decode cX0_reachOnFrom 30 = .ok (.iload_n 1, 1) := by decide +kernel
theorem dX0_reachOnFrom_31 : decode cX0_reachOnFrom 31 = .ok (.laload, 1) := by decide +kernel
theorem dX0_reachOnFrom_32 : decode cX0_reachOnFrom 32 = .ok (.aload_n 0, 1) := by decide +kernel
theorem dX0_reachOnFrom_33 : decode cX0_reachOnFrom 33 = .ok (.getfield 47, 3) := by decide +kernel
theorem dX0_reachOnFrom_36 : decode cX0_reachOnFrom 36 = .ok (.iload_n 2, 1) := by decide +kernel
theorem dX0_reachOnFrom_37 : decode cX0_reachOnFrom 37 = .ok (.laload, 1) := by decide +kernel
theorem dX0_reachOnFrom_38 : decode cX0_reachOnFrom 38 = .ok (.invokestatic 160, 3) := by decide +kernel
theorem dX0_reachOnFrom_41 : decode cX0_reachOnFrom 41 = .ok (.lstore_n 3, 1) := by decide +kernel
theorem dX0_reachOnFrom_42 : decode cX0_reachOnFrom 42 = .ok (.aload_n 0, 1) := by decide +kernel
theorem dX0_reachOnFrom_43 : decode cX0_reachOnFrom 43 = .ok (.getfield 60, 3) := by decide +kernel
theorem dX0_reachOnFrom_46 : decode cX0_reachOnFrom 46 = .ok (.iload_n 2, 1) := by decide +kernel
theorem dX0_reachOnFrom_47 : decode cX0_reachOnFrom 47 = .ok (.aload_n 0, 1) := by decide +kernel
theorem dX0_reachOnFrom_48 : decode cX0_reachOnFrom 48 = .ok (.getfield 60, 3) := by decide +kernel
theorem dX0_reachOnFrom_51 : decode cX0_reachOnFrom 51 = .ok (.iload_n 2, 1) := by decide +kernel
theorem dX0_reachOnFrom_52 : decode cX0_reachOnFrom 52 = .ok (.laload, 1) := by decide +kernel
theorem dX0_reachOnFrom_53 : decode cX0_reachOnFrom 53 = .ok (.lload_n 3, 1) := by decide +kernel
theorem dX0_reachOnFrom_54 : decode cX0_reachOnFrom 54 = .ok (.aload_n 0, 1) := by decide +kernel
theorem dX0_reachOnFrom_55 : decode cX0_reachOnFrom 55 = .ok (.iload_n 1, 1) := by decide +kernel
theorem dX0_reachOnFrom_56 : decode cX0_reachOnFrom 56 = .ok (.iload_n 2, 1) := by decide +kernel
theorem dX0_reachOnFrom_57 : decode cX0_reachOnFrom 57 = .ok (.invokevirtual 90, 3) := by decide +kernel
theorem dX0_reachOnFrom_60 : decode cX0_reachOnFrom 60 = .ok (.invokestatic 160, 3) := by decide +kernel
theorem dX0_reachOnFrom_63 : decode cX0_reachOnFrom 63 = .ok (.invokestatic 207, 3) := by decide +kernel
theorem dX0_reachOnFrom_66 : decode cX0_reachOnFrom 66 = .ok (.lastore, 1) := by decide +kernel
theorem dX0_reachOnFrom_67 : decode cX0_reachOnFrom 67 = .ok (.iinc 2 1, 3) := by decide +kernel
theorem dX0_reachOnFrom_70 : decode cX0_reachOnFrom 70 = .ok (.goto (-68), 3) := by decide +kernel
theorem dX0_reachOnFrom_73 : decode cX0_reachOnFrom 73 = .ok (.return_, 1) := by decide +kernel
