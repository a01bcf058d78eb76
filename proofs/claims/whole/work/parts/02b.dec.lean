theorem dX6_init_0 : decode cX6_init 0 = .ok (.aload_n 0, 1) := by decide +kernel
theorem dX6_init_1 : decode cX6_init 1 = .ok (.invokespecial 3, 3) := by decide +kernel
theorem dX6_init_4 : decode cX6_init 4 = .ok (.aload_n 0, 1) := by decide +kernel
theorem dX6_init_5 : decode cX6_init 5 = .ok (.new 9, 3) := by decide +kernel
theorem dX6_init_8 : decode cX6_init 8 = .ok (.dup, 1) := by decide +kernel
theorem dX6_init_9 : decode cX6_init 9 = .ok (.invokespecial 11, 3) := by decide +kernel
theorem dX6_init_12 : decode cX6_init 12 = .ok (.putfield 12, 3) := by decide +kernel
theorem dX6_init_15 : decode cX6_init 15 = .ok (.aload_n 0, 1) := by decide +kernel
theorem dX6_init_16 : decode cX6_init 16 = .ok (.new 18, 3) := by decide +kernel
theorem dX6_init_19 : decode cX6_init 19 = .ok (.dup, 1) := by decide +kernel
theorem dX6_init_20 : decode cX6_init 20 = .ok (.invokespecial 20, 3) := by decide +kernel
theorem dX6_init_23 : decode cX6_init 23 = .ok (.putfield 21, 3) := by decide +kernel
theorem dX6_init_26 : decode cX6_init 26 = .ok (.aload_n 0, 1) := by decide +kernel
theorem dX6_init_27 : decode cX6_init 27 = .ok (.new 25, 3) := by decide +kernel
theorem dX6_init_30 : decode cX6_init 30 = .ok (.dup, 1) := by decide +kernel
theorem dX6_init_31 : decode cX6_init 31 = .ok (.invokespecial 27, 3) := by decide +kernel
theorem dX6_init_34 : decode cX6_init 34 = .ok (.putfield 28, 3) := by decide +kernel
theorem dX6_init_37 : decode cX6_init 37 = .ok (.aload_n 0, 1) := by decide +kernel
theorem dX6_init_38 : decode cX6_init 38 = .ok (.new 32, 3) := by decide +kernel
theorem dX6_init_41 : decode cX6_init 41 = .ok (.dup, 1) := by decide +kernel
theorem dX6_init_42 : decode cX6_init 42 = .ok (.invokespecial 34, 3) := by decide +kernel
theorem dX6_init_45 : decode cX6_init 45 = .ok (.putfield 35, 3) := by decide +kernel
theorem dX6_init_48 : decode cX6_init 48 = .ok (.aload_n 0, 1) := by decide +kernel
theorem dX6_init_49 : decode cX6_init 49 = .ok (.aconst_null, 1) := by decide +kernel
theorem dX6_init_50 : decode cX6_init 50 = .ok (.putfield 39, 3) := by decide +kernel
theorem dX6_init_53 : decode cX6_init 53 = .ok (.return_, 1) := by decide +kernel
theorem dX6_setting_0 : decode cX6_setting 0 = .ok (.aload_n 0, 1) := by decide +kernel
theorem dX6_setting_1 : decode cX6_setting 1 = .ok (.getfield 12, 3) := by decide +kernel
theorem dX6_setting_4 : decode cX6_setting 4 = .ok (.invokevirtual 43, 3) := by decide +kernel
theorem dX6_setting_7 : decode cX6_setting 7 = .ok (.ireturn, 1) := by decide +kernel
theorem dX6_instance_0 : decode cX6_instance 0 = .ok (.iload_n 1, 1) := by decide +kernel
theorem dX6_instance_1 : decode cX6_instance 1 = .ok (.iconst 0, 1) := by decide +kernel
theorem dX6_instance_2 : decode cX6_instance 2 = .ok (.bipush 100, 2) := by decide +kernel
theorem dX6_instance_4 : decode cX6_instance 4 = .ok (.invokestatic 47, 3) := by decide +kernel
theorem dX6_instance_7 : decode cX6_instance 7 = .ok (.ifCond .eq 13, 3) := by decide +kernel
theorem dX6_instance_10 : decode cX6_instance 10 = .ok (.iload_n 2, 1) := by decide +kernel
theorem dX6_instance_11 : decode cX6_instance 11 = .ok (.iconst 0, 1) := by decide +kernel
theorem dX6_instance_12 : decode cX6_instance 12 = .ok (.bipush 100, 2) := by decide +kernel
theorem dX6_instance_14 : decode cX6_instance 14 = .ok (.invokestatic 47, 3) := by decide +kernel
theorem dX6_instance_17 : decode cX6_instance 17 = .ok (.ifCond .ne 6, 3) := by decide +kernel
theorem dX6_instance_20 : decode cX6_instance 20 = .ok (.bipush (-2), 2) := by decide +kernel
theorem dX6_instance_22 : decode cX6_instance 22 = .ok (.ireturn, 1) := by decide +kernel
theorem dX6_instance_23 : decode cX6_instance 23 = .ok (.aload_n 0, 1) := by decide +kernel
theorem dX6_instance_24 : decode cX6_instance 24 = .ok (.getfield 12, 3) := by decide +kernel
theorem dX6_instance_27 : decode cX6_instance 27 = .ok (.iload_n 1, 1) := by decide +kernel
theorem dX6_instance_28 : decode cX6_instance 28 = .ok (.iload_n 2, 1) := by decide +kernel
theorem dX6_instance_29 : decode cX6_instance 29 = .ok (.iload_n 3, 1) := by decide +kernel
theorem dX6_instance_30 : decode cX6_instance 30 = .ok (.ifCond .ne 7, 3) := by decide +kernel
theorem dX6_instance_33 : decode cX6_instance 33 = .ok (.iconst 1, 1) := by decide +kernel
theorem dX6_instance_34 : decode cX6_instance 34 = .ok (.goto 4, 3) := by decide +kernel
theorem dX6_instance_37 : decode cX6_instance 37 = .ok (.iconst 0, 1) := by decide +kernel
theorem dX6_instance_38 : decode cX6_instance 38 = .ok (.invokevirtual 51, 3) := by decide +kernel
theorem dX6_instance_41 : decode cX6_instance 41 = .ok (.ireturn, 1) := by decide +kernel
theorem dX6_cost_0 : decode cX6_cost 0 = .ok (.aload_n 0, 1) := by decide +kernel
theorem dX6_cost_1 : decode cX6_cost 1 = .ok (.getfield 12, 3) := by decide +kernel
theorem dX6_cost_4 : decode cX6_cost 4 = .ok (.iload_n 1, 1) := by decide +kernel
theorem dX6_cost_5 : decode cX6_cost 5 = .ok (.invokevirtual 55, 3) := by decide +kernel
theorem dX6_cost_8 : decode cX6_cost 8 = .ok (.ifCond .eq 14, 3) := by decide +kernel
theorem dX6_cost_11 : decode cX6_cost 11 = .ok (.aload_n 0, 1) := by decide +kernel
theorem dX6_cost_12 : decode cX6_cost 12 = .ok (.getfield 12, 3) := by decide +kernel
theorem dX6_cost_15 : decode cX6_cost 15 = .ok (.iload_n 2, 1) := by decide +kernel
theorem dX6_cost_16 : decode cX6_cost 16 = .ok (.invokevirtual 59, 3) := by decide +kernel
theorem dX6_cost_19 : decode cX6_cost 19 = .ok (.ifCond .ne 5, 3) := by decide +kernel
theorem dX6_cost_22 : decode cX6_cost 22 = .ok (.iconst (-1), 1) := by decide +kernel
theorem dX6_cost_23 : decode cX6_cost 23 = .ok (.ireturn, 1) := by decide +kernel
theorem dX6_cost_24 : decode cX6_cost 24 = .ok (.iload_n 3, 1) := by decide +kernel
theorem dX6_cost_25 : decode cX6_cost 25 = .ok (.iconst (-1), 1) := by decide +kernel
theorem dX6_cost_26 : decode cX6_cost 26 = .ok (.if_icmp .eq 16, 3) := by decide +kernel
theorem dX6_cost_29 : decode cX6_cost 29 = .ok (.iload_n 3, 1) := by decide +kernel
theorem dX6_cost_30 : decode cX6_cost 30 = .ok (.iconst 0, 1) := by decide +kernel
theorem dX6_cost_31 : decode cX6_cost 31 = .ok (.ldc 62, 2) := by decide +kernel
theorem dX6_cost_33 : decode cX6_cost 33 = .ok (.invokestatic 47, 3) := by decide +kernel
theorem dX6_cost_36 : decode cX6_cost 36 = .ok (.ifCond .ne 6, 3) := by decide +kernel
theorem dX6_cost_39 : decode cX6_cost 39 = .ok (.bipush (-2), 2) := by decide +kernel
theorem dX6_cost_41 : decode cX6_cost 41 = .ok (.ireturn, 1) := by decide +kernel
theorem dX6_cost_42 : decode cX6_cost 42 = .ok (.aload_n 0, 1) := by decide +kernel
theorem dX6_cost_43 : decode cX6_cost 43 = .ok (.getfield 12, 3) := by decide +kernel
theorem dX6_cost_46 : decode cX6_cost 46 = .ok (.iload_n 1, 1) := by decide +kernel
theorem dX6_cost_47 : decode cX6_cost 47 = .ok (.iload_n 2, 1) := by decide +kernel
theorem dX6_cost_48 : decode cX6_cost 48 = .ok (.invokevirtual 63, 3) := by decide +kernel
theorem dX6_cost_51 : decode cX6_cost 51 = .ok (.iconst (-1), 1) := by decide +kernel
theorem dX6_cost_52 : decode cX6_cost 52 = .ok (.if_icmp .eq 6, 3) := by decide +kernel
theorem dX6_cost_55 : decode cX6_cost 55 = .ok (.bipush (-3), 2) := by decide +kernel
theorem dX6_cost_57 : decode cX6_cost 57 = .ok (.ireturn, 1) := by decide +kernel
theorem dX6_cost_58 : decode cX6_cost 58 = .ok (.aload_n 0, 1) := by decide +kernel
theorem dX6_cost_59 : decode cX6_cost 59 = .ok (.getfield 12, 3) := by decide +kernel
theorem dX6_cost_62 : decode cX6_cost 62 = .ok (.iload_n 1, 1) := by decide +kernel
theorem dX6_cost_63 : decode cX6_cost 63 = .ok (.iload_n 2, 1) := by decide +kernel
theorem dX6_cost_64 : decode cX6_cost 64 = .ok (.iload_n 3, 1) := by decide +kernel
theorem dX6_cost_65 : decode cX6_cost 65 = .ok (.iconst (-1), 1) := by decide +kernel
theorem dX6_cost_66 : decode cX6_cost 66 = .ok (.if_icmp .ne 8, 3) := by decide +kernel
theorem dX6_cost_69 : decode cX6_cost 69 = .ok (.ldc 67, 2) := by decide +kernel
theorem dX6_cost_71 : decode cX6_cost 71 = .ok (.goto 4, 3) := by decide +kernel
theorem dX6_cost_74 : decode cX6_cost 74 = .ok (.iload_n 3, 1) := by decide +kernel
theorem dX6_cost_75 : decode cX6_cost 75 = .ok (.invokevirtual 68, 3) := by decide +kernel
theorem dX6_cost_78 : decode cX6_cost 78 = .ok (.ireturn, 1) := by decide +kernel
theorem dX6_costOf_0 : decode cX6_costOf 0 = .ok (.aload_n 0, 1) := by decide +kernel
theorem dX6_costOf_1 : decode cX6_costOf 1 = .ok (.getfield 12, 3) := by decide +kernel
theorem dX6_costOf_4 : decode cX6_costOf 4 = .ok (.iload_n 1, 1) := by decide +kernel
theorem dX6_costOf_5 : decode cX6_costOf 5 = .ok (.invokevirtual 55, 3) := by decide +kernel
theorem dX6_costOf_8 : decode cX6_costOf 8 = .ok (.ifCond .eq 14, 3) := by decide +kernel
theorem dX6_costOf_11 : decode cX6_costOf 11 = .ok (.aload_n 0, 1) := by decide +kernel
theorem dX6_costOf_12 : decode cX6_costOf 12 = .ok (.getfield 12, 3) := by decide +kernel
theorem dX6_costOf_15 : decode cX6_costOf 15 = .ok (.iload_n 2, 1) := by decide +kernel
theorem dX6_costOf_16 : decode cX6_costOf 16 = .ok (.invokevirtual 59, 3) := by decide +kernel
theorem dX6_costOf_19 : decode cX6_costOf 19 = .ok (.ifCond .ne 5, 3) := by decide +kernel
theorem dX6_costOf_22 : decode cX6_costOf 22 = .ok (.iconst (-1), 1) := by decide +kernel
theorem dX6_costOf_23 : decode cX6_costOf 23 = .ok (.ireturn, 1) := by decide +kernel
theorem dX6_costOf_24 : decode cX6_costOf 24 = .ok (.aload_n 0, 1) := by decide +kernel
theorem dX6_costOf_25 : decode cX6_costOf 25 = .ok (.getfield 12, 3) := by decide +kernel
theorem dX6_costOf_28 : decode cX6_costOf 28 = .ok (.iload_n 1, 1) := by decide +kernel
theorem dX6_costOf_29 : decode cX6_costOf 29 = .ok (.iload_n 2, 1) := by decide +kernel
theorem dX6_costOf_30 : decode cX6_costOf 30 = .ok (.invokevirtual 63, 3) := by decide +kernel
theorem dX6_costOf_33 : decode cX6_costOf 33 = .ok (.istore_n 3, 1) := by decide +kernel
theorem dX6_costOf_34 : decode cX6_costOf 34 = .ok (.iload_n 3, 1) := by decide +kernel
theorem dX6_costOf_35 : decode cX6_costOf 35 = .ok (.iconst (-1), 1) := by decide +kernel
theorem dX6_costOf_36 : decode cX6_costOf 36 = .ok (.if_icmp .ne 8, 3) := by decide +kernel
theorem dX6_costOf_39 : decode cX6_costOf 39 = .ok (.bipush (-3), 2) := by decide +kernel
theorem dX6_costOf_41 : decode cX6_costOf 41 = .ok (.goto 4, 3) := by decide +kernel
theorem dX6_costOf_44 : decode cX6_costOf 44 = .ok (.iload_n 3, 1) := by decide +kernel
theorem dX6_costOf_45 : decode cX6_costOf 45 = .ok (.ireturn, 1) := by decide +kernel
theorem dX6_race_0 : decode cX6_race 0 = .ok (.new 72, 3) := by decide +kernel
theorem dX6_race_3 : decode cX6_race 3 = .ok (.dup, 1) := by decide +kernel
theorem dX6_race_4 : decode cX6_race 4 = .ok (.iload_n 1, 1) := by decide +kernel
theorem dX6_race_5 : decode cX6_race 5 = .ok (.iload_n 2, 1) := by decide +kernel
theorem dX6_race_6 : decode cX6_race 6 = .ok (.iload_n 3, 1) := by decide +kernel
theorem dX6_race_7 : decode cX6_race 7 = .ok (.iload 4, 2) := by decide +kernel
theorem dX6_race_9 : decode cX6_race 9 = .ok (.iload 5, 2) := by decide +kernel
theorem dX6_race_11 : decode cX6_race 11 = .ok (.iload 6, 2) := by decide +kernel
theorem dX6_race_13 : decode cX6_race 13 = .ok (.invokespecial 74, 3) := by decide +kernel
theorem dX6_race_16 : decode cX6_race 16 = .ok (.astore 8, 2) := by decide +kernel
theorem dX6_race_18 : decode cX6_race 18 = .ok (.aload 8, 2) := by decide +kernel
theorem dX6_race_20 : decode cX6_race 20 = .ok (.invokevirtual 77, 3) := by decide +kernel
theorem dX6_race_23 : decode cX6_race 23 = .ok (.ifCond .ne 6, 3) := by decide +kernel
theorem dX6_race_26 : decode cX6_race 26 = .ok (.bipush (-2), 2) := by decide +kernel
theorem dX6_race_28 : decode cX6_race 28 = .ok (.ireturn, 1) := by decide +kernel
theorem dX6_race_29 : decode cX6_race 29 = .ok (.aload_n 0, 1) := by decide +kernel
theorem dX6_race_30 : decode cX6_race 30 = .ok (.getfield 12, 3) := by decide +kernel
theorem dX6_race_33 : decode cX6_race 33 = .ok (.getfield 81, 3) := by decide +kernel
theorem dX6_race_36 : decode cX6_race 36 = .ok (.ifCond .ne 6, 3) := by decide +kernel
theorem dX6_race_39 : decode cX6_race 39 = .ok (.bipush (-3), 2) := by decide +kernel
theorem dX6_race_41 : decode cX6_race 41 = .ok (.ireturn, 1) := by decide +kernel
theorem dX6_race_42 : decode cX6_race 42 = .ok (.new 85, 3) := by decide +kernel
theorem dX6_race_45 : decode cX6_race 45 = .ok (.dup, 1) := by decide +kernel
theorem dX6_race_46 : decode cX6_race 46 = .ok (.aload_n 0, 1) := by decide +kernel
theorem dX6_race_47 : decode cX6_race 47 = .ok (.getfield 12, 3) := by decide +kernel
theorem dX6_race_50 : decode cX6_race 50 = .ok (.aload_n 0, 1) := by decide +kernel
theorem dX6_race_51 : decode cX6_race 51 = .ok (.getfield 21, 3) := by decide +kernel
theorem dX6_race_54 : decode cX6_race 54 = .ok (.aload 8, 2) := by decide +kernel
theorem dX6_race_56 : decode cX6_race 56 = .ok (.invokespecial 87, 3) := by decide +kernel
theorem dX6_race_59 : decode cX6_race 59 = .ok (.astore 9, 2) := by decide +kernel
theorem dX6_race_61 : decode cX6_race 61 = .ok (.aload 9, 2) := by decide +kernel
theorem dX6_race_63 : decode cX6_race 63 = .ok (.iload 7, 2) := by decide +kernel
theorem dX6_race_65 : decode cX6_race 65 = .ok (.invokevirtual 90, 3) := by decide +kernel
theorem dX6_race_68 : decode cX6_race 68 = .ok (.aload_n 0, 1) := by decide +kernel
theorem dX6_race_69 : decode cX6_race 69 = .ok (.aload 9, 2) := by decide +kernel
theorem dX6_race_71 : decode cX6_race 71 = .ok (.putfield 39, 3) := by decide +kernel
theorem dX6_race_74 : decode cX6_race 74 = .ok (.aload 9, 2) := by decide +kernel
theorem dX6_race_76 : decode cX6_race 76 = .ok (.getfield 94, 3) := by decide +kernel
theorem dX6_race_79 : decode cX6_race 79 = .ok (.ireturn, 1) := by decide +kernel
theorem dX6_wants_0 : decode cX6_wants 0 = .ok (.iload_n 1, 1) := by decide +kernel
theorem dX6_wants_1 : decode cX6_wants 1 = .ok (.iconst 0, 1) := by decide +kernel
theorem dX6_wants_2 : decode cX6_wants 2 = .ok (.iconst 1, 1) := by decide +kernel
theorem dX6_wants_3 : decode cX6_wants 3 = .ok (.invokestatic 47, 3) := by decide +kernel
theorem dX6_wants_6 : decode cX6_wants 6 = .ok (.ifCond .ne 6, 3) := by decide +kernel
theorem dX6_wants_9 : decode cX6_wants 9 = .ok (.bipush (-2), 2) := by decide +kernel
theorem dX6_wants_11 : decode cX6_wants 11 = .ok (.ireturn, 1) := by decide +kernel
theorem dX6_wants_12 : decode cX6_wants 12 = .ok (.aload_n 0, 1) := by decide +kernel
theorem dX6_wants_13 : decode cX6_wants 13 = .ok (.getfield 39, 3) := by decide +kernel
theorem dX6_wants_16 : decode cX6_wants 16 = .ok (.ifnull 13, 3) := by decide +kernel
theorem dX6_wants_19 : decode cX6_wants 19 = .ok (.aload_n 0, 1) := by decide +kernel
theorem dX6_wants_20 : decode cX6_wants 20 = .ok (.getfield 39, 3) := by decide +kernel
theorem dX6_wants_23 : decode cX6_wants 23 = .ok (.getfield 97, 3) := by decide +kernel
theorem dX6_wants_26 : decode cX6_wants 26 = .ok (.ifCond .eq 6, 3) := by decide +kernel
theorem dX6_wants_29 : decode cX6_wants 29 = .ok (.bipush (-3), 2) := by decide +kernel
theorem dX6_wants_31 : decode cX6_wants 31 = .ok (.ireturn, 1) := by decide +kernel
theorem dX6_wants_32 : decode cX6_wants 32 = .ok (.iload_n 1, 1) := by decide +kernel
theorem dX6_wants_33 : decode cX6_wants 33 = .ok (.ifCond .ne 13, 3) := by decide +kernel
theorem dX6_wants_36 : decode cX6_wants 36 = .ok (.aload_n 0, 1) := by decide +kernel
theorem dX6_wants_37 : decode cX6_wants 37 = .ok (.getfield 39, 3) := by decide +kernel
theorem dX6_wants_40 : decode cX6_wants 40 = .ok (.getfield 100, 3) := by decide +kernel
theorem dX6_wants_43 : decode cX6_wants 43 = .ok (.goto 17, 3) := by decide +kernel
theorem dX6_wants_46 : decode cX6_wants 46 = .ok (.aload_n 0, 1) := by decide +kernel
theorem dX6_wants_47 : decode cX6_wants 47 = .ok (.getfield 39, 3) := by decide +kernel
theorem dX6_wants_50 : decode cX6_wants 50 = .ok (.aload_n 0, 1) := by decide +kernel
theorem dX6_wants_51 : decode cX6_wants 51 = .ok (.getfield 39, 3) := by decide +kernel
theorem dX6_wants_54 : decode cX6_wants 54 = .ok (.getfield 103, 3) := by decide +kernel
theorem dX6_wants_57 : decode cX6_wants 57 = .ok (.invokevirtual 106, 3) := by decide +kernel
theorem dX6_wants_60 : decode cX6_wants 60 = .ok (.ireturn, 1) := by decide +kernel
theorem dX6_run_0 : decode cX6_run 0 = .ok (.aload_n 0, 1) := by decide +kernel
theorem dX6_run_1 : decode cX6_run 1 = .ok (.getfield 39, 3) := by decide +kernel
theorem dX6_run_4 : decode cX6_run 4 = .ok (.ifnonnull 8, 3) := by decide +kernel
theorem dX6_run_7 : decode cX6_run 7 = .ok (.bipush (-3), 2) := by decide +kernel
theorem dX6_run_9 : decode cX6_run 9 = .ok (.goto 10, 3) := by decide +kernel
theorem dX6_run_12 : decode cX6_run 12 = .ok (.aload_n 0, 1) := by decide +kernel
theorem dX6_run_13 : decode cX6_run 13 = .ok (.getfield 39, 3) := by decide +kernel
theorem dX6_run_16 : decode cX6_run 16 = .ok (.invokevirtual 110, 3) := by decide +kernel
theorem dX6_run_19 : decode cX6_run 19 = .ok (.ireturn, 1) := by decide +kernel
theorem dX6_left_0 : decode cX6_left 0 = .ok (.aload_n 0, 1) := by decide +kernel
theorem dX6_left_1 : decode cX6_left 1 = .ok (.getfield 39, 3) := by decide +kernel
theorem dX6_left_4 : decode cX6_left 4 = .ok (.ifnonnull 5, 3) := by decide +kernel
theorem dX6_left_7 : decode cX6_left 7 = .ok (.iconst (-1), 1) := by decide +kernel
theorem dX6_left_8 : decode cX6_left 8 = .ok (.ireturn, 1) := by decide +kernel
theorem dX6_left_9 : decode cX6_left 9 = .ok (.iload_n 1, 1) := by decide +kernel
theorem dX6_left_10 : decode cX6_left 10 = .ok (.iconst (-1), 1) := by decide +kernel
theorem dX6_left_11 : decode cX6_left 11 = .ok (.if_icmp .ne 13, 3) := by decide +kernel
theorem dX6_left_14 : decode cX6_left 14 = .ok (.aload_n 0, 1) := by decide +kernel
theorem dX6_left_15 : decode cX6_left 15 = .ok (.getfield 39, 3) := by decide +kernel
theorem dX6_left_18 : decode cX6_left 18 = .ok (.getfield 113, 3) := by decide +kernel
theorem dX6_left_21 : decode cX6_left 21 = .ok (.goto 11, 3) := by decide +kernel
theorem dX6_left_24 : decode cX6_left 24 = .ok (.aload_n 0, 1) := by decide +kernel
theorem dX6_left_25 : decode cX6_left 25 = .ok (.getfield 39, 3) := by decide +kernel
theorem dX6_left_28 : decode cX6_left 28 = .ok (.iload_n 1, 1) := by decide +kernel
theorem dX6_left_29 : decode cX6_left 29 = .ok (.invokevirtual 116, 3) := by decide +kernel
theorem dX6_left_32 : decode cX6_left 32 = .ok (.ireturn, 1) := by decide +kernel
theorem dX6_raceOf_0 : decode cX6_raceOf 0 = .ok (.iload_n 1, 1) := by decide +kernel
theorem dX6_raceOf_1 : decode cX6_raceOf 1 = .ok (.iconst 0, 1) := by decide +kernel
theorem dX6_raceOf_2 : decode cX6_raceOf 2 = .ok (.iconst 4, 1) := by decide +kernel
theorem dX6_raceOf_3 : decode cX6_raceOf 3 = .ok (.invokestatic 47, 3) := by decide +kernel
theorem dX6_raceOf_6 : decode cX6_raceOf 6 = .ok (.ifCond .ne 6, 3) := by decide +kernel
theorem dX6_raceOf_9 : decode cX6_raceOf 9 = .ok (.bipush (-2), 2) := by decide +kernel
theorem dX6_raceOf_11 : decode cX6_raceOf 11 = .ok (.ireturn, 1) := by decide +kernel
theorem dX6_raceOf_12 : decode cX6_raceOf 12 = .ok (.aload_n 0, 1) := by decide +kernel
theorem dX6_raceOf_13 : decode cX6_raceOf 13 = .ok (.getfield 39, 3) := by decide +kernel
theorem dX6_raceOf_16 : decode cX6_raceOf 16 = .ok (.ifnonnull 6, 3) := by decide +kernel
theorem dX6_raceOf_19 : decode cX6_raceOf 19 = .ok (.bipush (-3), 2) := by decide +kernel
theorem dX6_raceOf_21 : decode cX6_raceOf 21 = .ok (.ireturn, 1) := by decide +kernel
theorem dX6_raceOf_22 : decode cX6_raceOf 22 = .ok (.iload_n 1, 1) := by decide +kernel
theorem dX6_raceOf_23 : decode cX6_raceOf 23 = .ok (.tableswitch 61 0 3 #[29, 37, 45, 53], 29) := by decide +kernel
theorem dX6_raceOf_52 : decode cX6_raceOf 52 = .ok (.aload_n 0, 1) := by decide +kernel
theorem dX6_raceOf_53 : decode cX6_raceOf 53 = .ok (.getfield 39, 3) := by decide +kernel
theorem dX6_raceOf_56 : decode cX6_raceOf 56 = .ok (.getfield 97, 3) := by decide +kernel
theorem dX6_raceOf_59 : decode cX6_raceOf 59 = .ok (.ireturn, 1) := by decide +kernel
theorem dX6_raceOf_60 : decode cX6_raceOf 60 = .ok (.aload_n 0, 1) := by decide +kernel
theorem dX6_raceOf_61 : decode cX6_raceOf 61 = .ok (.getfield 39, 3) := by decide +kernel
theorem dX6_raceOf_64 : decode cX6_raceOf 64 = .ok (.getfield 103, 3) := by decide +kernel
theorem dX6_raceOf_67 : decode cX6_raceOf 67 = .ok (.ireturn, 1) := by decide +kernel
theorem dX6_raceOf_68 : decode cX6_raceOf 68 = .ok (.aload_n 0, 1) := by decide +kernel
theorem dX6_raceOf_69 : decode cX6_raceOf 69 = .ok (.getfield 39, 3) := by decide +kernel
theorem dX6_raceOf_72 : decode cX6_raceOf 72 = .ok (.getfield 119, 3) := by decide +kernel
theorem dX6_raceOf_75 : decode cX6_raceOf 75 = .ok (.ireturn, 1) := by decide +kernel
theorem dX6_raceOf_76 : decode cX6_raceOf 76 = .ok (.aload_n 0, 1) := by decide +kernel
theorem dX6_raceOf_77 : decode cX6_raceOf 77 = .ok (.getfield 39, 3) := by decide +kernel
theorem dX6_raceOf_80 : decode cX6_raceOf 80 = .ok (.invokevirtual 122, 3) := by decide +kernel
theorem dX6_raceOf_83 : decode cX6_raceOf 83 = .ok (.ireturn, 1) := by decide +kernel
theorem dX6_raceOf_84 : decode cX6_raceOf 84 = .ok (.aload_n 0, 1) := by decide +kernel
theorem dX6_raceOf_85 : decode cX6_raceOf 85 = .ok (.getfield 39, 3) := by decide +kernel
theorem dX6_raceOf_88 : decode cX6_raceOf 88 = .ok (.getfield 94, 3) := by decide +kernel
theorem dX6_raceOf_91 : decode cX6_raceOf 91 = .ok (.aload_n 0, 1) := by decide +kernel
theorem dX6_raceOf_92 : decode cX6_raceOf 92 = .ok (.getfield 39, 3) := by decide +kernel
theorem dX6_raceOf_95 : decode cX6_raceOf 95 = .ok (.getfield 113, 3) := by decide +kernel
theorem dX6_raceOf_98 : decode cX6_raceOf 98 = .ok (.isub, 1) := by decide +kernel
theorem dX6_raceOf_99 : decode cX6_raceOf 99 = .ok (.ireturn, 1) := by decide +kernel
theorem dX6_rank_0 : decode cX6_rank 0 = .ok (.aload_n 0, 1) := by decide +kernel
theorem dX6_rank_1 : decode cX6_rank 1 = .ok (.getfield 39, 3) := by decide +kernel
theorem dX6_rank_4 : decode cX6_rank 4 = .ok (.ifnull 14, 3) := by decide +kernel
theorem dX6_rank_7 : decode cX6_rank 7 = .ok (.aload_n 0, 1) := by decide +kernel
theorem dX6_rank_8 : decode cX6_rank 8 = .ok (.getfield 39, 3) := by decide +kernel
theorem dX6_rank_11 : decode cX6_rank 11 = .ok (.iload_n 1, 1) := by decide +kernel
theorem dX6_rank_12 : decode cX6_rank 12 = .ok (.invokevirtual 125, 3) := by decide +kernel
theorem dX6_rank_15 : decode cX6_rank 15 = .ok (.ifCond .ne 5, 3) := by decide +kernel
theorem dX6_rank_18 : decode cX6_rank 18 = .ok (.iconst (-1), 1) := by decide +kernel
theorem dX6_rank_19 : decode cX6_rank 19 = .ok (.ireturn, 1) := by decide +kernel
theorem dX6_rank_20 : decode cX6_rank 20 = .ok (.aload_n 0, 1) := by decide +kernel
theorem dX6_rank_21 : decode cX6_rank 21 = .ok (.getfield 39, 3) := by decide +kernel
theorem dX6_rank_24 : decode cX6_rank 24 = .ok (.iload_n 1, 1) := by decide +kernel
theorem dX6_rank_25 : decode cX6_rank 25 = .ok (.invokevirtual 128, 3) := by decide +kernel
theorem dX6_rank_28 : decode cX6_rank 28 = .ok (.ireturn, 1) := by decide +kernel
theorem dX6_dropped_0 : decode cX6_dropped 0 = .ok (.aload_n 0, 1) := by decide +kernel
theorem dX6_dropped_1 : decode cX6_dropped 1 = .ok (.getfield 39, 3) := by decide +kernel
theorem dX6_dropped_4 : decode cX6_dropped 4 = .ok (.ifnull 14, 3) := by decide +kernel
theorem dX6_dropped_7 : decode cX6_dropped 7 = .ok (.aload_n 0, 1) := by decide +kernel
theorem dX6_dropped_8 : decode cX6_dropped 8 = .ok (.getfield 39, 3) := by decide +kernel
theorem dX6_dropped_11 : decode cX6_dropped 11 = .ok (.iload_n 1, 1) := by decide +kernel
theorem dX6_dropped_12 : decode cX6_dropped 12 = .ok (.invokevirtual 131, 3) := by decide +kernel
theorem dX6_dropped_15 : decode cX6_dropped 15 = .ok (.ifCond .ne 5, 3) := by decide +kernel
theorem dX6_dropped_18 : decode cX6_dropped 18 = .ok (.iconst (-1), 1) := by decide +kernel
theorem dX6_dropped_19 : decode cX6_dropped 19 = .ok (.ireturn, 1) := by decide +kernel
theorem dX6_dropped_20 : decode cX6_dropped 20 = .ok (.aload_n 0, 1) := by decide +kernel
theorem dX6_dropped_21 : decode cX6_dropped 21 = .ok (.getfield 39, 3) := by decide +kernel
theorem dX6_dropped_24 : decode cX6_dropped 24 = .ok (.iload_n 1, 1) := by decide +kernel
theorem dX6_dropped_25 : decode cX6_dropped 25 = .ok (.invokevirtual 125, 3) := by decide +kernel
theorem dX6_dropped_28 : decode cX6_dropped 28 = .ok (.ifCond .eq 8, 3) := by decide +kernel
theorem dX6_dropped_31 : decode cX6_dropped 31 = .ok (.bipush (-3), 2) := by decide +kernel
theorem dX6_dropped_33 : decode cX6_dropped 33 = .ok (.goto 12, 3) := by decide +kernel
theorem dX6_dropped_36 : decode cX6_dropped 36 = .ok (.aload_n 0, 1) := by decide +kernel
theorem dX6_dropped_37 : decode cX6_dropped 37 = .ok (.getfield 39, 3) := by decide +kernel
theorem dX6_dropped_40 : decode cX6_dropped 40 = .ok (.getfield 134, 3) := by decide +kernel
theorem dX6_dropped_43 : decode cX6_dropped 43 = .ok (.iload_n 1, 1) := by decide +kernel
theorem dX6_dropped_44 : decode cX6_dropped 44 = .ok (.iaload, 1) := by decide +kernel
theorem dX6_dropped_45 : decode cX6_dropped 45 = .ok (.ireturn, 1) := by decide +kernel
theorem dX6_odds_0 : decode cX6_odds 0 = .ok (.aload_n 0, 1) := by decide +kernel
theorem dX6_odds_1 : decode cX6_odds 1 = .ok (.getfield 39, 3) := by decide +kernel
theorem dX6_odds_4 : decode cX6_odds 4 = .ok (.ifnull 34, 3) := by decide +kernel
theorem dX6_odds_7 : decode cX6_odds 7 = .ok (.aload_n 0, 1) := by decide +kernel
theorem dX6_odds_8 : decode cX6_odds 8 = .ok (.getfield 39, 3) := by decide +kernel
theorem dX6_odds_11 : decode cX6_odds 11 = .ok (.iload_n 1, 1) := by decide +kernel
theorem dX6_odds_12 : decode cX6_odds 12 = .ok (.invokevirtual 131, 3) := by decide +kernel
theorem dX6_odds_15 : decode cX6_odds 15 = .ok (.ifCond .eq 23, 3) := by decide +kernel
theorem dX6_odds_18 : decode cX6_odds 18 = .ok (.aload_n 0, 1) := by decide +kernel
theorem dX6_odds_19 : decode cX6_odds 19 = .ok (.getfield 39, 3) := by decide +kernel
theorem dX6_odds_22 : decode cX6_odds 22 = .ok (.iload_n 2, 1) := by decide +kernel
theorem dX6_odds_23 : decode cX6_odds 23 = .ok (.invokevirtual 131, 3) := by decide +kernel
theorem dX6_odds_26 : decode cX6_odds 26 = .ok (.ifCond .eq 12, 3) := by decide +kernel
theorem dX6_odds_29 : decode cX6_odds 29 = .ok (.iload_n 3, 1) := by decide +kernel
theorem dX6_odds_30 : decode cX6_odds 30 = .ok (.iconst 0, 1) := by decide +kernel
theorem dX6_odds_31 : decode cX6_odds 31 = .ok (.iconst 1, 1) := by decide +kernel
theorem dX6_odds_32 : decode cX6_odds 32 = .ok (.invokestatic 47, 3) := by decide +kernel
theorem dX6_odds_35 : decode cX6_odds 35 = .ok (.ifCond .ne 7, 3) := by decide +kernel
theorem dX6_odds_38 : decode cX6_odds 38 = .ok (.ldc2_w 138, 3) := by decide +kernel
theorem dX6_odds_41 : decode cX6_odds 41 = .ok (.lreturn, 1) := by decide +kernel
theorem dX6_odds_42 : decode cX6_odds 42 = .ok (.aload_n 0, 1) := by decide +kernel
theorem dX6_odds_43 : decode cX6_odds 43 = .ok (.getfield 39, 3) := by decide +kernel
theorem dX6_odds_46 : decode cX6_odds 46 = .ok (.iload_n 1, 1) := by decide +kernel
theorem dX6_odds_47 : decode cX6_odds 47 = .ok (.iload_n 2, 1) := by decide +kernel
theorem dX6_odds_48 : decode cX6_odds 48 = .ok (.invokevirtual 140, 3) := by decide +kernel
theorem dX6_odds_51 : decode cX6_odds 51 = .ok (.aload_n 0, 1) := by decide +kernel
theorem dX6_odds_52 : decode cX6_odds 52 = .ok (.getfield 21, 3) := by decide +kernel
theorem dX6_odds_55 : decode cX6_odds 55 = .ok (.getfield 144, 3) := by decide +kernel
theorem dX6_odds_58 : decode cX6_odds 58 = .ok (.aload_n 0, 1) := by decide +kernel
theorem dX6_odds_59 : decode cX6_odds 59 = .ok (.getfield 21, 3) := by decide +kernel
theorem dX6_odds_62 : decode cX6_odds 62 = .ok (.getfield 148, 3) := by decide +kernel
theorem dX6_odds_65 : decode cX6_odds 65 = .ok (.iload_n 3, 1) := by decide +kernel
theorem dX6_odds_66 : decode cX6_odds 66 = .ok (.invokestatic 151, 3) := by decide +kernel
theorem dX6_odds_69 : decode cX6_odds 69 = .ok (.lreturn, 1) := by decide +kernel
theorem dX6_portfolio_0 : decode cX6_portfolio 0 = .ok (.iload_n 1, 1) := by decide +kernel
theorem dX6_portfolio_1 : decode cX6_portfolio 1 = .ok (.iconst 1, 1) := by decide +kernel
theorem dX6_portfolio_2 : decode cX6_portfolio 2 = .ok (.if_icmp .ge 6, 3) := by decide +kernel
theorem dX6_portfolio_5 : decode cX6_portfolio 5 = .ok (.bipush (-2), 2) := by decide +kernel
theorem dX6_portfolio_7 : decode cX6_portfolio 7 = .ok (.ireturn, 1) := by decide +kernel
theorem dX6_portfolio_8 : decode cX6_portfolio 8 = .ok (.iload_n 1, 1) := by decide +kernel
theorem dX6_portfolio_9 : decode cX6_portfolio 9 = .ok (.aload_n 0, 1) := by decide +kernel
theorem dX6_portfolio_10 : decode cX6_portfolio 10 = .ok (.getfield 12, 3) := by decide +kernel
theorem dX6_portfolio_13 : decode cX6_portfolio 13 = .ok (.invokevirtual 155, 3) := by decide +kernel
theorem dX6_portfolio_16 : decode cX6_portfolio 16 = .ok (.if_icmp .le 6, 3) := by decide +kernel
theorem dX6_portfolio_19 : decode cX6_portfolio 19 = .ok (.bipush (-3), 2) := by decide +kernel
theorem dX6_portfolio_21 : decode cX6_portfolio 21 = .ok (.ireturn, 1) := by decide +kernel
theorem dX6_portfolio_22 : decode cX6_portfolio 22 = .ok (.iload_n 2, 1) := by decide +kernel
theorem dX6_portfolio_23 : decode cX6_portfolio 23 = .ok (.iconst (-1), 1) := by decide +kernel
theorem dX6_portfolio_24 : decode cX6_portfolio 24 = .ok (.if_icmp .eq 16, 3) := by decide +kernel
theorem dX6_portfolio_27 : decode cX6_portfolio 27 = .ok (.iload_n 2, 1) := by decide +kernel
theorem dX6_portfolio_28 : decode cX6_portfolio 28 = .ok (.iconst 0, 1) := by decide +kernel
theorem dX6_portfolio_29 : decode cX6_portfolio 29 = .ok (.iload_n 1, 1) := by decide +kernel
theorem dX6_portfolio_30 : decode cX6_portfolio 30 = .ok (.iconst 1, 1) := by decide +kernel
theorem dX6_portfolio_31 : decode cX6_portfolio 31 = .ok (.isub, 1) := by decide +kernel
theorem dX6_portfolio_32 : decode cX6_portfolio 32 = .ok (.invokestatic 47, 3) := by decide +kernel
theorem dX6_portfolio_35 : decode cX6_portfolio 35 = .ok (.ifCond .ne 5, 3) := by decide +kernel
theorem dX6_portfolio_38 : decode cX6_portfolio 38 = .ok (.iconst (-1), 1) := by decide +kernel
theorem dX6_portfolio_39 : decode cX6_portfolio 39 = .ok (.ireturn, 1) := by decide +kernel
theorem dX6_portfolio_40 : decode cX6_portfolio 40 = .ok (.aload_n 0, 1) := by decide +kernel
theorem dX6_portfolio_41 : decode cX6_portfolio 41 = .ok (.getfield 28, 3) := by decide +kernel
theorem dX6_portfolio_44 : decode cX6_portfolio 44 = .ok (.aload_n 0, 1) := by decide +kernel
theorem dX6_portfolio_45 : decode cX6_portfolio 45 = .ok (.getfield 12, 3) := by decide +kernel
theorem dX6_portfolio_48 : decode cX6_portfolio 48 = .ok (.iload_n 1, 1) := by decide +kernel
theorem dX6_portfolio_49 : decode cX6_portfolio 49 = .ok (.invokevirtual 158, 3) := by decide +kernel
theorem dX6_portfolio_52 : decode cX6_portfolio 52 = .ok (.iload_n 2, 1) := by decide +kernel
theorem dX6_portfolio_53 : decode cX6_portfolio 53 = .ok (.iconst (-1), 1) := by decide +kernel
theorem dX6_portfolio_54 : decode cX6_portfolio 54 = .ok (.if_icmp .ne 13, 3) := by decide +kernel
theorem dX6_portfolio_57 : decode cX6_portfolio 57 = .ok (.aload_n 0, 1) := by decide +kernel
theorem dX6_portfolio_58 : decode cX6_portfolio 58 = .ok (.getfield 28, 3) := by decide +kernel
theorem dX6_portfolio_61 : decode cX6_portfolio 61 = .ok (.getfield 162, 3) := by decide +kernel
theorem dX6_portfolio_64 : decode cX6_portfolio 64 = .ok (.goto 11, 3) := by decide +kernel
theorem dX6_portfolio_67 : decode cX6_portfolio 67 = .ok (.aload_n 0, 1) := by decide +kernel
theorem dX6_portfolio_68 : decode cX6_portfolio 68 = .ok (.getfield 28, 3) := by decide +kernel
theorem dX6_portfolio_71 : decode cX6_portfolio 71 = .ok (.iload_n 2, 1) := by decide +kernel
theorem dX6_portfolio_72 : decode cX6_portfolio 72 = .ok (.invokevirtual 165, 3) := by decide +kernel
theorem dX6_portfolio_75 : decode cX6_portfolio 75 = .ok (.ireturn, 1) := by decide +kernel
theorem dX6_pick_0 : decode cX6_pick 0 = .ok (.aload_n 0, 1) := by decide +kernel
theorem dX6_pick_1 : decode cX6_pick 1 = .ok (.getfield 12, 3) := by decide +kernel
theorem dX6_pick_4 : decode cX6_pick 4 = .ok (.iload_n 1, 1) := by decide +kernel
theorem dX6_pick_5 : decode cX6_pick 5 = .ok (.invokevirtual 59, 3) := by decide +kernel
theorem dX6_pick_8 : decode cX6_pick 8 = .ok (.ifCond .ne 5, 3) := by decide +kernel
theorem dX6_pick_11 : decode cX6_pick 11 = .ok (.iconst (-1), 1) := by decide +kernel
theorem dX6_pick_12 : decode cX6_pick 12 = .ok (.ireturn, 1) := by decide +kernel
theorem dX6_pick_13 : decode cX6_pick 13 = .ok (.aload_n 0, 1) := by decide +kernel
theorem dX6_pick_14 : decode cX6_pick 14 = .ok (.iload_n 1, 1) := by decide +kernel
theorem dX6_pick_15 : decode cX6_pick 15 = .ok (.invokevirtual 168, 3) := by decide +kernel
theorem dX6_pick_18 : decode cX6_pick 18 = .ok (.istore_n 2, 1) := by decide +kernel
theorem dX6_pick_19 : decode cX6_pick 19 = .ok (.iload_n 2, 1) := by decide +kernel
theorem dX6_pick_20 : decode cX6_pick 20 = .ok (.iconst (-1), 1) := by decide +kernel
theorem dX6_pick_21 : decode cX6_pick 21 = .ok (.if_icmp .ne 8, 3) := by decide +kernel
theorem dX6_pick_24 : decode cX6_pick 24 = .ok (.bipush (-3), 2) := by decide +kernel
theorem dX6_pick_26 : decode cX6_pick 26 = .ok (.goto 4, 3) := by decide +kernel
theorem dX6_pick_29 : decode cX6_pick 29 = .ok (.iload_n 2, 1) := by decide +kernel
theorem dX6_pick_30 : decode cX6_pick 30 = .ok (.ireturn, 1) := by decide +kernel
theorem dX6_stump_0 : decode cX6_stump 0 = .ok (.iload_n 1, 1) := by decide +kernel
theorem dX6_stump_1 : decode cX6_stump 1 = .ok (.iconst 0, 1) := by decide +kernel
theorem dX6_stump_2 : decode cX6_stump 2 = .ok (.iconst 4, 1) := by decide +kernel
theorem dX6_stump_3 : decode cX6_stump 3 = .ok (.invokestatic 47, 3) := by decide +kernel
theorem dX6_stump_6 : decode cX6_stump 6 = .ok (.ifCond .ne 6, 3) := by decide +kernel
theorem dX6_stump_9 : decode cX6_stump 9 = .ok (.bipush (-2), 2) := by decide +kernel
theorem dX6_stump_11 : decode cX6_stump 11 = .ok (.ireturn, 1) := by decide +kernel
theorem dX6_stump_12 : decode cX6_stump 12 = .ok (.aload_n 0, 1) := by decide +kernel
theorem dX6_stump_13 : decode cX6_stump 13 = .ok (.getfield 12, 3) := by decide +kernel
theorem dX6_stump_16 : decode cX6_stump 16 = .ok (.invokevirtual 155, 3) := by decide +kernel
theorem dX6_stump_19 : decode cX6_stump 19 = .ok (.ifCond .ne 6, 3) := by decide +kernel
theorem dX6_stump_22 : decode cX6_stump 22 = .ok (.bipush (-3), 2) := by decide +kernel
theorem dX6_stump_24 : decode cX6_stump 24 = .ok (.ireturn, 1) := by decide +kernel
theorem dX6_stump_25 : decode cX6_stump 25 = .ok (.aload_n 0, 1) := by decide +kernel
theorem dX6_stump_26 : decode cX6_stump 26 = .ok (.getfield 35, 3) := by decide +kernel
theorem dX6_stump_29 : decode cX6_stump 29 = .ok (.aload_n 0, 1) := by decide +kernel
theorem dX6_stump_30 : decode cX6_stump 30 = .ok (.getfield 12, 3) := by decide +kernel
theorem dX6_stump_33 : decode cX6_stump 33 = .ok (.invokevirtual 171, 3) := by decide +kernel
theorem dX6_stump_36 : decode cX6_stump 36 = .ok (.iload_n 1, 1) := by decide +kernel
theorem dX6_stump_37 : decode cX6_stump 37 = .ok (.tableswitch 63 0 3 #[31, 39, 47, 55], 31) := by decide +kernel
theorem dX6_stump_68 : decode cX6_stump 68 = .ok (.aload_n 0, 1) := by decide +kernel
theorem dX6_stump_69 : decode cX6_stump 69 = .ok (.getfield 35, 3) := by decide +kernel
theorem dX6_stump_72 : decode cX6_stump 72 = .ok (.getfield 174, 3) := by decide +kernel
theorem dX6_stump_75 : decode cX6_stump 75 = .ok (.ireturn, 1) := by decide +kernel
theorem dX6_stump_76 : decode cX6_stump 76 = .ok (.aload_n 0, 1) := by decide +kernel
theorem dX6_stump_77 : decode cX6_stump 77 = .ok (.getfield 35, 3) := by decide +kernel
theorem dX6_stump_80 : decode cX6_stump 80 = .ok (.getfield 177, 3) := by decide +kernel
theorem dX6_stump_83 : decode cX6_stump 83 = .ok (.ireturn, 1) := by decide +kernel
theorem dX6_stump_84 : decode cX6_stump 84 = .ok (.aload_n 0, 1) := by decide +kernel
theorem dX6_stump_85 : decode cX6_stump 85 = .ok (.getfield 35, 3) := by decide +kernel
theorem dX6_stump_88 : decode cX6_stump 88 = .ok (.getfield 180, 3) := by decide +kernel
theorem dX6_stump_91 : decode cX6_stump 91 = .ok (.ireturn, 1) := by decide +kernel
theorem dX6_stump_92 : decode cX6_stump 92 = .ok (.aload_n 0, 1) := by decide +kernel
theorem dX6_stump_93 : decode cX6_stump 93 = .ok (.getfield 35, 3) := by decide +kernel
theorem dX6_stump_96 : decode cX6_stump 96 = .ok (.getfield 183, 3) := by decide +kernel
theorem dX6_stump_99 : decode cX6_stump 99 = .ok (.ireturn, 1) := by decide +kernel
theorem dX6_stump_100 : decode cX6_stump 100 = .ok (.aload_n 0, 1) := by decide +kernel
theorem dX6_stump_101 : decode cX6_stump 101 = .ok (.getfield 35, 3) := by decide +kernel
theorem dX6_stump_104 : decode cX6_stump 104 = .ok (.getfield 186, 3) := by decide +kernel
theorem dX6_stump_107 : decode cX6_stump 107 = .ok (.ireturn, 1) := by decide +kernel
theorem dX6_heldOut_0 : decode cX6_heldOut 0 = .ok (.iload_n 1, 1) := by decide +kernel
theorem dX6_heldOut_1 : decode cX6_heldOut 1 = .ok (.iconst 0, 1) := by decide +kernel
theorem dX6_heldOut_2 : decode cX6_heldOut 2 = .ok (.iconst 3, 1) := by decide +kernel
theorem dX6_heldOut_3 : decode cX6_heldOut 3 = .ok (.invokestatic 47, 3) := by decide +kernel
theorem dX6_heldOut_6 : decode cX6_heldOut 6 = .ok (.ifCond .ne 6, 3) := by decide +kernel
theorem dX6_heldOut_9 : decode cX6_heldOut 9 = .ok (.bipush (-2), 2) := by decide +kernel
theorem dX6_heldOut_11 : decode cX6_heldOut 11 = .ok (.ireturn, 1) := by decide +kernel
theorem dX6_heldOut_12 : decode cX6_heldOut 12 = .ok (.aload_n 0, 1) := by decide +kernel
theorem dX6_heldOut_13 : decode cX6_heldOut 13 = .ok (.getfield 12, 3) := by decide +kernel
theorem dX6_heldOut_16 : decode cX6_heldOut 16 = .ok (.invokevirtual 155, 3) := by decide +kernel
theorem dX6_heldOut_19 : decode cX6_heldOut 19 = .ok (.ifCond .ne 6, 3) := by decide +kernel
theorem dX6_heldOut_22 : decode cX6_heldOut 22 = .ok (.bipush (-3), 2) := by decide +kernel
theorem dX6_heldOut_24 : decode cX6_heldOut 24 = .ok (.ireturn, 1) := by decide +kernel
theorem dX6_heldOut_25 : decode cX6_heldOut 25 = .ok (.aload_n 0, 1) := by decide +kernel
theorem dX6_heldOut_26 : decode cX6_heldOut 26 = .ok (.iload_n 1, 1) := by decide +kernel
theorem dX6_heldOut_27 : decode cX6_heldOut 27 = .ok (.invokevirtual 187, 3) := by decide +kernel
theorem dX6_heldOut_30 : decode cX6_heldOut 30 = .ok (.iconst 0, 1) := by decide +kernel
theorem dX6_heldOut_31 : decode cX6_heldOut 31 = .ok (.istore_n 2, 1) := by decide +kernel
theorem dX6_heldOut_32 : decode cX6_heldOut 32 = .ok (.iconst 0, 1) := by decide +kernel
theorem dX6_heldOut_33 : decode cX6_heldOut 33 = .ok (.istore_n 3, 1) := by decide +kernel
theorem dX6_heldOut_34 : decode cX6_heldOut 34 = .ok (.iload_n 3, 1) := by decide +kernel
theorem dX6_heldOut_35 : decode cX6_heldOut 35 = .ok (.aload_n 0, 1) := by decide +kernel
theorem dX6_heldOut_36 : decode cX6_heldOut 36 = .ok (.getfield 12, 3) := by decide +kernel
theorem dX6_heldOut_39 : decode cX6_heldOut 39 = .ok (.getfield 190, 3) := by decide +kernel
theorem dX6_heldOut_42 : decode cX6_heldOut 42 = .ok (.if_icmp .ge 50, 3) := by decide +kernel
theorem dX6_heldOut_45 : decode cX6_heldOut 45 = .ok (.aload_n 0, 1) := by decide +kernel
theorem dX6_heldOut_46 : decode cX6_heldOut 46 = .ok (.getfield 12, 3) := by decide +kernel
theorem dX6_heldOut_49 : decode cX6_heldOut 49 = .ok (.iload_n 3, 1) := by decide +kernel
theorem dX6_heldOut_50 : decode cX6_heldOut 50 = .ok (.invokevirtual 193, 3) := by decide +kernel
theorem dX6_heldOut_53 : decode cX6_heldOut 53 = .ok (.ifCond .ne 33, 3) := by decide +kernel
theorem dX6_heldOut_56 : decode cX6_heldOut 56 = .ok (.aload_n 0, 1) := by decide +kernel
theorem dX6_heldOut_57 : decode cX6_heldOut 57 = .ok (.iload_n 1, 1) := by decide +kernel
theorem dX6_heldOut_58 : decode cX6_heldOut 58 = .ok (.iload_n 3, 1) := by decide +kernel
theorem dX6_heldOut_59 : decode cX6_heldOut 59 = .ok (.invokevirtual 196, 3) := by decide +kernel
theorem dX6_heldOut_62 : decode cX6_heldOut 62 = .ok (.istore 4, 2) := by decide +kernel
theorem dX6_heldOut_64 : decode cX6_heldOut 64 = .ok (.iload 4, 2) := by decide +kernel
theorem dX6_heldOut_66 : decode cX6_heldOut 66 = .ok (.iconst (-1), 1) := by decide +kernel
theorem dX6_heldOut_67 : decode cX6_heldOut 67 = .ok (.if_icmp .ne 6, 3) := by decide +kernel
theorem dX6_heldOut_70 : decode cX6_heldOut 70 = .ok (.bipush (-3), 2) := by decide +kernel
theorem dX6_heldOut_72 : decode cX6_heldOut 72 = .ok (.ireturn, 1) := by decide +kernel
theorem dX6_heldOut_73 : decode cX6_heldOut 73 = .ok (.iload_n 2, 1) := by decide +kernel
theorem dX6_heldOut_74 : decode cX6_heldOut 74 = .ok (.aload_n 0, 1) := by decide +kernel
theorem dX6_heldOut_75 : decode cX6_heldOut 75 = .ok (.getfield 12, 3) := by decide +kernel
theorem dX6_heldOut_78 : decode cX6_heldOut 78 = .ok (.iload 4, 2) := by decide +kernel
theorem dX6_heldOut_80 : decode cX6_heldOut 80 = .ok (.iload_n 3, 1) := by decide +kernel
theorem dX6_heldOut_81 : decode cX6_heldOut 81 = .ok (.invokevirtual 63, 3) := by decide +kernel
theorem dX6_heldOut_84 : decode cX6_heldOut 84 = .ok (.iadd, 1) := by decide +kernel
theorem dX6_heldOut_85 : decode cX6_heldOut 85 = .ok (.istore_n 2, 1) := by decide +kernel
theorem dX6_heldOut_86 : decode cX6_heldOut 86 = .ok (.iinc 3 1, 3) := by decide +kernel
theorem dX6_heldOut_89 : decode cX6_heldOut 89 = .ok (.goto (-55), 3) := by decide +kernel
theorem dX6_heldOut_92 : decode cX6_heldOut 92 = .ok (.iload_n 2, 1) := by decide +kernel
theorem dX6_heldOut_93 : decode cX6_heldOut 93 = .ok (.ireturn, 1) := by decide +kernel
theorem dX6_mean_0 : decode cX6_mean 0 = .ok (.aload_n 0, 1) := by decide +kernel
theorem dX6_mean_1 : decode cX6_mean 1 = .ok (.getfield 39, 3) := by decide +kernel
theorem dX6_mean_4 : decode cX6_mean 4 = .ok (.ifnull 40, 3) := by decide +kernel
theorem dX6_mean_7 : decode cX6_mean 7 = .ok (.aload_n 0, 1) := by decide +kernel
theorem dX6_mean_8 : decode cX6_mean 8 = .ok (.getfield 39, 3) := by decide +kernel
theorem dX6_mean_11 : decode cX6_mean 11 = .ok (.iload_n 1, 1) := by decide +kernel
theorem dX6_mean_12 : decode cX6_mean 12 = .ok (.invokevirtual 131, 3) := by decide +kernel
theorem dX6_mean_15 : decode cX6_mean 15 = .ok (.ifCond .eq 29, 3) := by decide +kernel
theorem dX6_mean_18 : decode cX6_mean 18 = .ok (.iload_n 3, 1) := by decide +kernel
theorem dX6_mean_19 : decode cX6_mean 19 = .ok (.iconst 0, 1) := by decide +kernel
theorem dX6_mean_20 : decode cX6_mean 20 = .ok (.iconst 1, 1) := by decide +kernel
theorem dX6_mean_21 : decode cX6_mean 21 = .ok (.invokestatic 47, 3) := by decide +kernel
theorem dX6_mean_24 : decode cX6_mean 24 = .ok (.ifCond .eq 20, 3) := by decide +kernel
theorem dX6_mean_27 : decode cX6_mean 27 = .ok (.iload_n 2, 1) := by decide +kernel
theorem dX6_mean_28 : decode cX6_mean 28 = .ok (.iconst 0, 1) := by decide +kernel
theorem dX6_mean_29 : decode cX6_mean 29 = .ok (.aload_n 0, 1) := by decide +kernel
theorem dX6_mean_30 : decode cX6_mean 30 = .ok (.getfield 39, 3) := by decide +kernel
theorem dX6_mean_33 : decode cX6_mean 33 = .ok (.getfield 199, 3) := by decide +kernel
theorem dX6_mean_36 : decode cX6_mean 36 = .ok (.iload_n 1, 1) := by decide +kernel
theorem dX6_mean_37 : decode cX6_mean 37 = .ok (.iaload, 1) := by decide +kernel
theorem dX6_mean_38 : decode cX6_mean 38 = .ok (.invokestatic 47, 3) := by decide +kernel
theorem dX6_mean_41 : decode cX6_mean 41 = .ok (.ifCond .ne 7, 3) := by decide +kernel
theorem dX6_mean_44 : decode cX6_mean 44 = .ok (.ldc2_w 138, 3) := by decide +kernel
theorem dX6_mean_47 : decode cX6_mean 47 = .ok (.lreturn, 1) := by decide +kernel
theorem dX6_mean_48 : decode cX6_mean 48 = .ok (.iload_n 2, 1) := by decide +kernel
theorem dX6_mean_49 : decode cX6_mean 49 = .ok (.ifCond .ne 13, 3) := by decide +kernel
theorem dX6_mean_52 : decode cX6_mean 52 = .ok (.new 202, 3) := by decide +kernel
theorem dX6_mean_55 : decode cX6_mean 55 = .ok (.dup, 1) := by decide +kernel
theorem dX6_mean_56 : decode cX6_mean 56 = .ok (.ldc 204, 2) := by decide +kernel
theorem dX6_mean_58 : decode cX6_mean 58 = .ok (.invokespecial 206, 3) := by decide +kernel
theorem dX6_mean_61 : decode cX6_mean 61 = .ok (.athrow, 1) := by decide +kernel
theorem dX6_mean_62 : decode cX6_mean 62 = .ok (.aload_n 0, 1) := by decide +kernel
theorem dX6_mean_63 : decode cX6_mean 63 = .ok (.getfield 39, 3) := by decide +kernel
theorem dX6_mean_66 : decode cX6_mean 66 = .ok (.iload_n 1, 1) := by decide +kernel
theorem dX6_mean_67 : decode cX6_mean 67 = .ok (.iload_n 2, 1) := by decide +kernel
theorem dX6_mean_68 : decode cX6_mean 68 = .ok (.invokevirtual 209, 3) := by decide +kernel
theorem dX6_mean_71 : decode cX6_mean 71 = .ok (.iload_n 2, 1) := by decide +kernel
theorem dX6_mean_72 : decode cX6_mean 72 = .ok (.i2l, 1) := by decide +kernel
theorem dX6_mean_73 : decode cX6_mean 73 = .ok (.iload_n 3, 1) := by decide +kernel
theorem dX6_mean_74 : decode cX6_mean 74 = .ok (.invokestatic 151, 3) := by decide +kernel
theorem dX6_mean_77 : decode cX6_mean 77 = .ok (.lreturn, 1) := by decide +kernel
theorem dX6_isWithin_0 : decode cX6_isWithin 0 = .ok (.iload_n 0, 1) := by decide +kernel
theorem dX6_isWithin_1 : decode cX6_isWithin 1 = .ok (.iload_n 1, 1) := by decide +kernel
theorem dX6_isWithin_2 : decode cX6_isWithin 2 = .ok (.if_icmp .lt 12, 3) := by decide +kernel
theorem dX6_isWithin_5 : decode cX6_isWithin 5 = .ok (.iload_n 0, 1) := by decide +kernel
theorem dX6_isWithin_6 : decode cX6_isWithin 6 = .ok (.iload_n 2, 1) := by decide +kernel
theorem dX6_isWithin_7 : decode cX6_isWithin 7 = .ok (.if_icmp .gt 7, 3) := by decide +kernel
theorem dX6_isWithin_10 : decode cX6_isWithin 10 = .ok (.iconst 1, 1) := by decide +kernel
theorem dX6_isWithin_11 : decode cX6_isWithin 11 = .ok (.goto 4, 3) := by decide +kernel
theorem dX6_isWithin_14 : decode cX6_isWithin 14 = .ok (.iconst 0, 1) := by decide +kernel
theorem dX6_isWithin_15 : decode cX6_isWithin 15 = .ok (.ireturn, 1) := by decide +kernel
theorem dX6_pickFor_0 : decode cX6_pickFor 0 = .ok (.aload_n 0, 1) := by decide +kernel
theorem dX6_pickFor_1 : decode cX6_pickFor 1 = .ok (.getfield 12, 3) := by decide +kernel
theorem dX6_pickFor_4 : decode cX6_pickFor 4 = .ok (.aload_n 0, 1) := by decide +kernel
theorem dX6_pickFor_5 : decode cX6_pickFor 5 = .ok (.getfield 12, 3) := by decide +kernel
theorem dX6_pickFor_8 : decode cX6_pickFor 8 = .ok (.iload_n 1, 1) := by decide +kernel
theorem dX6_pickFor_9 : decode cX6_pickFor 9 = .ok (.invokevirtual 213, 3) := by decide +kernel
theorem dX6_pickFor_12 : decode cX6_pickFor 12 = .ok (.invokevirtual 216, 3) := by decide +kernel
theorem dX6_pickFor_15 : decode cX6_pickFor 15 = .ok (.ireturn, 1) := by decide +kernel
theorem dX6_findChoice_0 : decode cX6_findChoice 0 = .ok (.iload_n 1, 1) := by decide +kernel
theorem dX6_findChoice_1 : decode cX6_findChoice 1 = .ok (.iconst 1, 1) := by decide +kernel
theorem dX6_findChoice_2 : decode cX6_findChoice 2 = .ok (.if_icmp .ne 18, 3) := by decide +kernel
theorem dX6_findChoice_5 : decode cX6_findChoice 5 = .ok (.aload_n 0, 1) := by decide +kernel
theorem dX6_findChoice_6 : decode cX6_findChoice 6 = .ok (.getfield 28, 3) := by decide +kernel
theorem dX6_findChoice_9 : decode cX6_findChoice 9 = .ok (.aload_n 0, 1) := by decide +kernel
theorem dX6_findChoice_10 : decode cX6_findChoice 10 = .ok (.getfield 12, 3) := by decide +kernel
theorem dX6_findChoice_13 : decode cX6_findChoice 13 = .ok (.iconst 1, 1) := by decide +kernel
theorem dX6_findChoice_14 : decode cX6_findChoice 14 = .ok (.invokevirtual 158, 3) := by decide +kernel
theorem dX6_findChoice_17 : decode cX6_findChoice 17 = .ok (.goto 19, 3) := by decide +kernel
theorem dX6_findChoice_20 : decode cX6_findChoice 20 = .ok (.iload_n 1, 1) := by decide +kernel
theorem dX6_findChoice_21 : decode cX6_findChoice 21 = .ok (.iconst 3, 1) := by decide +kernel
theorem dX6_findChoice_22 : decode cX6_findChoice 22 = .ok (.if_icmp .ne 14, 3) := by decide +kernel
theorem dX6_findChoice_25 : decode cX6_findChoice 25 = .ok (.aload_n 0, 1) := by decide +kernel
theorem dX6_findChoice_26 : decode cX6_findChoice 26 = .ok (.getfield 35, 3) := by decide +kernel
theorem dX6_findChoice_29 : decode cX6_findChoice 29 = .ok (.aload_n 0, 1) := by decide +kernel
theorem dX6_findChoice_30 : decode cX6_findChoice 30 = .ok (.getfield 12, 3) := by decide +kernel
theorem dX6_findChoice_33 : decode cX6_findChoice 33 = .ok (.invokevirtual 171, 3) := by decide +kernel
theorem dX6_findChoice_36 : decode cX6_findChoice 36 = .ok (.return_, 1) := by decide +kernel
theorem dX6_chosenFor_0 : decode cX6_chosenFor 0 = .ok (.iload_n 1, 1) := by decide +kernel
theorem dX6_chosenFor_1 : decode cX6_chosenFor 1 = .ok (.tableswitch 51 0 2 #[27, 33, 42], 27) := by decide +kernel
theorem dX6_chosenFor_28 : decode cX6_chosenFor 28 = .ok (.aload_n 0, 1) := by decide +kernel
theorem dX6_chosenFor_29 : decode cX6_chosenFor 29 = .ok (.iload_n 2, 1) := by decide +kernel
theorem dX6_chosenFor_30 : decode cX6_chosenFor 30 = .ok (.invokevirtual 168, 3) := by decide +kernel
theorem dX6_chosenFor_33 : decode cX6_chosenFor 33 = .ok (.ireturn, 1) := by decide +kernel
theorem dX6_chosenFor_34 : decode cX6_chosenFor 34 = .ok (.aload_n 0, 1) := by decide +kernel
theorem dX6_chosenFor_35 : decode cX6_chosenFor 35 = .ok (.getfield 28, 3) := by decide +kernel
theorem dX6_chosenFor_38 : decode cX6_chosenFor 38 = .ok (.iconst 0, 1) := by decide +kernel
theorem dX6_chosenFor_39 : decode cX6_chosenFor 39 = .ok (.invokevirtual 165, 3) := by decide +kernel
theorem dX6_chosenFor_42 : decode cX6_chosenFor 42 = .ok (.ireturn, 1) := by decide +kernel
theorem dX6_chosenFor_43 : decode cX6_chosenFor 43 = .ok (.aload_n 0, 1) := by decide +kernel
theorem dX6_chosenFor_44 : decode cX6_chosenFor 44 = .ok (.getfield 12, 3) := by decide +kernel
theorem dX6_chosenFor_47 : decode cX6_chosenFor 47 = .ok (.iload_n 2, 1) := by decide +kernel
theorem dX6_chosenFor_48 : decode cX6_chosenFor 48 = .ok (.invokevirtual 216, 3) := by decide +kernel
theorem dX6_chosenFor_51 : decode cX6_chosenFor 51 = .ok (.ireturn, 1) := by decide +kernel
theorem dX6_chosenFor_52 : decode cX6_chosenFor 52 = .ok (.aload_n 0, 1) := by decide +kernel
theorem dX6_chosenFor_53 : decode cX6_chosenFor 53 = .ok (.getfield 35, 3) := by decide +kernel
theorem dX6_chosenFor_56 : decode cX6_chosenFor 56 = .ok (.aload_n 0, 1) := by decide +kernel
theorem dX6_chosenFor_57 : decode cX6_chosenFor 57 = .ok (.getfield 12, 3) := by decide +kernel
theorem dX6_chosenFor_60 : decode cX6_chosenFor 60 = .ok (.iload_n 2, 1) := by decide +kernel
theorem dX6_chosenFor_61 : decode cX6_chosenFor 61 = .ok (.invokevirtual 219, 3) := by decide +kernel
theorem dX6_chosenFor_64 : decode cX6_chosenFor 64 = .ok (.ireturn, 1) := by decide +kernel
theorem dX6_lowestTerms_0 : decode cX6_lowestTerms 0 = .ok (.lload_n 0, 1) := by decide +kernel
theorem dX6_lowestTerms_1 : decode cX6_lowestTerms 1 = .ok (.lload_n 2, 1) := by decide +kernel
theorem dX6_lowestTerms_2 : decode cX6_lowestTerms 2 = .ok (.invokestatic 223, 3) := by decide +kernel
theorem dX6_lowestTerms_5 : decode cX6_lowestTerms 5 = .ok (.lstore 5, 2) := by decide +kernel
theorem dX6_lowestTerms_7 : decode cX6_lowestTerms 7 = .ok (.iload 4, 2) := by decide +kernel
theorem dX6_lowestTerms_9 : decode cX6_lowestTerms 9 = .ok (.ifCond .ne 7, 3) := by decide +kernel
theorem dX6_lowestTerms_12 : decode cX6_lowestTerms 12 = .ok (.lload_n 0, 1) := by decide +kernel
theorem dX6_lowestTerms_13 : decode cX6_lowestTerms 13 = .ok (.goto 4, 3) := by decide +kernel
theorem dX6_lowestTerms_16 : decode cX6_lowestTerms 16 = .ok (.lload_n 2, 1) := by decide +kernel
theorem dX6_lowestTerms_17 : decode cX6_lowestTerms 17 = .ok (.lstore 7, 2) := by decide +kernel
theorem dX6_lowestTerms_19 : decode cX6_lowestTerms 19 = .ok (.lload 5, 2) := by decide +kernel
theorem dX6_lowestTerms_21 : decode cX6_lowestTerms 21 = .ok (.lconst 0, 1) := by decide +kernel
theorem dX6_lowestTerms_22 : decode cX6_lowestTerms 22 = .ok (.lcmp, 1) := by decide +kernel
theorem dX6_lowestTerms_23 : decode cX6_lowestTerms 23 = .ok (.ifCond .ne 8, 3) := by decide +kernel
theorem dX6_lowestTerms_26 : decode cX6_lowestTerms 26 = .ok (.lload 7, 2) := by decide +kernel
theorem dX6_lowestTerms_28 : decode cX6_lowestTerms 28 = .ok (.goto 8, 3) := by decide +kernel
theorem dX6_lowestTerms_31 : decode cX6_lowestTerms 31 = .ok (.lload 7, 2) := by decide +kernel
theorem dX6_lowestTerms_33 : decode cX6_lowestTerms 33 = .ok (.lload 5, 2) := by decide +kernel
theorem dX6_lowestTerms_35 : decode cX6_lowestTerms 35 = .ok (.ldiv, 1) := by decide +kernel
theorem dX6_lowestTerms_36 : decode cX6_lowestTerms 36 = .ok (.lreturn, 1) := by decide +kernel
theorem dX6_greatestDivisor_0 : decode cX6_greatestDivisor 0 = .ok (.lload_n 0, 1) := by decide +kernel
theorem dX6_greatestDivisor_1 : decode cX6_greatestDivisor 1 = .ok (.lstore 4, 2) := by decide +kernel
theorem dX6_greatestDivisor_3 : decode cX6_greatestDivisor 3 = .ok (.lload_n 2, 1) := by decide +kernel
theorem dX6_greatestDivisor_4 : decode cX6_greatestDivisor 4 = .ok (.lstore 6, 2) := by decide +kernel
theorem dX6_greatestDivisor_6 : decode cX6_greatestDivisor 6 = .ok (.iconst 0, 1) := by decide +kernel
theorem dX6_greatestDivisor_7 : decode cX6_greatestDivisor 7 = .ok (.istore 8, 2) := by decide +kernel
theorem dX6_greatestDivisor_9 : decode cX6_greatestDivisor 9 = .ok (.iload 8, 2) := by decide +kernel
theorem dX6_greatestDivisor_11 : decode cX6_greatestDivisor 11 = .ok (.bipush 64, 2) := by decide +kernel
theorem dX6_greatestDivisor_13 : decode cX6_greatestDivisor 13 = .ok (.if_icmp .ge 31, 3) := by decide +kernel
theorem dX6_greatestDivisor_16 : decode cX6_greatestDivisor 16 = .ok (.lload 6, 2) := by decide +kernel
theorem dX6_greatestDivisor_18 : decode cX6_greatestDivisor 18 = .ok (.lconst 0, 1) := by decide +kernel
theorem dX6_greatestDivisor_19 : decode cX6_greatestDivisor 19 = .ok (.lcmp, 1) := by decide +kernel
theorem dX6_greatestDivisor_20 : decode cX6_greatestDivisor 20 = .ok (.ifCond .eq 24, 3) := by decide +kernel
theorem dX6_greatestDivisor_23 : decode cX6_greatestDivisor 23 = .ok (.lload 4, 2) := by decide +kernel
theorem dX6_greatestDivisor_25 : decode cX6_greatestDivisor 25 = .ok (.lload 6, 2) := by decide +kernel
theorem dX6_greatestDivisor_27 : decode cX6_greatestDivisor 27 = .ok (.lrem, 1) := by decide +kernel
theorem dX6_greatestDivisor_28 : decode cX6_greatestDivisor 28 = .ok (.lstore 9, 2) := by decide +kernel
theorem dX6_greatestDivisor_30 : decode cX6_greatestDivisor 30 = .ok (.lload 6, 2) := by decide +kernel
theorem dX6_greatestDivisor_32 : decode cX6_greatestDivisor 32 = .ok (.lstore 4, 2) := by decide +kernel
theorem dX6_greatestDivisor_34 : decode cX6_greatestDivisor 34 = .ok (.lload 9, 2) := by decide +kernel
theorem dX6_greatestDivisor_36 : decode cX6_greatestDivisor 36 = .ok (.lstore 6, 2) := by decide +kernel
theorem dX6_greatestDivisor_38 : decode cX6_greatestDivisor 38 = .ok (.iinc 8 1, 3) := by decide +kernel
theorem dX6_greatestDivisor_41 : decode cX6_greatestDivisor 41 = .ok (.goto (-32), 3) := by decide +kernel
theorem dX6_greatestDivisor_44 : decode cX6_greatestDivisor 44 = .ok (.lload 4, 2) := by decide +kernel
theorem dX6_greatestDivisor_46 : decode cX6_greatestDivisor 46 = .ok (.lreturn, 1) := by decide +kernel
