theorem dX7_init_0 : decode cX7_init 0 = .ok (.aload_n 0, 1) := by decide +kernel
theorem dX7_init_1 : decode cX7_init 1 = .ok (.invokespecial 1, 3) := by decide +kernel
theorem dX7_init_4 : decode cX7_init 4 = .ok (.aload_n 0, 1) := by decide +kernel
theorem dX7_init_5 : decode cX7_init 5 = .ok (.bipush 48, 2) := by decide +kernel
theorem dX7_init_7 : decode cX7_init 7 = .ok (.newarray .int, 2) := by decide +kernel
theorem dX7_init_9 : decode cX7_init 9 = .ok (.putfield 7, 3) := by decide +kernel
theorem dX7_init_12 : decode cX7_init 12 = .ok (.aload_n 0, 1) := by decide +kernel
theorem dX7_init_13 : decode cX7_init 13 = .ok (.bipush 24, 2) := by decide +kernel
theorem dX7_init_15 : decode cX7_init 15 = .ok (.newarray .boolean, 2) := by decide +kernel
theorem dX7_init_17 : decode cX7_init 17 = .ok (.putfield 13, 3) := by decide +kernel
theorem dX7_init_20 : decode cX7_init 20 = .ok (.aload_n 0, 1) := by decide +kernel
theorem dX7_init_21 : decode cX7_init 21 = .ok (.sipush 288, 3) := by decide +kernel
theorem dX7_init_24 : decode cX7_init 24 = .ok (.newarray .int, 2) := by decide +kernel
theorem dX7_init_26 : decode cX7_init 26 = .ok (.putfield 17, 3) := by decide +kernel
theorem dX7_init_29 : decode cX7_init 29 = .ok (.aload_n 0, 1) := by decide +kernel
theorem dX7_init_30 : decode cX7_init 30 = .ok (.iconst (-1), 1) := by decide +kernel
theorem dX7_init_31 : decode cX7_init 31 = .ok (.putfield 20, 3) := by decide +kernel
theorem dX7_init_34 : decode cX7_init 34 = .ok (.aload_n 0, 1) := by decide +kernel
theorem dX7_init_35 : decode cX7_init 35 = .ok (.bipush 24, 2) := by decide +kernel
theorem dX7_init_37 : decode cX7_init 37 = .ok (.newarray .int, 2) := by decide +kernel
theorem dX7_init_39 : decode cX7_init 39 = .ok (.putfield 24, 3) := by decide +kernel
theorem dX7_init_42 : decode cX7_init 42 = .ok (.aload_n 0, 1) := by decide +kernel
theorem dX7_init_43 : decode cX7_init 43 = .ok (.bipush 12, 2) := by decide +kernel
theorem dX7_init_45 : decode cX7_init 45 = .ok (.newarray .int, 2) := by decide +kernel
theorem dX7_init_47 : decode cX7_init 47 = .ok (.putfield 27, 3) := by decide +kernel
theorem dX7_init_50 : decode cX7_init 50 = .ok (.aload_n 0, 1) := by decide +kernel
theorem dX7_init_51 : decode cX7_init 51 = .ok (.bipush 12, 2) := by decide +kernel
theorem dX7_init_53 : decode cX7_init 53 = .ok (.newarray .int, 2) := by decide +kernel
theorem dX7_init_55 : decode cX7_init 55 = .ok (.putfield 30, 3) := by decide +kernel
theorem dX7_init_58 : decode cX7_init 58 = .ok (.aload_n 0, 1) := by decide +kernel
theorem dX7_init_59 : decode cX7_init 59 = .ok (.bipush 24, 2) := by decide +kernel
theorem dX7_init_61 : decode cX7_init 61 = .ok (.newarray .int, 2) := by decide +kernel
theorem dX7_init_63 : decode cX7_init 63 = .ok (.putfield 33, 3) := by decide +kernel
theorem dX7_init_66 : decode cX7_init 66 = .ok (.aload_n 0, 1) := by decide +kernel
theorem dX7_init_67 : decode cX7_init 67 = .ok (.bipush 24, 2) := by decide +kernel
theorem dX7_init_69 : decode cX7_init 69 = .ok (.newarray .boolean, 2) := by decide +kernel
theorem dX7_init_71 : decode cX7_init 71 = .ok (.putfield 36, 3) := by decide +kernel
theorem dX7_init_74 : decode cX7_init 74 = .ok (.aload_n 0, 1) := by decide +kernel
theorem dX7_init_75 : decode cX7_init 75 = .ok (.sipush 1300, 3) := by decide +kernel
theorem dX7_init_78 : decode cX7_init 78 = .ok (.newarray .long, 2) := by decide +kernel
theorem dX7_init_80 : decode cX7_init 80 = .ok (.putfield 39, 3) := by decide +kernel
theorem dX7_init_83 : decode cX7_init 83 = .ok (.return_, 1) := by decide +kernel
theorem dX7_thrown_0 : decode cX7_thrown 0 = .ok (.aload_n 0, 1) := by decide +kernel
theorem dX7_thrown_1 : decode cX7_thrown 1 = .ok (.getfield 43, 3) := by decide +kernel
theorem dX7_thrown_4 : decode cX7_thrown 4 = .ok (.ireturn, 1) := by decide +kernel
theorem dX7_in_0 : decode cX7_in 0 = .ok (.iload_n 0, 1) := by decide +kernel
theorem dX7_in_1 : decode cX7_in 1 = .ok (.iload_n 1, 1) := by decide +kernel
theorem dX7_in_2 : decode cX7_in 2 = .ok (.if_icmp .lt 12, 3) := by decide +kernel
theorem dX7_in_5 : decode cX7_in 5 = .ok (.iload_n 0, 1) := by decide +kernel
theorem dX7_in_6 : decode cX7_in 6 = .ok (.iload_n 2, 1) := by decide +kernel
theorem dX7_in_7 : decode cX7_in 7 = .ok (.if_icmp .gt 7, 3) := by decide +kernel
theorem dX7_in_10 : decode cX7_in 10 = .ok (.iconst 1, 1) := by decide +kernel
theorem dX7_in_11 : decode cX7_in 11 = .ok (.goto 4, 3) := by decide +kernel
theorem dX7_in_14 : decode cX7_in 14 = .ok (.iconst 0, 1) := by decide +kernel
theorem dX7_in_15 : decode cX7_in 15 = .ok (.ireturn, 1) := by decide +kernel
theorem dX7_isSetting_0 : decode cX7_isSetting 0 = .ok (.iload_n 1, 1) := by decide +kernel
theorem dX7_isSetting_1 : decode cX7_isSetting 1 = .ok (.iconst 0, 1) := by decide +kernel
theorem dX7_isSetting_2 : decode cX7_isSetting 2 = .ok (.aload_n 0, 1) := by decide +kernel
theorem dX7_isSetting_3 : decode cX7_isSetting 3 = .ok (.getfield 46, 3) := by decide +kernel
theorem dX7_isSetting_6 : decode cX7_isSetting 6 = .ok (.iconst 1, 1) := by decide +kernel
theorem dX7_isSetting_7 : decode cX7_isSetting 7 = .ok (.isub, 1) := by decide +kernel
theorem dX7_isSetting_8 : decode cX7_isSetting 8 = .ok (.invokestatic 49, 3) := by decide +kernel
theorem dX7_isSetting_11 : decode cX7_isSetting 11 = .ok (.ireturn, 1) := by decide +kernel
theorem dX7_isInstance_0 : decode cX7_isInstance 0 = .ok (.iload_n 1, 1) := by decide +kernel
theorem dX7_isInstance_1 : decode cX7_isInstance 1 = .ok (.iconst 0, 1) := by decide +kernel
theorem dX7_isInstance_2 : decode cX7_isInstance 2 = .ok (.aload_n 0, 1) := by decide +kernel
theorem dX7_isInstance_3 : decode cX7_isInstance 3 = .ok (.getfield 53, 3) := by decide +kernel
theorem dX7_isInstance_6 : decode cX7_isInstance 6 = .ok (.iconst 1, 1) := by decide +kernel
theorem dX7_isInstance_7 : decode cX7_isInstance 7 = .ok (.isub, 1) := by decide +kernel
theorem dX7_isInstance_8 : decode cX7_isInstance 8 = .ok (.invokestatic 49, 3) := by decide +kernel
theorem dX7_isInstance_11 : decode cX7_isInstance 11 = .ok (.ireturn, 1) := by decide +kernel
theorem dX7_costAt_0 : decode cX7_costAt 0 = .ok (.aload_n 0, 1) := by decide +kernel
theorem dX7_costAt_1 : decode cX7_costAt 1 = .ok (.getfield 17, 3) := by decide +kernel
theorem dX7_costAt_4 : decode cX7_costAt 4 = .ok (.bipush 24, 2) := by decide +kernel
theorem dX7_costAt_6 : decode cX7_costAt 6 = .ok (.iload_n 1, 1) := by decide +kernel
theorem dX7_costAt_7 : decode cX7_costAt 7 = .ok (.imul, 1) := by decide +kernel
theorem dX7_costAt_8 : decode cX7_costAt 8 = .ok (.iload_n 2, 1) := by decide +kernel
theorem dX7_costAt_9 : decode cX7_costAt 9 = .ok (.iadd, 1) := by decide +kernel
theorem dX7_costAt_10 : decode cX7_costAt 10 = .ok (.iaload, 1) := by decide +kernel
theorem dX7_costAt_11 : decode cX7_costAt 11 = .ok (.iconst 1, 1) := by decide +kernel
theorem dX7_costAt_12 : decode cX7_costAt 12 = .ok (.isub, 1) := by decide +kernel
theorem dX7_costAt_13 : decode cX7_costAt 13 = .ok (.ireturn, 1) := by decide +kernel
theorem dX7_setting_0 : decode cX7_setting 0 = .ok (.aload_n 0, 1) := by decide +kernel
theorem dX7_setting_1 : decode cX7_setting 1 = .ok (.iconst 0, 1) := by decide +kernel
theorem dX7_setting_2 : decode cX7_setting 2 = .ok (.putfield 43, 3) := by decide +kernel
theorem dX7_setting_5 : decode cX7_setting 5 = .ok (.aload_n 0, 1) := by decide +kernel
theorem dX7_setting_6 : decode cX7_setting 6 = .ok (.getfield 46, 3) := by decide +kernel
theorem dX7_setting_9 : decode cX7_setting 9 = .ok (.bipush 12, 2) := by decide +kernel
theorem dX7_setting_11 : decode cX7_setting 11 = .ok (.if_icmp .ne 6, 3) := by decide +kernel
theorem dX7_setting_14 : decode cX7_setting 14 = .ok (.bipush (-4), 2) := by decide +kernel
theorem dX7_setting_16 : decode cX7_setting 16 = .ok (.ireturn, 1) := by decide +kernel
theorem dX7_setting_17 : decode cX7_setting 17 = .ok (.aload_n 0, 1) := by decide +kernel
theorem dX7_setting_18 : decode cX7_setting 18 = .ok (.dup, 1) := by decide +kernel
theorem dX7_setting_19 : decode cX7_setting 19 = .ok (.getfield 46, 3) := by decide +kernel
theorem dX7_setting_22 : decode cX7_setting 22 = .ok (.iconst 1, 1) := by decide +kernel
theorem dX7_setting_23 : decode cX7_setting 23 = .ok (.iadd, 1) := by decide +kernel
theorem dX7_setting_24 : decode cX7_setting 24 = .ok (.putfield 46, 3) := by decide +kernel
theorem dX7_setting_27 : decode cX7_setting 27 = .ok (.aload_n 0, 1) := by decide +kernel
theorem dX7_setting_28 : decode cX7_setting 28 = .ok (.getfield 46, 3) := by decide +kernel
theorem dX7_setting_31 : decode cX7_setting 31 = .ok (.iconst 1, 1) := by decide +kernel
theorem dX7_setting_32 : decode cX7_setting 32 = .ok (.isub, 1) := by decide +kernel
theorem dX7_setting_33 : decode cX7_setting 33 = .ok (.ireturn, 1) := by decide +kernel
theorem dX7_instance_0 : decode cX7_instance 0 = .ok (.aload_n 0, 1) := by decide +kernel
theorem dX7_instance_1 : decode cX7_instance 1 = .ok (.iconst 0, 1) := by decide +kernel
theorem dX7_instance_2 : decode cX7_instance 2 = .ok (.putfield 43, 3) := by decide +kernel
theorem dX7_instance_5 : decode cX7_instance 5 = .ok (.iload_n 1, 1) := by decide +kernel
theorem dX7_instance_6 : decode cX7_instance 6 = .ok (.iconst 0, 1) := by decide +kernel
theorem dX7_instance_7 : decode cX7_instance 7 = .ok (.bipush 100, 2) := by decide +kernel
theorem dX7_instance_9 : decode cX7_instance 9 = .ok (.invokestatic 49, 3) := by decide +kernel
theorem dX7_instance_12 : decode cX7_instance 12 = .ok (.ifCond .eq 13, 3) := by decide +kernel
theorem dX7_instance_15 : decode cX7_instance 15 = .ok (.iload_n 2, 1) := by decide +kernel
theorem dX7_instance_16 : decode cX7_instance 16 = .ok (.iconst 0, 1) := by decide +kernel
theorem dX7_instance_17 : decode cX7_instance 17 = .ok (.bipush 100, 2) := by decide +kernel
theorem dX7_instance_19 : decode cX7_instance 19 = .ok (.invokestatic 49, 3) := by decide +kernel
theorem dX7_instance_22 : decode cX7_instance 22 = .ok (.ifCond .ne 6, 3) := by decide +kernel
theorem dX7_instance_25 : decode cX7_instance 25 = .ok (.bipush (-2), 2) := by decide +kernel
theorem dX7_instance_27 : decode cX7_instance 27 = .ok (.ireturn, 1) := by decide +kernel
theorem dX7_instance_28 : decode cX7_instance 28 = .ok (.aload_n 0, 1) := by decide +kernel
theorem dX7_instance_29 : decode cX7_instance 29 = .ok (.getfield 53, 3) := by decide +kernel
theorem dX7_instance_32 : decode cX7_instance 32 = .ok (.bipush 24, 2) := by decide +kernel
theorem dX7_instance_34 : decode cX7_instance 34 = .ok (.if_icmp .ne 6, 3) := by decide +kernel
theorem dX7_instance_37 : decode cX7_instance 37 = .ok (.bipush (-4), 2) := by decide +kernel
theorem dX7_instance_39 : decode cX7_instance 39 = .ok (.ireturn, 1) := by decide +kernel
theorem dX7_instance_40 : decode cX7_instance 40 = .ok (.aload_n 0, 1) := by decide +kernel
theorem dX7_instance_41 : decode cX7_instance 41 = .ok (.getfield 7, 3) := by decide +kernel
theorem dX7_instance_44 : decode cX7_instance 44 = .ok (.iconst 2, 1) := by decide +kernel
theorem dX7_instance_45 : decode cX7_instance 45 = .ok (.aload_n 0, 1) := by decide +kernel
theorem dX7_instance_46 : decode cX7_instance 46 = .ok (.getfield 53, 3) := by decide +kernel
theorem dX7_instance_49 : decode cX7_instance 49 = .ok (.imul, 1) := by decide +kernel
theorem dX7_instance_50 : decode cX7_instance 50 = .ok (.iload_n 1, 1) := by decide +kernel
theorem dX7_instance_51 : decode cX7_instance 51 = .ok (.iastore, 1) := by decide +kernel
theorem dX7_instance_52 : decode cX7_instance 52 = .ok (.aload_n 0, 1) := by decide +kernel
theorem dX7_instance_53 : decode cX7_instance 53 = .ok (.getfield 7, 3) := by decide +kernel
theorem dX7_instance_56 : decode cX7_instance 56 = .ok (.iconst 2, 1) := by decide +kernel
theorem dX7_instance_57 : decode cX7_instance 57 = .ok (.aload_n 0, 1) := by decide +kernel
theorem dX7_instance_58 : decode cX7_instance 58 = .ok (.getfield 53, 3) := by decide +kernel
theorem dX7_instance_61 : decode cX7_instance 61 = .ok (.imul, 1) := by decide +kernel
theorem dX7_instance_62 : decode cX7_instance 62 = .ok (.iconst 1, 1) := by decide +kernel
theorem dX7_instance_63 : decode cX7_instance 63 = .ok (.iadd, 1) := by decide +kernel
theorem dX7_instance_64 : decode cX7_instance 64 = .ok (.iload_n 2, 1) := by decide +kernel
theorem dX7_instance_65 : decode cX7_instance 65 = .ok (.iastore, 1) := by decide +kernel
theorem dX7_instance_66 : decode cX7_instance 66 = .ok (.aload_n 0, 1) := by decide +kernel
theorem dX7_instance_67 : decode cX7_instance 67 = .ok (.getfield 13, 3) := by decide +kernel
theorem dX7_instance_70 : decode cX7_instance 70 = .ok (.aload_n 0, 1) := by decide +kernel
theorem dX7_instance_71 : decode cX7_instance 71 = .ok (.getfield 53, 3) := by decide +kernel
theorem dX7_instance_74 : decode cX7_instance 74 = .ok (.iload_n 3, 1) := by decide +kernel
theorem dX7_instance_75 : decode cX7_instance 75 = .ok (.bastore, 1) := by decide +kernel
theorem dX7_instance_76 : decode cX7_instance 76 = .ok (.aload_n 0, 1) := by decide +kernel
theorem dX7_instance_77 : decode cX7_instance 77 = .ok (.dup, 1) := by decide +kernel
theorem dX7_instance_78 : decode cX7_instance 78 = .ok (.getfield 53, 3) := by decide +kernel
theorem dX7_instance_81 : decode cX7_instance 81 = .ok (.iconst 1, 1) := by decide +kernel
theorem dX7_instance_82 : decode cX7_instance 82 = .ok (.iadd, 1) := by decide +kernel
theorem dX7_instance_83 : decode cX7_instance 83 = .ok (.putfield 53, 3) := by decide +kernel
theorem dX7_instance_86 : decode cX7_instance 86 = .ok (.aload_n 0, 1) := by decide +kernel
theorem dX7_instance_87 : decode cX7_instance 87 = .ok (.getfield 53, 3) := by decide +kernel
theorem dX7_instance_90 : decode cX7_instance 90 = .ok (.iconst 1, 1) := by decide +kernel
theorem dX7_instance_91 : decode cX7_instance 91 = .ok (.isub, 1) := by decide +kernel
theorem dX7_instance_92 : decode cX7_instance 92 = .ok (.ireturn, 1) := by decide +kernel
theorem dX7_cost_0 : decode cX7_cost 0 = .ok (.aload_n 0, 1) := by decide +kernel
theorem dX7_cost_1 : decode cX7_cost 1 = .ok (.iconst 0, 1) := by decide +kernel
theorem dX7_cost_2 : decode cX7_cost 2 = .ok (.putfield 43, 3) := by decide +kernel
theorem dX7_cost_5 : decode cX7_cost 5 = .ok (.aload_n 0, 1) := by decide +kernel
theorem dX7_cost_6 : decode cX7_cost 6 = .ok (.iload_n 1, 1) := by decide +kernel
theorem dX7_cost_7 : decode cX7_cost 7 = .ok (.invokevirtual 56, 3) := by decide +kernel
theorem dX7_cost_10 : decode cX7_cost 10 = .ok (.ifCond .eq 11, 3) := by decide +kernel
theorem dX7_cost_13 : decode cX7_cost 13 = .ok (.aload_n 0, 1) := by decide +kernel
theorem dX7_cost_14 : decode cX7_cost 14 = .ok (.iload_n 2, 1) := by decide +kernel
theorem dX7_cost_15 : decode cX7_cost 15 = .ok (.invokevirtual 60, 3) := by decide +kernel
theorem dX7_cost_18 : decode cX7_cost 18 = .ok (.ifCond .ne 5, 3) := by decide +kernel
theorem dX7_cost_21 : decode cX7_cost 21 = .ok (.iconst (-1), 1) := by decide +kernel
theorem dX7_cost_22 : decode cX7_cost 22 = .ok (.ireturn, 1) := by decide +kernel
theorem dX7_cost_23 : decode cX7_cost 23 = .ok (.iload_n 3, 1) := by decide +kernel
theorem dX7_cost_24 : decode cX7_cost 24 = .ok (.iconst (-1), 1) := by decide +kernel
theorem dX7_cost_25 : decode cX7_cost 25 = .ok (.ldc 63, 2) := by decide +kernel
theorem dX7_cost_27 : decode cX7_cost 27 = .ok (.invokestatic 49, 3) := by decide +kernel
theorem dX7_cost_30 : decode cX7_cost 30 = .ok (.ifCond .ne 6, 3) := by decide +kernel
theorem dX7_cost_33 : decode cX7_cost 33 = .ok (.bipush (-2), 2) := by decide +kernel
theorem dX7_cost_35 : decode cX7_cost 35 = .ok (.ireturn, 1) := by decide +kernel
theorem dX7_cost_36 : decode cX7_cost 36 = .ok (.aload_n 0, 1) := by decide +kernel
theorem dX7_cost_37 : decode cX7_cost 37 = .ok (.getfield 17, 3) := by decide +kernel
theorem dX7_cost_40 : decode cX7_cost 40 = .ok (.bipush 24, 2) := by decide +kernel
theorem dX7_cost_42 : decode cX7_cost 42 = .ok (.iload_n 1, 1) := by decide +kernel
theorem dX7_cost_43 : decode cX7_cost 43 = .ok (.imul, 1) := by decide +kernel
theorem dX7_cost_44 : decode cX7_cost 44 = .ok (.iload_n 2, 1) := by decide +kernel
theorem dX7_cost_45 : decode cX7_cost 45 = .ok (.iadd, 1) := by decide +kernel
theorem dX7_cost_46 : decode cX7_cost 46 = .ok (.iaload, 1) := by decide +kernel
theorem dX7_cost_47 : decode cX7_cost 47 = .ok (.ifCond .eq 6, 3) := by decide +kernel
theorem dX7_cost_50 : decode cX7_cost 50 = .ok (.bipush (-3), 2) := by decide +kernel
theorem dX7_cost_52 : decode cX7_cost 52 = .ok (.ireturn, 1) := by decide +kernel
theorem dX7_cost_53 : decode cX7_cost 53 = .ok (.aload_n 0, 1) := by decide +kernel
theorem dX7_cost_54 : decode cX7_cost 54 = .ok (.getfield 17, 3) := by decide +kernel
theorem dX7_cost_57 : decode cX7_cost 57 = .ok (.bipush 24, 2) := by decide +kernel
theorem dX7_cost_59 : decode cX7_cost 59 = .ok (.iload_n 1, 1) := by decide +kernel
theorem dX7_cost_60 : decode cX7_cost 60 = .ok (.imul, 1) := by decide +kernel
theorem dX7_cost_61 : decode cX7_cost 61 = .ok (.iload_n 2, 1) := by decide +kernel
theorem dX7_cost_62 : decode cX7_cost 62 = .ok (.iadd, 1) := by decide +kernel
theorem dX7_cost_63 : decode cX7_cost 63 = .ok (.iload_n 3, 1) := by decide +kernel
theorem dX7_cost_64 : decode cX7_cost 64 = .ok (.ifCond .ge 8, 3) := by decide +kernel
theorem dX7_cost_67 : decode cX7_cost 67 = .ok (.ldc 64, 2) := by decide +kernel
theorem dX7_cost_69 : decode cX7_cost 69 = .ok (.goto 6, 3) := by decide +kernel
theorem dX7_cost_72 : decode cX7_cost 72 = .ok (.iload_n 3, 1) := by decide +kernel
theorem dX7_cost_73 : decode cX7_cost 73 = .ok (.iconst 1, 1) := by decide +kernel
theorem dX7_cost_74 : decode cX7_cost 74 = .ok (.iadd, 1) := by decide +kernel
theorem dX7_cost_75 : decode cX7_cost 75 = .ok (.iastore, 1) := by decide +kernel
theorem dX7_cost_76 : decode cX7_cost 76 = .ok (.iconst 0, 1) := by decide +kernel
theorem dX7_cost_77 : decode cX7_cost 77 = .ok (.istore 4, 2) := by decide +kernel
theorem dX7_cost_79 : decode cX7_cost 79 = .ok (.iconst 0, 1) := by decide +kernel
theorem dX7_cost_80 : decode cX7_cost 80 = .ok (.istore 5, 2) := by decide +kernel
theorem dX7_cost_82 : decode cX7_cost 82 = .ok (.iload 5, 2) := by decide +kernel
theorem dX7_cost_84 : decode cX7_cost 84 = .ok (.bipush 24, 2) := by decide +kernel
theorem dX7_cost_86 : decode cX7_cost 86 = .ok (.if_icmp .ge 34, 3) := by decide +kernel
theorem dX7_cost_89 : decode cX7_cost 89 = .ok (.iload 4, 2) := by decide +kernel
theorem dX7_cost_91 : decode cX7_cost 91 = .ok (.aload_n 0, 1) := by decide +kernel
theorem dX7_cost_92 : decode cX7_cost 92 = .ok (.getfield 17, 3) := by decide +kernel
theorem dX7_cost_95 : decode cX7_cost 95 = .ok (.bipush 24, 2) := by decide +kernel
theorem dX7_cost_97 : decode cX7_cost 97 = .ok (.iload_n 1, 1) := by decide +kernel
theorem dX7_cost_98 : decode cX7_cost 98 = .ok (.imul, 1) := by decide +kernel
theorem dX7_cost_99 : decode cX7_cost 99 = .ok (.iload 5, 2) := by decide +kernel
theorem dX7_cost_101 : decode cX7_cost 101 = .ok (.iadd, 1) := by decide +kernel
theorem dX7_cost_102 : decode cX7_cost 102 = .ok (.iaload, 1) := by decide +kernel
theorem dX7_cost_103 : decode cX7_cost 103 = .ok (.ifCond .eq 7, 3) := by decide +kernel
theorem dX7_cost_106 : decode cX7_cost 106 = .ok (.iconst 1, 1) := by decide +kernel
theorem dX7_cost_107 : decode cX7_cost 107 = .ok (.goto 4, 3) := by decide +kernel
theorem dX7_cost_110 : decode cX7_cost 110 = .ok (.iconst 0, 1) := by decide +kernel
theorem dX7_cost_111 : decode cX7_cost 111 = .ok (.iadd, 1) := by decide +kernel
theorem dX7_cost_112 : decode cX7_cost 112 = .ok (.istore 4, 2) := by decide +kernel
theorem dX7_cost_114 : decode cX7_cost 114 = .ok (.iinc 5 1, 3) := by decide +kernel
theorem dX7_cost_117 : decode cX7_cost 117 = .ok (.goto (-35), 3) := by decide +kernel
theorem dX7_cost_120 : decode cX7_cost 120 = .ok (.iload 4, 2) := by decide +kernel
theorem dX7_cost_122 : decode cX7_cost 122 = .ok (.ireturn, 1) := by decide +kernel
theorem dX7_costOf_0 : decode cX7_costOf 0 = .ok (.aload_n 0, 1) := by decide +kernel
theorem dX7_costOf_1 : decode cX7_costOf 1 = .ok (.iconst 0, 1) := by decide +kernel
theorem dX7_costOf_2 : decode cX7_costOf 2 = .ok (.putfield 43, 3) := by decide +kernel
theorem dX7_costOf_5 : decode cX7_costOf 5 = .ok (.aload_n 0, 1) := by decide +kernel
theorem dX7_costOf_6 : decode cX7_costOf 6 = .ok (.iload_n 1, 1) := by decide +kernel
theorem dX7_costOf_7 : decode cX7_costOf 7 = .ok (.invokevirtual 56, 3) := by decide +kernel
theorem dX7_costOf_10 : decode cX7_costOf 10 = .ok (.ifCond .eq 11, 3) := by decide +kernel
theorem dX7_costOf_13 : decode cX7_costOf 13 = .ok (.aload_n 0, 1) := by decide +kernel
theorem dX7_costOf_14 : decode cX7_costOf 14 = .ok (.iload_n 2, 1) := by decide +kernel
theorem dX7_costOf_15 : decode cX7_costOf 15 = .ok (.invokevirtual 60, 3) := by decide +kernel
theorem dX7_costOf_18 : decode cX7_costOf 18 = .ok (.ifCond .ne 5, 3) := by decide +kernel
theorem dX7_costOf_21 : decode cX7_costOf 21 = .ok (.iconst (-1), 1) := by decide +kernel
theorem dX7_costOf_22 : decode cX7_costOf 22 = .ok (.ireturn, 1) := by decide +kernel
theorem dX7_costOf_23 : decode cX7_costOf 23 = .ok (.aload_n 0, 1) := by decide +kernel
theorem dX7_costOf_24 : decode cX7_costOf 24 = .ok (.getfield 17, 3) := by decide +kernel
theorem dX7_costOf_27 : decode cX7_costOf 27 = .ok (.bipush 24, 2) := by decide +kernel
theorem dX7_costOf_29 : decode cX7_costOf 29 = .ok (.iload_n 1, 1) := by decide +kernel
theorem dX7_costOf_30 : decode cX7_costOf 30 = .ok (.imul, 1) := by decide +kernel
theorem dX7_costOf_31 : decode cX7_costOf 31 = .ok (.iload_n 2, 1) := by decide +kernel
theorem dX7_costOf_32 : decode cX7_costOf 32 = .ok (.iadd, 1) := by decide +kernel
theorem dX7_costOf_33 : decode cX7_costOf 33 = .ok (.iaload, 1) := by decide +kernel
theorem dX7_costOf_34 : decode cX7_costOf 34 = .ok (.ifCond .ne 8, 3) := by decide +kernel
theorem dX7_costOf_37 : decode cX7_costOf 37 = .ok (.bipush (-3), 2) := by decide +kernel
theorem dX7_costOf_39 : decode cX7_costOf 39 = .ok (.goto 9, 3) := by decide +kernel
theorem dX7_costOf_42 : decode cX7_costOf 42 = .ok (.aload_n 0, 1) := by decide +kernel
theorem dX7_costOf_43 : decode cX7_costOf 43 = .ok (.iload_n 1, 1) := by decide +kernel
theorem dX7_costOf_44 : decode cX7_costOf 44 = .ok (.iload_n 2, 1) := by decide +kernel
theorem dX7_costOf_45 : decode cX7_costOf 45 = .ok (.invokevirtual 65, 3) := by decide +kernel
theorem dX7_costOf_48 : decode cX7_costOf 48 = .ok (.ireturn, 1) := by decide +kernel
theorem dX7_leftMany_0 : decode cX7_leftMany 0 = .ok (.iconst 0, 1) := by decide +kernel
theorem dX7_leftMany_1 : decode cX7_leftMany 1 = .ok (.istore_n 1, 1) := by decide +kernel
theorem dX7_leftMany_2 : decode cX7_leftMany 2 = .ok (.iconst 0, 1) := by decide +kernel
theorem dX7_leftMany_3 : decode cX7_leftMany 3 = .ok (.istore_n 2, 1) := by decide +kernel
theorem dX7_leftMany_4 : decode cX7_leftMany 4 = .ok (.iload_n 2, 1) := by decide +kernel
theorem dX7_leftMany_5 : decode cX7_leftMany 5 = .ok (.aload_n 0, 1) := by decide +kernel
theorem dX7_leftMany_6 : decode cX7_leftMany 6 = .ok (.getfield 69, 3) := by decide +kernel
theorem dX7_leftMany_9 : decode cX7_leftMany 9 = .ok (.if_icmp .ge 26, 3) := by decide +kernel
theorem dX7_leftMany_12 : decode cX7_leftMany 12 = .ok (.iload_n 1, 1) := by decide +kernel
theorem dX7_leftMany_13 : decode cX7_leftMany 13 = .ok (.aload_n 0, 1) := by decide +kernel
theorem dX7_leftMany_14 : decode cX7_leftMany 14 = .ok (.getfield 27, 3) := by decide +kernel
theorem dX7_leftMany_17 : decode cX7_leftMany 17 = .ok (.iload_n 2, 1) := by decide +kernel
theorem dX7_leftMany_18 : decode cX7_leftMany 18 = .ok (.iaload, 1) := by decide +kernel
theorem dX7_leftMany_19 : decode cX7_leftMany 19 = .ok (.ifCond .ne 7, 3) := by decide +kernel
theorem dX7_leftMany_22 : decode cX7_leftMany 22 = .ok (.iconst 1, 1) := by decide +kernel
theorem dX7_leftMany_23 : decode cX7_leftMany 23 = .ok (.goto 4, 3) := by decide +kernel
theorem dX7_leftMany_26 : decode cX7_leftMany 26 = .ok (.iconst 0, 1) := by decide +kernel
theorem dX7_leftMany_27 : decode cX7_leftMany 27 = .ok (.iadd, 1) := by decide +kernel
theorem dX7_leftMany_28 : decode cX7_leftMany 28 = .ok (.istore_n 1, 1) := by decide +kernel
theorem dX7_leftMany_29 : decode cX7_leftMany 29 = .ok (.iinc 2 1, 3) := by decide +kernel
theorem dX7_leftMany_32 : decode cX7_leftMany 32 = .ok (.goto (-28), 3) := by decide +kernel
theorem dX7_leftMany_35 : decode cX7_leftMany 35 = .ok (.iload_n 1, 1) := by decide +kernel
theorem dX7_leftMany_36 : decode cX7_leftMany 36 = .ok (.ireturn, 1) := by decide +kernel
theorem dX7_look_0 : decode cX7_look 0 = .ok (.aload_n 0, 1) := by decide +kernel
theorem dX7_look_1 : decode cX7_look 1 = .ok (.invokevirtual 72, 3) := by decide +kernel
theorem dX7_look_4 : decode cX7_look 4 = .ok (.istore_n 1, 1) := by decide +kernel
theorem dX7_look_5 : decode cX7_look 5 = .ok (.aload_n 0, 1) := by decide +kernel
theorem dX7_look_6 : decode cX7_look 6 = .ok (.iload_n 1, 1) := by decide +kernel
theorem dX7_look_7 : decode cX7_look 7 = .ok (.iconst 1, 1) := by decide +kernel
theorem dX7_look_8 : decode cX7_look 8 = .ok (.if_icmp .eq 11, 3) := by decide +kernel
theorem dX7_look_11 : decode cX7_look 11 = .ok (.iload_n 1, 1) := by decide +kernel
theorem dX7_look_12 : decode cX7_look 12 = .ok (.aload_n 0, 1) := by decide +kernel
theorem dX7_look_13 : decode cX7_look 13 = .ok (.getfield 76, 3) := by decide +kernel
theorem dX7_look_16 : decode cX7_look 16 = .ok (.if_icmp .gt 7, 3) := by decide +kernel
theorem dX7_look_19 : decode cX7_look 19 = .ok (.iconst 1, 1) := by decide +kernel
theorem dX7_look_20 : decode cX7_look 20 = .ok (.goto 36, 3) := by decide +kernel
theorem dX7_look_23 : decode cX7_look 23 = .ok (.aload_n 0, 1) := by decide +kernel
theorem dX7_look_24 : decode cX7_look 24 = .ok (.getfield 79, 3) := by decide +kernel
theorem dX7_look_27 : decode cX7_look 27 = .ok (.aload_n 0, 1) := by decide +kernel
theorem dX7_look_28 : decode cX7_look 28 = .ok (.getfield 82, 3) := by decide +kernel
theorem dX7_look_31 : decode cX7_look 31 = .ok (.if_icmp .ne 7, 3) := by decide +kernel
theorem dX7_look_34 : decode cX7_look 34 = .ok (.iconst 2, 1) := by decide +kernel
theorem dX7_look_35 : decode cX7_look 35 = .ok (.goto 21, 3) := by decide +kernel
theorem dX7_look_38 : decode cX7_look 38 = .ok (.aload_n 0, 1) := by decide +kernel
theorem dX7_look_39 : decode cX7_look 39 = .ok (.getfield 85, 3) := by decide +kernel
theorem dX7_look_42 : decode cX7_look 42 = .ok (.aload_n 0, 1) := by decide +kernel
theorem dX7_look_43 : decode cX7_look 43 = .ok (.getfield 88, 3) := by decide +kernel
theorem dX7_look_46 : decode cX7_look 46 = .ok (.isub, 1) := by decide +kernel
theorem dX7_look_47 : decode cX7_look 47 = .ok (.iload_n 1, 1) := by decide +kernel
theorem dX7_look_48 : decode cX7_look 48 = .ok (.if_icmp .ge 7, 3) := by decide +kernel
theorem dX7_look_51 : decode cX7_look 51 = .ok (.iconst 3, 1) := by decide +kernel
theorem dX7_look_52 : decode cX7_look 52 = .ok (.goto 4, 3) := by decide +kernel
theorem dX7_look_55 : decode cX7_look 55 = .ok (.iconst 0, 1) := by decide +kernel
theorem dX7_look_56 : decode cX7_look 56 = .ok (.putfield 91, 3) := by decide +kernel
theorem dX7_look_59 : decode cX7_look 59 = .ok (.aload_n 0, 1) := by decide +kernel
theorem dX7_look_60 : decode cX7_look 60 = .ok (.iconst 0, 1) := by decide +kernel
theorem dX7_look_61 : decode cX7_look 61 = .ok (.putfield 94, 3) := by decide +kernel
theorem dX7_look_64 : decode cX7_look 64 = .ok (.aload_n 0, 1) := by decide +kernel
theorem dX7_look_65 : decode cX7_look 65 = .ok (.getfield 94, 3) := by decide +kernel
theorem dX7_look_68 : decode cX7_look 68 = .ok (.aload_n 0, 1) := by decide +kernel
theorem dX7_look_69 : decode cX7_look 69 = .ok (.getfield 69, 3) := by decide +kernel
theorem dX7_look_72 : decode cX7_look 72 = .ok (.if_icmp .ge 28, 3) := by decide +kernel
theorem dX7_look_75 : decode cX7_look 75 = .ok (.aload_n 0, 1) := by decide +kernel
theorem dX7_look_76 : decode cX7_look 76 = .ok (.getfield 27, 3) := by decide +kernel
theorem dX7_look_79 : decode cX7_look 79 = .ok (.aload_n 0, 1) := by decide +kernel
theorem dX7_look_80 : decode cX7_look 80 = .ok (.getfield 94, 3) := by decide +kernel
theorem dX7_look_83 : decode cX7_look 83 = .ok (.iaload, 1) := by decide +kernel
theorem dX7_look_84 : decode cX7_look 84 = .ok (.ifCond .eq 16, 3) := by decide +kernel
theorem dX7_look_87 : decode cX7_look 87 = .ok (.aload_n 0, 1) := by decide +kernel
theorem dX7_look_88 : decode cX7_look 88 = .ok (.dup, 1) := by decide +kernel
theorem dX7_look_89 : decode cX7_look 89 = .ok (.getfield 94, 3) := by decide +kernel
theorem dX7_look_92 : decode cX7_look 92 = .ok (.iconst 1, 1) := by decide +kernel
theorem dX7_look_93 : decode cX7_look 93 = .ok (.iadd, 1) := by decide +kernel
theorem dX7_look_94 : decode cX7_look 94 = .ok (.putfield 94, 3) := by decide +kernel
theorem dX7_look_97 : decode cX7_look 97 = .ok (.goto (-33), 3) := by decide +kernel
theorem dX7_look_100 : decode cX7_look 100 = .ok (.return_, 1) := by decide +kernel
theorem dX7_race_0 : decode cX7_race 0 = .ok (.aload_n 0, 1) := by decide +kernel
theorem dX7_race_1 : decode cX7_race 1 = .ok (.iconst 0, 1) := by decide +kernel
theorem dX7_race_2 : decode cX7_race 2 = .ok (.putfield 43, 3) := by decide +kernel
theorem dX7_race_5 : decode cX7_race 5 = .ok (.iload_n 1, 1) := by decide +kernel
theorem dX7_race_6 : decode cX7_race 6 = .ok (.iconst 0, 1) := by decide +kernel
theorem dX7_race_7 : decode cX7_race 7 = .ok (.iconst 1, 1) := by decide +kernel
theorem dX7_race_8 : decode cX7_race 8 = .ok (.invokestatic 49, 3) := by decide +kernel
theorem dX7_race_11 : decode cX7_race 11 = .ok (.ifCond .eq 65, 3) := by decide +kernel
theorem dX7_race_14 : decode cX7_race 14 = .ok (.iload_n 2, 1) := by decide +kernel
theorem dX7_race_15 : decode cX7_race 15 = .ok (.iconst 1, 1) := by decide +kernel
theorem dX7_race_16 : decode cX7_race 16 = .ok (.bipush 24, 2) := by decide +kernel
theorem dX7_race_18 : decode cX7_race 18 = .ok (.invokestatic 49, 3) := by decide +kernel
theorem dX7_race_21 : decode cX7_race 21 = .ok (.ifCond .eq 55, 3) := by decide +kernel
theorem dX7_race_24 : decode cX7_race 24 = .ok (.iload_n 3, 1) := by decide +kernel
theorem dX7_race_25 : decode cX7_race 25 = .ok (.iconst 1, 1) := by decide +kernel
theorem dX7_race_26 : decode cX7_race 26 = .ok (.sipush 1000, 3) := by decide +kernel
theorem dX7_race_29 : decode cX7_race 29 = .ok (.invokestatic 49, 3) := by decide +kernel
theorem dX7_race_32 : decode cX7_race 32 = .ok (.ifCond .eq 44, 3) := by decide +kernel
theorem dX7_race_35 : decode cX7_race 35 = .ok (.iload 4, 2) := by decide +kernel
theorem dX7_race_37 : decode cX7_race 37 = .ok (.iconst 1, 1) := by decide +kernel
theorem dX7_race_38 : decode cX7_race 38 = .ok (.sipush 1000, 3) := by decide +kernel
theorem dX7_race_41 : decode cX7_race 41 = .ok (.invokestatic 49, 3) := by decide +kernel
theorem dX7_race_44 : decode cX7_race 44 = .ok (.ifCond .eq 32, 3) := by decide +kernel
theorem dX7_race_47 : decode cX7_race 47 = .ok (.iload_n 3, 1) := by decide +kernel
theorem dX7_race_48 : decode cX7_race 48 = .ok (.iload 4, 2) := by decide +kernel
theorem dX7_race_50 : decode cX7_race 50 = .ok (.if_icmp .gt 26, 3) := by decide +kernel
theorem dX7_race_53 : decode cX7_race 53 = .ok (.iload 5, 2) := by decide +kernel
theorem dX7_race_55 : decode cX7_race 55 = .ok (.iconst 1, 1) := by decide +kernel
theorem dX7_race_56 : decode cX7_race 56 = .ok (.bipush 12, 2) := by decide +kernel
theorem dX7_race_58 : decode cX7_race 58 = .ok (.invokestatic 49, 3) := by decide +kernel
theorem dX7_race_61 : decode cX7_race 61 = .ok (.ifCond .eq 15, 3) := by decide +kernel
theorem dX7_race_64 : decode cX7_race 64 = .ok (.iload 6, 2) := by decide +kernel
theorem dX7_race_66 : decode cX7_race 66 = .ok (.iconst 0, 1) := by decide +kernel
theorem dX7_race_67 : decode cX7_race 67 = .ok (.sipush 1000, 3) := by decide +kernel
theorem dX7_race_70 : decode cX7_race 70 = .ok (.invokestatic 49, 3) := by decide +kernel
theorem dX7_race_73 : decode cX7_race 73 = .ok (.ifCond .ne 6, 3) := by decide +kernel
theorem dX7_race_76 : decode cX7_race 76 = .ok (.bipush (-2), 2) := by decide +kernel
theorem dX7_race_78 : decode cX7_race 78 = .ok (.ireturn, 1) := by decide +kernel
theorem dX7_race_79 : decode cX7_race 79 = .ok (.aload_n 0, 1) := by decide +kernel
theorem dX7_race_80 : decode cX7_race 80 = .ok (.getfield 46, 3) := by decide +kernel
theorem dX7_race_83 : decode cX7_race 83 = .ok (.ifCond .ne 6, 3) := by decide +kernel
theorem dX7_race_86 : decode cX7_race 86 = .ok (.bipush (-3), 2) := by decide +kernel
theorem dX7_race_88 : decode cX7_race 88 = .ok (.ireturn, 1) := by decide +kernel
theorem dX7_race_89 : decode cX7_race 89 = .ok (.aload_n 0, 1) := by decide +kernel
theorem dX7_race_90 : decode cX7_race 90 = .ok (.iload_n 1, 1) := by decide +kernel
theorem dX7_race_91 : decode cX7_race 91 = .ok (.putfield 20, 3) := by decide +kernel
theorem dX7_race_94 : decode cX7_race 94 = .ok (.aload_n 0, 1) := by decide +kernel
theorem dX7_race_95 : decode cX7_race 95 = .ok (.iload_n 2, 1) := by decide +kernel
theorem dX7_race_96 : decode cX7_race 96 = .ok (.putfield 97, 3) := by decide +kernel
theorem dX7_race_99 : decode cX7_race 99 = .ok (.aload_n 0, 1) := by decide +kernel
theorem dX7_race_100 : decode cX7_race 100 = .ok (.iload_n 3, 1) := by decide +kernel
theorem dX7_race_101 : decode cX7_race 101 = .ok (.putfield 100, 3) := by decide +kernel
theorem dX7_race_104 : decode cX7_race 104 = .ok (.aload_n 0, 1) := by decide +kernel
theorem dX7_race_105 : decode cX7_race 105 = .ok (.iload 4, 2) := by decide +kernel
theorem dX7_race_107 : decode cX7_race 107 = .ok (.putfield 103, 3) := by decide +kernel
theorem dX7_race_110 : decode cX7_race 110 = .ok (.aload_n 0, 1) := by decide +kernel
theorem dX7_race_111 : decode cX7_race 111 = .ok (.iload 5, 2) := by decide +kernel
theorem dX7_race_113 : decode cX7_race 113 = .ok (.putfield 76, 3) := by decide +kernel
theorem dX7_race_116 : decode cX7_race 116 = .ok (.aload_n 0, 1) := by decide +kernel
theorem dX7_race_117 : decode cX7_race 117 = .ok (.iload 6, 2) := by decide +kernel
theorem dX7_race_119 : decode cX7_race 119 = .ok (.putfield 85, 3) := by decide +kernel
theorem dX7_race_122 : decode cX7_race 122 = .ok (.aload_n 0, 1) := by decide +kernel
theorem dX7_race_123 : decode cX7_race 123 = .ok (.aload_n 0, 1) := by decide +kernel
theorem dX7_race_124 : decode cX7_race 124 = .ok (.getfield 46, 3) := by decide +kernel
theorem dX7_race_127 : decode cX7_race 127 = .ok (.putfield 69, 3) := by decide +kernel
theorem dX7_race_130 : decode cX7_race 130 = .ok (.aload_n 0, 1) := by decide +kernel
theorem dX7_race_131 : decode cX7_race 131 = .ok (.iconst 0, 1) := by decide +kernel
theorem dX7_race_132 : decode cX7_race 132 = .ok (.putfield 82, 3) := by decide +kernel
theorem dX7_race_135 : decode cX7_race 135 = .ok (.iconst 0, 1) := by decide +kernel
theorem dX7_race_136 : decode cX7_race 136 = .ok (.istore 8, 2) := by decide +kernel
theorem dX7_race_138 : decode cX7_race 138 = .ok (.iload 8, 2) := by decide +kernel
theorem dX7_race_140 : decode cX7_race 140 = .ok (.aload_n 0, 1) := by decide +kernel
theorem dX7_race_141 : decode cX7_race 141 = .ok (.getfield 53, 3) := by decide +kernel
theorem dX7_race_144 : decode cX7_race 144 = .ok (.if_icmp .ge 40, 3) := by decide +kernel
theorem dX7_race_147 : decode cX7_race 147 = .ok (.aload_n 0, 1) := by decide +kernel
theorem dX7_race_148 : decode cX7_race 148 = .ok (.getfield 13, 3) := by decide +kernel
theorem dX7_race_151 : decode cX7_race 151 = .ok (.iload 8, 2) := by decide +kernel
theorem dX7_race_153 : decode cX7_race 153 = .ok (.baload, 1) := by decide +kernel
theorem dX7_race_154 : decode cX7_race 154 = .ok (.ifCond .ne 24, 3) := by decide +kernel
theorem dX7_race_157 : decode cX7_race 157 = .ok (.aload_n 0, 1) := by decide +kernel
theorem dX7_race_158 : decode cX7_race 158 = .ok (.getfield 24, 3) := by decide +kernel
theorem dX7_race_161 : decode cX7_race 161 = .ok (.aload_n 0, 1) := by decide +kernel
theorem dX7_race_162 : decode cX7_race 162 = .ok (.getfield 82, 3) := by decide +kernel
theorem dX7_race_165 : decode cX7_race 165 = .ok (.iload 8, 2) := by decide +kernel
theorem dX7_race_167 : decode cX7_race 167 = .ok (.iastore, 1) := by decide +kernel
theorem dX7_race_168 : decode cX7_race 168 = .ok (.aload_n 0, 1) := by decide +kernel
theorem dX7_race_169 : decode cX7_race 169 = .ok (.dup, 1) := by decide +kernel
theorem dX7_race_170 : decode cX7_race 170 = .ok (.getfield 82, 3) := by decide +kernel
theorem dX7_race_173 : decode cX7_race 173 = .ok (.iconst 1, 1) := by decide +kernel
theorem dX7_race_174 : decode cX7_race 174 = .ok (.iadd, 1) := by decide +kernel
theorem dX7_race_175 : decode cX7_race 175 = .ok (.putfield 82, 3) := by decide +kernel
theorem dX7_race_178 : decode cX7_race 178 = .ok (.iinc 8 1, 3) := by decide +kernel
theorem dX7_race_181 : decode cX7_race 181 = .ok (.goto (-43), 3) := by decide +kernel
theorem dX7_race_184 : decode cX7_race 184 = .ok (.iload 7, 2) := by decide +kernel
theorem dX7_race_186 : decode cX7_race 186 = .ok (.istore 8, 2) := by decide +kernel
theorem dX7_race_188 : decode cX7_race 188 = .ok (.aload_n 0, 1) := by decide +kernel
theorem dX7_race_189 : decode cX7_race 189 = .ok (.getfield 82, 3) := by decide +kernel
theorem dX7_race_192 : decode cX7_race 192 = .ok (.iconst 1, 1) := by decide +kernel
theorem dX7_race_193 : decode cX7_race 193 = .ok (.isub, 1) := by decide +kernel
theorem dX7_race_194 : decode cX7_race 194 = .ok (.istore 9, 2) := by decide +kernel
theorem dX7_race_196 : decode cX7_race 196 = .ok (.iload 9, 2) := by decide +kernel
theorem dX7_race_198 : decode cX7_race 198 = .ok (.ifCond .le 64, 3) := by decide +kernel
theorem dX7_race_201 : decode cX7_race 201 = .ok (.iload 8, 2) := by decide +kernel
theorem dX7_race_203 : decode cX7_race 203 = .ok (.ldc 106, 2) := by decide +kernel
theorem dX7_race_205 : decode cX7_race 205 = .ok (.imul, 1) := by decide +kernel
theorem dX7_race_206 : decode cX7_race 206 = .ok (.sipush 12345, 3) := by decide +kernel
theorem dX7_race_209 : decode cX7_race 209 = .ok (.iadd, 1) := by decide +kernel
theorem dX7_race_210 : decode cX7_race 210 = .ok (.istore 8, 2) := by decide +kernel
theorem dX7_race_212 : decode cX7_race 212 = .ok (.iload 8, 2) := by decide +kernel
theorem dX7_race_214 : decode cX7_race 214 = .ok (.bipush 16, 2) := by decide +kernel
theorem dX7_race_216 : decode cX7_race 216 = .ok (.iushr, 1) := by decide +kernel
theorem dX7_race_217 : decode cX7_race 217 = .ok (.iload 9, 2) := by decide +kernel
theorem dX7_race_219 : decode cX7_race 219 = .ok (.iconst 1, 1) := by decide +kernel
theorem dX7_race_220 : decode cX7_race 220 = .ok (.iadd, 1) := by decide +kernel
theorem dX7_race_221 : decode cX7_race 221 = .ok (.irem, 1) := by decide +kernel
theorem dX7_race_222 : decode cX7_race 222 = .ok (.istore 10, 2) := by decide +kernel
theorem dX7_race_224 : decode cX7_race 224 = .ok (.aload_n 0, 1) := by decide +kernel
theorem dX7_race_225 : decode cX7_race 225 = .ok (.getfield 24, 3) := by decide +kernel
theorem dX7_race_228 : decode cX7_race 228 = .ok (.iload 9, 2) := by decide +kernel
theorem dX7_race_230 : decode cX7_race 230 = .ok (.iaload, 1) := by decide +kernel
theorem dX7_race_231 : decode cX7_race 231 = .ok (.istore 11, 2) := by decide +kernel
theorem dX7_race_233 : decode cX7_race 233 = .ok (.aload_n 0, 1) := by decide +kernel
theorem dX7_race_234 : decode cX7_race 234 = .ok (.getfield 24, 3) := by decide +kernel
theorem dX7_race_237 : decode cX7_race 237 = .ok (.iload 9, 2) := by decide +kernel
theorem dX7_race_239 : decode cX7_race 239 = .ok (.aload_n 0, 1) := by decide +kernel
theorem dX7_race_240 : decode cX7_race 240 = .ok (.getfield 24, 3) := by decide +kernel
theorem dX7_race_243 : decode cX7_race 243 = .ok (.iload 10, 2) := by decide +kernel
theorem dX7_race_245 : decode cX7_race 245 = .ok (.iaload, 1) := by decide +kernel
theorem dX7_race_246 : decode cX7_race 246 = .ok (.iastore, 1) := by decide +kernel
theorem dX7_race_247 : decode cX7_race 247 = .ok (.aload_n 0, 1) := by decide +kernel
theorem dX7_race_248 : decode cX7_race 248 = .ok (.getfield 24, 3) := by decide +kernel
theorem dX7_race_251 : decode cX7_race 251 = .ok (.iload 10, 2) := by decide +kernel
theorem dX7_race_253 : decode cX7_race 253 = .ok (.iload 11, 2) := by decide +kernel
theorem dX7_race_255 : decode cX7_race 255 = .ok (.iastore, 1) := by decide +kernel
theorem dX7_race_256 : decode cX7_race 256 = .ok (.iinc 9 (-1), 3) := by decide +kernel
theorem dX7_race_259 : decode cX7_race 259 = .ok (.goto (-63), 3) := by decide +kernel
theorem dX7_race_262 : decode cX7_race 262 = .ok (.aload_n 0, 1) := by decide +kernel
theorem dX7_race_263 : decode cX7_race 263 = .ok (.iconst 0, 1) := by decide +kernel
theorem dX7_race_264 : decode cX7_race 264 = .ok (.putfield 79, 3) := by decide +kernel
theorem dX7_race_267 : decode cX7_race 267 = .ok (.aload_n 0, 1) := by decide +kernel
theorem dX7_race_268 : decode cX7_race 268 = .ok (.iconst 0, 1) := by decide +kernel
theorem dX7_race_269 : decode cX7_race 269 = .ok (.putfield 88, 3) := by decide +kernel
theorem dX7_race_272 : decode cX7_race 272 = .ok (.iconst 0, 1) := by decide +kernel
theorem dX7_race_273 : decode cX7_race 273 = .ok (.istore 9, 2) := by decide +kernel
theorem dX7_race_275 : decode cX7_race 275 = .ok (.iload 9, 2) := by decide +kernel
theorem dX7_race_277 : decode cX7_race 277 = .ok (.bipush 12, 2) := by decide +kernel
theorem dX7_race_279 : decode cX7_race 279 = .ok (.if_icmp .ge 17, 3) := by decide +kernel
theorem dX7_race_282 : decode cX7_race 282 = .ok (.aload_n 0, 1) := by decide +kernel
theorem dX7_race_283 : decode cX7_race 283 = .ok (.getfield 27, 3) := by decide +kernel
theorem dX7_race_286 : decode cX7_race 286 = .ok (.iload 9, 2) := by decide +kernel
theorem dX7_race_288 : decode cX7_race 288 = .ok (.iconst 0, 1) := by decide +kernel
theorem dX7_race_289 : decode cX7_race 289 = .ok (.iastore, 1) := by decide +kernel
theorem dX7_race_290 : decode cX7_race 290 = .ok (.iinc 9 1, 3) := by decide +kernel
theorem dX7_race_293 : decode cX7_race 293 = .ok (.goto (-18), 3) := by decide +kernel
theorem dX7_race_296 : decode cX7_race 296 = .ok (.aload_n 0, 1) := by decide +kernel
theorem dX7_race_297 : decode cX7_race 297 = .ok (.invokevirtual 107, 3) := by decide +kernel
theorem dX7_race_300 : decode cX7_race 300 = .ok (.aload_n 0, 1) := by decide +kernel
theorem dX7_race_301 : decode cX7_race 301 = .ok (.getfield 69, 3) := by decide +kernel
theorem dX7_race_304 : decode cX7_race 304 = .ok (.ireturn, 1) := by decide +kernel
theorem dX7_isOn_0 : decode cX7_isOn 0 = .ok (.aload_n 0, 1) := by decide +kernel
theorem dX7_isOn_1 : decode cX7_isOn 1 = .ok (.getfield 20, 3) := by decide +kernel
theorem dX7_isOn_4 : decode cX7_isOn 4 = .ok (.ifCond .lt 14, 3) := by decide +kernel
theorem dX7_isOn_7 : decode cX7_isOn 7 = .ok (.aload_n 0, 1) := by decide +kernel
theorem dX7_isOn_8 : decode cX7_isOn 8 = .ok (.getfield 91, 3) := by decide +kernel
theorem dX7_isOn_11 : decode cX7_isOn 11 = .ok (.ifCond .ne 7, 3) := by decide +kernel
theorem dX7_isOn_14 : decode cX7_isOn 14 = .ok (.iconst 1, 1) := by decide +kernel
theorem dX7_isOn_15 : decode cX7_isOn 15 = .ok (.goto 4, 3) := by decide +kernel
theorem dX7_isOn_18 : decode cX7_isOn 18 = .ok (.iconst 0, 1) := by decide +kernel
theorem dX7_isOn_19 : decode cX7_isOn 19 = .ok (.ireturn, 1) := by decide +kernel
theorem dX7_wants_0 : decode cX7_wants 0 = .ok (.aload_n 0, 1) := by decide +kernel
theorem dX7_wants_1 : decode cX7_wants 1 = .ok (.iconst 0, 1) := by decide +kernel
theorem dX7_wants_2 : decode cX7_wants 2 = .ok (.putfield 43, 3) := by decide +kernel
theorem dX7_wants_5 : decode cX7_wants 5 = .ok (.iload_n 1, 1) := by decide +kernel
theorem dX7_wants_6 : decode cX7_wants 6 = .ok (.iconst 0, 1) := by decide +kernel
theorem dX7_wants_7 : decode cX7_wants 7 = .ok (.iconst 1, 1) := by decide +kernel
theorem dX7_wants_8 : decode cX7_wants 8 = .ok (.invokestatic 49, 3) := by decide +kernel
theorem dX7_wants_11 : decode cX7_wants 11 = .ok (.ifCond .ne 6, 3) := by decide +kernel
theorem dX7_wants_14 : decode cX7_wants 14 = .ok (.bipush (-2), 2) := by decide +kernel
theorem dX7_wants_16 : decode cX7_wants 16 = .ok (.ireturn, 1) := by decide +kernel
theorem dX7_wants_17 : decode cX7_wants 17 = .ok (.aload_n 0, 1) := by decide +kernel
theorem dX7_wants_18 : decode cX7_wants 18 = .ok (.invokevirtual 110, 3) := by decide +kernel
theorem dX7_wants_21 : decode cX7_wants 21 = .ok (.ifCond .ne 8, 3) := by decide +kernel
theorem dX7_wants_24 : decode cX7_wants 24 = .ok (.bipush (-3), 2) := by decide +kernel
theorem dX7_wants_26 : decode cX7_wants 26 = .ok (.goto 23, 3) := by decide +kernel
theorem dX7_wants_29 : decode cX7_wants 29 = .ok (.iload_n 1, 1) := by decide +kernel
theorem dX7_wants_30 : decode cX7_wants 30 = .ok (.ifCond .ne 10, 3) := by decide +kernel
theorem dX7_wants_33 : decode cX7_wants 33 = .ok (.aload_n 0, 1) := by decide +kernel
theorem dX7_wants_34 : decode cX7_wants 34 = .ok (.getfield 94, 3) := by decide +kernel
theorem dX7_wants_37 : decode cX7_wants 37 = .ok (.goto 12, 3) := by decide +kernel
theorem dX7_wants_40 : decode cX7_wants 40 = .ok (.aload_n 0, 1) := by decide +kernel
theorem dX7_wants_41 : decode cX7_wants 41 = .ok (.getfield 24, 3) := by decide +kernel
theorem dX7_wants_44 : decode cX7_wants 44 = .ok (.aload_n 0, 1) := by decide +kernel
theorem dX7_wants_45 : decode cX7_wants 45 = .ok (.getfield 79, 3) := by decide +kernel
theorem dX7_wants_48 : decode cX7_wants 48 = .ok (.iaload, 1) := by decide +kernel
theorem dX7_wants_49 : decode cX7_wants 49 = .ok (.ireturn, 1) := by decide +kernel
theorem dX7_run_0 : decode cX7_run 0 = .ok (.aload_n 0, 1) := by decide +kernel
theorem dX7_run_1 : decode cX7_run 1 = .ok (.iconst 0, 1) := by decide +kernel
theorem dX7_run_2 : decode cX7_run 2 = .ok (.putfield 43, 3) := by decide +kernel
theorem dX7_run_5 : decode cX7_run 5 = .ok (.aload_n 0, 1) := by decide +kernel
theorem dX7_run_6 : decode cX7_run 6 = .ok (.invokevirtual 110, 3) := by decide +kernel
theorem dX7_run_9 : decode cX7_run 9 = .ok (.ifCond .eq 28, 3) := by decide +kernel
theorem dX7_run_12 : decode cX7_run 12 = .ok (.aload_n 0, 1) := by decide +kernel
theorem dX7_run_13 : decode cX7_run 13 = .ok (.getfield 17, 3) := by decide +kernel
theorem dX7_run_16 : decode cX7_run 16 = .ok (.bipush 24, 2) := by decide +kernel
theorem dX7_run_18 : decode cX7_run 18 = .ok (.aload_n 0, 1) := by decide +kernel
theorem dX7_run_19 : decode cX7_run 19 = .ok (.getfield 94, 3) := by decide +kernel
theorem dX7_run_22 : decode cX7_run 22 = .ok (.imul, 1) := by decide +kernel
theorem dX7_run_23 : decode cX7_run 23 = .ok (.aload_n 0, 1) := by decide +kernel
theorem dX7_run_24 : decode cX7_run 24 = .ok (.getfield 24, 3) := by decide +kernel
theorem dX7_run_27 : decode cX7_run 27 = .ok (.aload_n 0, 1) := by decide +kernel
theorem dX7_run_28 : decode cX7_run 28 = .ok (.getfield 79, 3) := by decide +kernel
theorem dX7_run_31 : decode cX7_run 31 = .ok (.iaload, 1) := by decide +kernel
theorem dX7_run_32 : decode cX7_run 32 = .ok (.iadd, 1) := by decide +kernel
theorem dX7_run_33 : decode cX7_run 33 = .ok (.iaload, 1) := by decide +kernel
theorem dX7_run_34 : decode cX7_run 34 = .ok (.ifCond .ne 6, 3) := by decide +kernel
theorem dX7_run_37 : decode cX7_run 37 = .ok (.bipush (-3), 2) := by decide +kernel
theorem dX7_run_39 : decode cX7_run 39 = .ok (.ireturn, 1) := by decide +kernel
theorem dX7_run_40 : decode cX7_run 40 = .ok (.aload_n 0, 1) := by decide +kernel
theorem dX7_run_41 : decode cX7_run 41 = .ok (.dup, 1) := by decide +kernel
theorem dX7_run_42 : decode cX7_run 42 = .ok (.getfield 88, 3) := by decide +kernel
theorem dX7_run_45 : decode cX7_run 45 = .ok (.iconst 1, 1) := by decide +kernel
theorem dX7_run_46 : decode cX7_run 46 = .ok (.iadd, 1) := by decide +kernel
theorem dX7_run_47 : decode cX7_run 47 = .ok (.putfield 88, 3) := by decide +kernel
theorem dX7_run_50 : decode cX7_run 50 = .ok (.aload_n 0, 1) := by decide +kernel
theorem dX7_run_51 : decode cX7_run 51 = .ok (.dup, 1) := by decide +kernel
theorem dX7_run_52 : decode cX7_run 52 = .ok (.getfield 94, 3) := by decide +kernel
theorem dX7_run_55 : decode cX7_run 55 = .ok (.iconst 1, 1) := by decide +kernel
theorem dX7_run_56 : decode cX7_run 56 = .ok (.iadd, 1) := by decide +kernel
theorem dX7_run_57 : decode cX7_run 57 = .ok (.putfield 94, 3) := by decide +kernel
theorem dX7_run_60 : decode cX7_run 60 = .ok (.aload_n 0, 1) := by decide +kernel
theorem dX7_run_61 : decode cX7_run 61 = .ok (.getfield 94, 3) := by decide +kernel
theorem dX7_run_64 : decode cX7_run 64 = .ok (.aload_n 0, 1) := by decide +kernel
theorem dX7_run_65 : decode cX7_run 65 = .ok (.getfield 69, 3) := by decide +kernel
theorem dX7_run_68 : decode cX7_run 68 = .ok (.if_icmp .ge 28, 3) := by decide +kernel
theorem dX7_run_71 : decode cX7_run 71 = .ok (.aload_n 0, 1) := by decide +kernel
theorem dX7_run_72 : decode cX7_run 72 = .ok (.getfield 27, 3) := by decide +kernel
theorem dX7_run_75 : decode cX7_run 75 = .ok (.aload_n 0, 1) := by decide +kernel
theorem dX7_run_76 : decode cX7_run 76 = .ok (.getfield 94, 3) := by decide +kernel
theorem dX7_run_79 : decode cX7_run 79 = .ok (.iaload, 1) := by decide +kernel
theorem dX7_run_80 : decode cX7_run 80 = .ok (.ifCond .eq 16, 3) := by decide +kernel
theorem dX7_run_83 : decode cX7_run 83 = .ok (.aload_n 0, 1) := by decide +kernel
theorem dX7_run_84 : decode cX7_run 84 = .ok (.dup, 1) := by decide +kernel
theorem dX7_run_85 : decode cX7_run 85 = .ok (.getfield 94, 3) := by decide +kernel
theorem dX7_run_88 : decode cX7_run 88 = .ok (.iconst 1, 1) := by decide +kernel
theorem dX7_run_89 : decode cX7_run 89 = .ok (.iadd, 1) := by decide +kernel
theorem dX7_run_90 : decode cX7_run 90 = .ok (.putfield 94, 3) := by decide +kernel
theorem dX7_run_93 : decode cX7_run 93 = .ok (.goto (-33), 3) := by decide +kernel
theorem dX7_run_96 : decode cX7_run 96 = .ok (.aload_n 0, 1) := by decide +kernel
theorem dX7_run_97 : decode cX7_run 97 = .ok (.getfield 94, 3) := by decide +kernel
theorem dX7_run_100 : decode cX7_run 100 = .ok (.aload_n 0, 1) := by decide +kernel
theorem dX7_run_101 : decode cX7_run 101 = .ok (.getfield 69, 3) := by decide +kernel
theorem dX7_run_104 : decode cX7_run 104 = .ok (.if_icmp .ne 32, 3) := by decide +kernel
theorem dX7_run_107 : decode cX7_run 107 = .ok (.aload_n 0, 1) := by decide +kernel
theorem dX7_run_108 : decode cX7_run 108 = .ok (.dup, 1) := by decide +kernel
theorem dX7_run_109 : decode cX7_run 109 = .ok (.getfield 79, 3) := by decide +kernel
theorem dX7_run_112 : decode cX7_run 112 = .ok (.iconst 1, 1) := by decide +kernel
theorem dX7_run_113 : decode cX7_run 113 = .ok (.iadd, 1) := by decide +kernel
theorem dX7_run_114 : decode cX7_run 114 = .ok (.putfield 79, 3) := by decide +kernel
theorem dX7_run_117 : decode cX7_run 117 = .ok (.aload_n 0, 1) := by decide +kernel
theorem dX7_run_118 : decode cX7_run 118 = .ok (.getfield 79, 3) := by decide +kernel
theorem dX7_run_121 : decode cX7_run 121 = .ok (.aload_n 0, 1) := by decide +kernel
theorem dX7_run_122 : decode cX7_run 122 = .ok (.getfield 97, 3) := by decide +kernel
theorem dX7_run_125 : decode cX7_run 125 = .ok (.if_icmp .lt 7, 3) := by decide +kernel
theorem dX7_run_128 : decode cX7_run 128 = .ok (.aload_n 0, 1) := by decide +kernel
theorem dX7_run_129 : decode cX7_run 129 = .ok (.invokevirtual 114, 3) := by decide +kernel
theorem dX7_run_132 : decode cX7_run 132 = .ok (.aload_n 0, 1) := by decide +kernel
theorem dX7_run_133 : decode cX7_run 133 = .ok (.invokevirtual 107, 3) := by decide +kernel
theorem dX7_run_136 : decode cX7_run 136 = .ok (.aload_n 0, 1) := by decide +kernel
theorem dX7_run_137 : decode cX7_run 137 = .ok (.getfield 88, 3) := by decide +kernel
theorem dX7_run_140 : decode cX7_run 140 = .ok (.ireturn, 1) := by decide +kernel
theorem dX7_rankOf_0 : decode cX7_rankOf 0 = .ok (.iconst 0, 1) := by decide +kernel
theorem dX7_rankOf_1 : decode cX7_rankOf 1 = .ok (.istore_n 2, 1) := by decide +kernel
theorem dX7_rankOf_2 : decode cX7_rankOf 2 = .ok (.iconst 0, 1) := by decide +kernel
theorem dX7_rankOf_3 : decode cX7_rankOf 3 = .ok (.istore_n 3, 1) := by decide +kernel
theorem dX7_rankOf_4 : decode cX7_rankOf 4 = .ok (.iload_n 3, 1) := by decide +kernel
theorem dX7_rankOf_5 : decode cX7_rankOf 5 = .ok (.aload_n 0, 1) := by decide +kernel
theorem dX7_rankOf_6 : decode cX7_rankOf 6 = .ok (.getfield 79, 3) := by decide +kernel
theorem dX7_rankOf_9 : decode cX7_rankOf 9 = .ok (.if_icmp .ge 96, 3) := by decide +kernel
theorem dX7_rankOf_12 : decode cX7_rankOf 12 = .ok (.aload_n 0, 1) := by decide +kernel
theorem dX7_rankOf_13 : decode cX7_rankOf 13 = .ok (.iload_n 1, 1) := by decide +kernel
theorem dX7_rankOf_14 : decode cX7_rankOf 14 = .ok (.aload_n 0, 1) := by decide +kernel
theorem dX7_rankOf_15 : decode cX7_rankOf 15 = .ok (.getfield 24, 3) := by decide +kernel
theorem dX7_rankOf_18 : decode cX7_rankOf 18 = .ok (.iload_n 3, 1) := by decide +kernel
theorem dX7_rankOf_19 : decode cX7_rankOf 19 = .ok (.iaload, 1) := by decide +kernel
theorem dX7_rankOf_20 : decode cX7_rankOf 20 = .ok (.invokevirtual 65, 3) := by decide +kernel
theorem dX7_rankOf_23 : decode cX7_rankOf 23 = .ok (.istore 4, 2) := by decide +kernel
theorem dX7_rankOf_25 : decode cX7_rankOf 25 = .ok (.iconst 0, 1) := by decide +kernel
theorem dX7_rankOf_26 : decode cX7_rankOf 26 = .ok (.istore 5, 2) := by decide +kernel
theorem dX7_rankOf_28 : decode cX7_rankOf 28 = .ok (.iload 5, 2) := by decide +kernel
theorem dX7_rankOf_30 : decode cX7_rankOf 30 = .ok (.aload_n 0, 1) := by decide +kernel
theorem dX7_rankOf_31 : decode cX7_rankOf 31 = .ok (.getfield 69, 3) := by decide +kernel
theorem dX7_rankOf_34 : decode cX7_rankOf 34 = .ok (.if_icmp .ge 65, 3) := by decide +kernel
theorem dX7_rankOf_37 : decode cX7_rankOf 37 = .ok (.iload 5, 2) := by decide +kernel
theorem dX7_rankOf_39 : decode cX7_rankOf 39 = .ok (.iload_n 1, 1) := by decide +kernel
theorem dX7_rankOf_40 : decode cX7_rankOf 40 = .ok (.if_icmp .eq 53, 3) := by decide +kernel
theorem dX7_rankOf_43 : decode cX7_rankOf 43 = .ok (.aload_n 0, 1) := by decide +kernel
theorem dX7_rankOf_44 : decode cX7_rankOf 44 = .ok (.getfield 27, 3) := by decide +kernel
theorem dX7_rankOf_47 : decode cX7_rankOf 47 = .ok (.iload 5, 2) := by decide +kernel
theorem dX7_rankOf_49 : decode cX7_rankOf 49 = .ok (.iaload, 1) := by decide +kernel
theorem dX7_rankOf_50 : decode cX7_rankOf 50 = .ok (.ifCond .ne 43, 3) := by decide +kernel
theorem dX7_rankOf_53 : decode cX7_rankOf 53 = .ok (.aload_n 0, 1) := by decide +kernel
theorem dX7_rankOf_54 : decode cX7_rankOf 54 = .ok (.iload 5, 2) := by decide +kernel
theorem dX7_rankOf_56 : decode cX7_rankOf 56 = .ok (.aload_n 0, 1) := by decide +kernel
theorem dX7_rankOf_57 : decode cX7_rankOf 57 = .ok (.getfield 24, 3) := by decide +kernel
theorem dX7_rankOf_60 : decode cX7_rankOf 60 = .ok (.iload_n 3, 1) := by decide +kernel
theorem dX7_rankOf_61 : decode cX7_rankOf 61 = .ok (.iaload, 1) := by decide +kernel
theorem dX7_rankOf_62 : decode cX7_rankOf 62 = .ok (.invokevirtual 65, 3) := by decide +kernel
theorem dX7_rankOf_65 : decode cX7_rankOf 65 = .ok (.istore 6, 2) := by decide +kernel
theorem dX7_rankOf_67 : decode cX7_rankOf 67 = .ok (.iload_n 2, 1) := by decide +kernel
theorem dX7_rankOf_68 : decode cX7_rankOf 68 = .ok (.iload 6, 2) := by decide +kernel
theorem dX7_rankOf_70 : decode cX7_rankOf 70 = .ok (.iload 4, 2) := by decide +kernel
theorem dX7_rankOf_72 : decode cX7_rankOf 72 = .ok (.if_icmp .ge 7, 3) := by decide +kernel
theorem dX7_rankOf_75 : decode cX7_rankOf 75 = .ok (.iconst 2, 1) := by decide +kernel
theorem dX7_rankOf_76 : decode cX7_rankOf 76 = .ok (.goto 15, 3) := by decide +kernel
theorem dX7_rankOf_79 : decode cX7_rankOf 79 = .ok (.iload 6, 2) := by decide +kernel
theorem dX7_rankOf_81 : decode cX7_rankOf 81 = .ok (.iload 4, 2) := by decide +kernel
theorem dX7_rankOf_83 : decode cX7_rankOf 83 = .ok (.if_icmp .ne 7, 3) := by decide +kernel
theorem dX7_rankOf_86 : decode cX7_rankOf 86 = .ok (.iconst 1, 1) := by decide +kernel
theorem dX7_rankOf_87 : decode cX7_rankOf 87 = .ok (.goto 4, 3) := by decide +kernel
theorem dX7_rankOf_90 : decode cX7_rankOf 90 = .ok (.iconst 0, 1) := by decide +kernel
theorem dX7_rankOf_91 : decode cX7_rankOf 91 = .ok (.iadd, 1) := by decide +kernel
theorem dX7_rankOf_92 : decode cX7_rankOf 92 = .ok (.istore_n 2, 1) := by decide +kernel
theorem dX7_rankOf_93 : decode cX7_rankOf 93 = .ok (.iinc 5 1, 3) := by decide +kernel
theorem dX7_rankOf_96 : decode cX7_rankOf 96 = .ok (.goto (-68), 3) := by decide +kernel
theorem dX7_rankOf_99 : decode cX7_rankOf 99 = .ok (.iinc 3 1, 3) := by decide +kernel
theorem dX7_rankOf_102 : decode cX7_rankOf 102 = .ok (.goto (-98), 3) := by decide +kernel
theorem dX7_rankOf_105 : decode cX7_rankOf 105 = .ok (.iload_n 2, 1) := by decide +kernel
theorem dX7_rankOf_106 : decode cX7_rankOf 106 = .ok (.ireturn, 1) := by decide +kernel
theorem dX7_leader_0 : decode cX7_leader 0 = .ok (.iconst (-1), 1) := by decide +kernel
theorem dX7_leader_1 : decode cX7_leader 1 = .ok (.istore_n 1, 1) := by decide +kernel
theorem dX7_leader_2 : decode cX7_leader 2 = .ok (.iconst 0, 1) := by decide +kernel
theorem dX7_leader_3 : decode cX7_leader 3 = .ok (.istore_n 2, 1) := by decide +kernel
theorem dX7_leader_4 : decode cX7_leader 4 = .ok (.iload_n 2, 1) := by decide +kernel
theorem dX7_leader_5 : decode cX7_leader 5 = .ok (.aload_n 0, 1) := by decide +kernel
theorem dX7_leader_6 : decode cX7_leader 6 = .ok (.getfield 69, 3) := by decide +kernel
theorem dX7_leader_9 : decode cX7_leader 9 = .ok (.if_icmp .ge 41, 3) := by decide +kernel
theorem dX7_leader_12 : decode cX7_leader 12 = .ok (.aload_n 0, 1) := by decide +kernel
theorem dX7_leader_13 : decode cX7_leader 13 = .ok (.getfield 27, 3) := by decide +kernel
theorem dX7_leader_16 : decode cX7_leader 16 = .ok (.iload_n 2, 1) := by decide +kernel
theorem dX7_leader_17 : decode cX7_leader 17 = .ok (.iaload, 1) := by decide +kernel
theorem dX7_leader_18 : decode cX7_leader 18 = .ok (.ifCond .ne 24, 3) := by decide +kernel
theorem dX7_leader_21 : decode cX7_leader 21 = .ok (.iload_n 1, 1) := by decide +kernel
theorem dX7_leader_22 : decode cX7_leader 22 = .ok (.ifCond .lt 16, 3) := by decide +kernel
theorem dX7_leader_25 : decode cX7_leader 25 = .ok (.aload_n 0, 1) := by decide +kernel
theorem dX7_leader_26 : decode cX7_leader 26 = .ok (.iload_n 2, 1) := by decide +kernel
theorem dX7_leader_27 : decode cX7_leader 27 = .ok (.invokevirtual 117, 3) := by decide +kernel
theorem dX7_leader_30 : decode cX7_leader 30 = .ok (.aload_n 0, 1) := by decide +kernel
theorem dX7_leader_31 : decode cX7_leader 31 = .ok (.iload_n 1, 1) := by decide +kernel
theorem dX7_leader_32 : decode cX7_leader 32 = .ok (.invokevirtual 117, 3) := by decide +kernel
theorem dX7_leader_35 : decode cX7_leader 35 = .ok (.if_icmp .ge 7, 3) := by decide +kernel
theorem dX7_leader_38 : decode cX7_leader 38 = .ok (.iload_n 2, 1) := by decide +kernel
theorem dX7_leader_39 : decode cX7_leader 39 = .ok (.goto 4, 3) := by decide +kernel
theorem dX7_leader_42 : decode cX7_leader 42 = .ok (.iload_n 1, 1) := by decide +kernel
theorem dX7_leader_43 : decode cX7_leader 43 = .ok (.istore_n 1, 1) := by decide +kernel
theorem dX7_leader_44 : decode cX7_leader 44 = .ok (.iinc 2 1, 3) := by decide +kernel
theorem dX7_leader_47 : decode cX7_leader 47 = .ok (.goto (-43), 3) := by decide +kernel
theorem dX7_leader_50 : decode cX7_leader 50 = .ok (.iload_n 1, 1) := by decide +kernel
theorem dX7_leader_51 : decode cX7_leader 51 = .ok (.ireturn, 1) := by decide +kernel
theorem dX7_drop_0 : decode cX7_drop 0 = .ok (.aload_n 0, 1) := by decide +kernel
theorem dX7_drop_1 : decode cX7_drop 1 = .ok (.invokevirtual 121, 3) := by decide +kernel
theorem dX7_drop_4 : decode cX7_drop 4 = .ok (.istore_n 1, 1) := by decide +kernel
theorem dX7_drop_5 : decode cX7_drop 5 = .ok (.aload_n 0, 1) := by decide +kernel
theorem dX7_drop_6 : decode cX7_drop 6 = .ok (.invokevirtual 72, 3) := by decide +kernel
theorem dX7_drop_9 : decode cX7_drop 9 = .ok (.istore_n 2, 1) := by decide +kernel
theorem dX7_drop_10 : decode cX7_drop 10 = .ok (.iconst 0, 1) := by decide +kernel
theorem dX7_drop_11 : decode cX7_drop 11 = .ok (.istore_n 3, 1) := by decide +kernel
theorem dX7_drop_12 : decode cX7_drop 12 = .ok (.iload_n 3, 1) := by decide +kernel
theorem dX7_drop_13 : decode cX7_drop 13 = .ok (.aload_n 0, 1) := by decide +kernel
theorem dX7_drop_14 : decode cX7_drop 14 = .ok (.getfield 69, 3) := by decide +kernel
theorem dX7_drop_17 : decode cX7_drop 17 = .ok (.if_icmp .ge 38, 3) := by decide +kernel
theorem dX7_drop_20 : decode cX7_drop 20 = .ok (.aload_n 0, 1) := by decide +kernel
theorem dX7_drop_21 : decode cX7_drop 21 = .ok (.getfield 30, 3) := by decide +kernel
theorem dX7_drop_24 : decode cX7_drop 24 = .ok (.iload_n 3, 1) := by decide +kernel
theorem dX7_drop_25 : decode cX7_drop 25 = .ok (.aload_n 0, 1) := by decide +kernel
theorem dX7_drop_26 : decode cX7_drop 26 = .ok (.getfield 27, 3) := by decide +kernel
theorem dX7_drop_29 : decode cX7_drop 29 = .ok (.iload_n 3, 1) := by decide +kernel
theorem dX7_drop_30 : decode cX7_drop 30 = .ok (.iaload, 1) := by decide +kernel
theorem dX7_drop_31 : decode cX7_drop 31 = .ok (.ifCond .ne 16, 3) := by decide +kernel
theorem dX7_drop_34 : decode cX7_drop 34 = .ok (.iload_n 3, 1) := by decide +kernel
theorem dX7_drop_35 : decode cX7_drop 35 = .ok (.iload_n 1, 1) := by decide +kernel
theorem dX7_drop_36 : decode cX7_drop 36 = .ok (.if_icmp .eq 11, 3) := by decide +kernel
theorem dX7_drop_39 : decode cX7_drop 39 = .ok (.aload_n 0, 1) := by decide +kernel
theorem dX7_drop_40 : decode cX7_drop 40 = .ok (.iload_n 3, 1) := by decide +kernel
theorem dX7_drop_41 : decode cX7_drop 41 = .ok (.invokevirtual 117, 3) := by decide +kernel
theorem dX7_drop_44 : decode cX7_drop 44 = .ok (.goto 4, 3) := by decide +kernel
theorem dX7_drop_47 : decode cX7_drop 47 = .ok (.iconst (-1), 1) := by decide +kernel
theorem dX7_drop_48 : decode cX7_drop 48 = .ok (.iastore, 1) := by decide +kernel
theorem dX7_drop_49 : decode cX7_drop 49 = .ok (.iinc 3 1, 3) := by decide +kernel
theorem dX7_drop_52 : decode cX7_drop 52 = .ok (.goto (-40), 3) := by decide +kernel
theorem dX7_drop_55 : decode cX7_drop 55 = .ok (.iconst 1, 1) := by decide +kernel
theorem dX7_drop_56 : decode cX7_drop 56 = .ok (.istore_n 3, 1) := by decide +kernel
theorem dX7_drop_57 : decode cX7_drop 57 = .ok (.iload_n 3, 1) := by decide +kernel
theorem dX7_drop_58 : decode cX7_drop 58 = .ok (.bipush 12, 2) := by decide +kernel
theorem dX7_drop_60 : decode cX7_drop 60 = .ok (.if_icmp .ge 137, 3) := by decide +kernel
theorem dX7_drop_63 : decode cX7_drop 63 = .ok (.iconst (-1), 1) := by decide +kernel
theorem dX7_drop_64 : decode cX7_drop 64 = .ok (.istore 4, 2) := by decide +kernel
theorem dX7_drop_66 : decode cX7_drop 66 = .ok (.iconst 0, 1) := by decide +kernel
theorem dX7_drop_67 : decode cX7_drop 67 = .ok (.istore 5, 2) := by decide +kernel
theorem dX7_drop_69 : decode cX7_drop 69 = .ok (.iload 5, 2) := by decide +kernel
theorem dX7_drop_71 : decode cX7_drop 71 = .ok (.aload_n 0, 1) := by decide +kernel
theorem dX7_drop_72 : decode cX7_drop 72 = .ok (.getfield 69, 3) := by decide +kernel
theorem dX7_drop_75 : decode cX7_drop 75 = .ok (.if_icmp .ge 50, 3) := by decide +kernel
theorem dX7_drop_78 : decode cX7_drop 78 = .ok (.aload_n 0, 1) := by decide +kernel
theorem dX7_drop_79 : decode cX7_drop 79 = .ok (.getfield 30, 3) := by decide +kernel
theorem dX7_drop_82 : decode cX7_drop 82 = .ok (.iload 5, 2) := by decide +kernel
theorem dX7_drop_84 : decode cX7_drop 84 = .ok (.iaload, 1) := by decide +kernel
theorem dX7_drop_85 : decode cX7_drop 85 = .ok (.ifCond .lt 30, 3) := by decide +kernel
theorem dX7_drop_88 : decode cX7_drop 88 = .ok (.iload 4, 2) := by decide +kernel
theorem dX7_drop_90 : decode cX7_drop 90 = .ok (.ifCond .lt 20, 3) := by decide +kernel
theorem dX7_drop_93 : decode cX7_drop 93 = .ok (.aload_n 0, 1) := by decide +kernel
theorem dX7_drop_94 : decode cX7_drop 94 = .ok (.getfield 30, 3) := by decide +kernel
theorem dX7_drop_97 : decode cX7_drop 97 = .ok (.iload 5, 2) := by decide +kernel
theorem dX7_drop_99 : decode cX7_drop 99 = .ok (.iaload, 1) := by decide +kernel
theorem dX7_drop_100 : decode cX7_drop 100 = .ok (.aload_n 0, 1) := by decide +kernel
theorem dX7_drop_101 : decode cX7_drop 101 = .ok (.getfield 30, 3) := by decide +kernel
theorem dX7_drop_104 : decode cX7_drop 104 = .ok (.iload 4, 2) := by decide +kernel
theorem dX7_drop_106 : decode cX7_drop 106 = .ok (.iaload, 1) := by decide +kernel
theorem dX7_drop_107 : decode cX7_drop 107 = .ok (.if_icmp .lt 8, 3) := by decide +kernel
theorem dX7_drop_110 : decode cX7_drop 110 = .ok (.iload 5, 2) := by decide +kernel
theorem dX7_drop_112 : decode cX7_drop 112 = .ok (.goto 5, 3) := by decide +kernel
theorem dX7_drop_115 : decode cX7_drop 115 = .ok (.iload 4, 2) := by decide +kernel
theorem dX7_drop_117 : decode cX7_drop 117 = .ok (.istore 4, 2) := by decide +kernel
theorem dX7_drop_119 : decode cX7_drop 119 = .ok (.iinc 5 1, 3) := by decide +kernel
theorem dX7_drop_122 : decode cX7_drop 122 = .ok (.goto (-53), 3) := by decide +kernel
theorem dX7_drop_125 : decode cX7_drop 125 = .ok (.iload 4, 2) := by decide +kernel
theorem dX7_drop_127 : decode cX7_drop 127 = .ok (.ifCond .lt 64, 3) := by decide +kernel
theorem dX7_drop_130 : decode cX7_drop 130 = .ok (.aload_n 0, 1) := by decide +kernel
theorem dX7_drop_131 : decode cX7_drop 131 = .ok (.getfield 30, 3) := by decide +kernel
theorem dX7_drop_134 : decode cX7_drop 134 = .ok (.iload 4, 2) := by decide +kernel
theorem dX7_drop_136 : decode cX7_drop 136 = .ok (.iconst (-1), 1) := by decide +kernel
theorem dX7_drop_137 : decode cX7_drop 137 = .ok (.iastore, 1) := by decide +kernel
theorem dX7_drop_138 : decode cX7_drop 138 = .ok (.aload_n 0, 1) := by decide +kernel
theorem dX7_drop_139 : decode cX7_drop 139 = .ok (.iload_n 1, 1) := by decide +kernel
theorem dX7_drop_140 : decode cX7_drop 140 = .ok (.iload 4, 2) := by decide +kernel
theorem dX7_drop_142 : decode cX7_drop 142 = .ok (.invokevirtual 124, 3) := by decide +kernel
theorem dX7_drop_145 : decode cX7_drop 145 = .ok (.iload_n 2, 1) := by decide +kernel
theorem dX7_drop_146 : decode cX7_drop 146 = .ok (.aload_n 0, 1) := by decide +kernel
theorem dX7_drop_147 : decode cX7_drop 147 = .ok (.getfield 76, 3) := by decide +kernel
theorem dX7_drop_150 : decode cX7_drop 150 = .ok (.if_icmp .le 41, 3) := by decide +kernel
theorem dX7_drop_153 : decode cX7_drop 153 = .ok (.aload_n 0, 1) := by decide +kernel
theorem dX7_drop_154 : decode cX7_drop 154 = .ok (.getfield 128, 3) := by decide +kernel
theorem dX7_drop_157 : decode cX7_drop 157 = .ok (.aload_n 0, 1) := by decide +kernel
theorem dX7_drop_158 : decode cX7_drop 158 = .ok (.getfield 103, 3) := by decide +kernel
theorem dX7_drop_161 : decode cX7_drop 161 = .ok (.i2l, 1) := by decide +kernel
theorem dX7_drop_162 : decode cX7_drop 162 = .ok (.lmul, 1) := by decide +kernel
theorem dX7_drop_163 : decode cX7_drop 163 = .ok (.aload_n 0, 1) := by decide +kernel
theorem dX7_drop_164 : decode cX7_drop 164 = .ok (.getfield 132, 3) := by decide +kernel
theorem dX7_drop_167 : decode cX7_drop 167 = .ok (.aload_n 0, 1) := by decide +kernel
theorem dX7_drop_168 : decode cX7_drop 168 = .ok (.getfield 100, 3) := by decide +kernel
theorem dX7_drop_171 : decode cX7_drop 171 = .ok (.i2l, 1) := by decide +kernel
theorem dX7_drop_172 : decode cX7_drop 172 = .ok (.lmul, 1) := by decide +kernel
theorem dX7_drop_173 : decode cX7_drop 173 = .ok (.lcmp, 1) := by decide +kernel
theorem dX7_drop_174 : decode cX7_drop 174 = .ok (.ifCond .gt 17, 3) := by decide +kernel
theorem dX7_drop_177 : decode cX7_drop 177 = .ok (.aload_n 0, 1) := by decide +kernel
theorem dX7_drop_178 : decode cX7_drop 178 = .ok (.getfield 27, 3) := by decide +kernel
theorem dX7_drop_181 : decode cX7_drop 181 = .ok (.iload 4, 2) := by decide +kernel
theorem dX7_drop_183 : decode cX7_drop 183 = .ok (.aload_n 0, 1) := by decide +kernel
theorem dX7_drop_184 : decode cX7_drop 184 = .ok (.getfield 79, 3) := by decide +kernel
theorem dX7_drop_187 : decode cX7_drop 187 = .ok (.iastore, 1) := by decide +kernel
theorem dX7_drop_188 : decode cX7_drop 188 = .ok (.iinc 2 (-1), 3) := by decide +kernel
theorem dX7_drop_191 : decode cX7_drop 191 = .ok (.iinc 3 1, 3) := by decide +kernel
theorem dX7_drop_194 : decode cX7_drop 194 = .ok (.goto (-137), 3) := by decide +kernel
theorem dX7_drop_197 : decode cX7_drop 197 = .ok (.return_, 1) := by decide +kernel
theorem dX7_ranOf_0 : decode cX7_ranOf 0 = .ok (.aload_n 0, 1) := by decide +kernel
theorem dX7_ranOf_1 : decode cX7_ranOf 1 = .ok (.getfield 27, 3) := by decide +kernel
theorem dX7_ranOf_4 : decode cX7_ranOf 4 = .ok (.iload_n 1, 1) := by decide +kernel
theorem dX7_ranOf_5 : decode cX7_ranOf 5 = .ok (.iaload, 1) := by decide +kernel
theorem dX7_ranOf_6 : decode cX7_ranOf 6 = .ok (.ifCond .ne 10, 3) := by decide +kernel
theorem dX7_ranOf_9 : decode cX7_ranOf 9 = .ok (.aload_n 0, 1) := by decide +kernel
theorem dX7_ranOf_10 : decode cX7_ranOf 10 = .ok (.getfield 79, 3) := by decide +kernel
theorem dX7_ranOf_13 : decode cX7_ranOf 13 = .ok (.goto 9, 3) := by decide +kernel
theorem dX7_ranOf_16 : decode cX7_ranOf 16 = .ok (.aload_n 0, 1) := by decide +kernel
theorem dX7_ranOf_17 : decode cX7_ranOf 17 = .ok (.getfield 27, 3) := by decide +kernel
theorem dX7_ranOf_20 : decode cX7_ranOf 20 = .ok (.iload_n 1, 1) := by decide +kernel
theorem dX7_ranOf_21 : decode cX7_ranOf 21 = .ok (.iaload, 1) := by decide +kernel
theorem dX7_ranOf_22 : decode cX7_ranOf 22 = .ok (.ireturn, 1) := by decide +kernel
theorem dX7_findOdds_0 : decode cX7_findOdds 0 = .ok (.iconst 0, 1) := by decide +kernel
theorem dX7_findOdds_1 : decode cX7_findOdds 1 = .ok (.istore_n 3, 1) := by decide +kernel
theorem dX7_findOdds_2 : decode cX7_findOdds 2 = .ok (.iconst 0, 1) := by decide +kernel
theorem dX7_findOdds_3 : decode cX7_findOdds 3 = .ok (.istore 4, 2) := by decide +kernel
theorem dX7_findOdds_5 : decode cX7_findOdds 5 = .ok (.aload_n 0, 1) := by decide +kernel
theorem dX7_findOdds_6 : decode cX7_findOdds 6 = .ok (.iload_n 1, 1) := by decide +kernel
theorem dX7_findOdds_7 : decode cX7_findOdds 7 = .ok (.invokevirtual 135, 3) := by decide +kernel
theorem dX7_findOdds_10 : decode cX7_findOdds 10 = .ok (.aload_n 0, 1) := by decide +kernel
theorem dX7_findOdds_11 : decode cX7_findOdds 11 = .ok (.iload_n 2, 1) := by decide +kernel
theorem dX7_findOdds_12 : decode cX7_findOdds 12 = .ok (.invokevirtual 135, 3) := by decide +kernel
theorem dX7_findOdds_15 : decode cX7_findOdds 15 = .ok (.if_icmp .ge 11, 3) := by decide +kernel
theorem dX7_findOdds_18 : decode cX7_findOdds 18 = .ok (.aload_n 0, 1) := by decide +kernel
theorem dX7_findOdds_19 : decode cX7_findOdds 19 = .ok (.iload_n 1, 1) := by decide +kernel
theorem dX7_findOdds_20 : decode cX7_findOdds 20 = .ok (.invokevirtual 135, 3) := by decide +kernel
theorem dX7_findOdds_23 : decode cX7_findOdds 23 = .ok (.goto 8, 3) := by decide +kernel
theorem dX7_findOdds_26 : decode cX7_findOdds 26 = .ok (.aload_n 0, 1) := by decide +kernel
theorem dX7_findOdds_27 : decode cX7_findOdds 27 = .ok (.iload_n 2, 1) := by decide +kernel
theorem dX7_findOdds_28 : decode cX7_findOdds 28 = .ok (.invokevirtual 135, 3) := by decide +kernel
theorem dX7_findOdds_31 : decode cX7_findOdds 31 = .ok (.istore 5, 2) := by decide +kernel
theorem dX7_findOdds_33 : decode cX7_findOdds 33 = .ok (.iconst 0, 1) := by decide +kernel
theorem dX7_findOdds_34 : decode cX7_findOdds 34 = .ok (.istore 6, 2) := by decide +kernel
theorem dX7_findOdds_36 : decode cX7_findOdds 36 = .ok (.iload 6, 2) := by decide +kernel
theorem dX7_findOdds_38 : decode cX7_findOdds 38 = .ok (.iload 5, 2) := by decide +kernel
theorem dX7_findOdds_40 : decode cX7_findOdds 40 = .ok (.if_icmp .ge 94, 3) := by decide +kernel
theorem dX7_findOdds_43 : decode cX7_findOdds 43 = .ok (.aload_n 0, 1) := by decide +kernel
theorem dX7_findOdds_44 : decode cX7_findOdds 44 = .ok (.iload_n 1, 1) := by decide +kernel
theorem dX7_findOdds_45 : decode cX7_findOdds 45 = .ok (.aload_n 0, 1) := by decide +kernel
theorem dX7_findOdds_46 : decode cX7_findOdds 46 = .ok (.getfield 24, 3) := by decide +kernel
theorem dX7_findOdds_49 : decode cX7_findOdds 49 = .ok (.iload 6, 2) := by decide +kernel
theorem dX7_findOdds_51 : decode cX7_findOdds 51 = .ok (.iaload, 1) := by decide +kernel
theorem dX7_findOdds_52 : decode cX7_findOdds 52 = .ok (.invokevirtual 65, 3) := by decide +kernel
theorem dX7_findOdds_55 : decode cX7_findOdds 55 = .ok (.aload_n 0, 1) := by decide +kernel
theorem dX7_findOdds_56 : decode cX7_findOdds 56 = .ok (.iload_n 2, 1) := by decide +kernel
theorem dX7_findOdds_57 : decode cX7_findOdds 57 = .ok (.aload_n 0, 1) := by decide +kernel
theorem dX7_findOdds_58 : decode cX7_findOdds 58 = .ok (.getfield 24, 3) := by decide +kernel
theorem dX7_findOdds_61 : decode cX7_findOdds 61 = .ok (.iload 6, 2) := by decide +kernel
theorem dX7_findOdds_63 : decode cX7_findOdds 63 = .ok (.iaload, 1) := by decide +kernel
theorem dX7_findOdds_64 : decode cX7_findOdds 64 = .ok (.invokevirtual 65, 3) := by decide +kernel
theorem dX7_findOdds_67 : decode cX7_findOdds 67 = .ok (.isub, 1) := by decide +kernel
theorem dX7_findOdds_68 : decode cX7_findOdds 68 = .ok (.istore 7, 2) := by decide +kernel
theorem dX7_findOdds_70 : decode cX7_findOdds 70 = .ok (.iload 7, 2) := by decide +kernel
theorem dX7_findOdds_72 : decode cX7_findOdds 72 = .ok (.ifCond .eq 56, 3) := by decide +kernel
theorem dX7_findOdds_75 : decode cX7_findOdds 75 = .ok (.aload_n 0, 1) := by decide +kernel
theorem dX7_findOdds_76 : decode cX7_findOdds 76 = .ok (.getfield 33, 3) := by decide +kernel
theorem dX7_findOdds_79 : decode cX7_findOdds 79 = .ok (.iload_n 3, 1) := by decide +kernel
theorem dX7_findOdds_80 : decode cX7_findOdds 80 = .ok (.iload 7, 2) := by decide +kernel
theorem dX7_findOdds_82 : decode cX7_findOdds 82 = .ok (.ifCond .ge 9, 3) := by decide +kernel
theorem dX7_findOdds_85 : decode cX7_findOdds 85 = .ok (.iload 7, 2) := by decide +kernel
theorem dX7_findOdds_87 : decode cX7_findOdds 87 = .ok (.ineg, 1) := by decide +kernel
theorem dX7_findOdds_88 : decode cX7_findOdds 88 = .ok (.goto 5, 3) := by decide +kernel
theorem dX7_findOdds_91 : decode cX7_findOdds 91 = .ok (.iload 7, 2) := by decide +kernel
theorem dX7_findOdds_93 : decode cX7_findOdds 93 = .ok (.iastore, 1) := by decide +kernel
theorem dX7_findOdds_94 : decode cX7_findOdds 94 = .ok (.aload_n 0, 1) := by decide +kernel
theorem dX7_findOdds_95 : decode cX7_findOdds 95 = .ok (.getfield 36, 3) := by decide +kernel
theorem dX7_findOdds_98 : decode cX7_findOdds 98 = .ok (.iload_n 3, 1) := by decide +kernel
theorem dX7_findOdds_99 : decode cX7_findOdds 99 = .ok (.iload 7, 2) := by decide +kernel
theorem dX7_findOdds_101 : decode cX7_findOdds 101 = .ok (.ifCond .ge 7, 3) := by decide +kernel
theorem dX7_findOdds_104 : decode cX7_findOdds 104 = .ok (.iconst 1, 1) := by decide +kernel
theorem dX7_findOdds_105 : decode cX7_findOdds 105 = .ok (.goto 4, 3) := by decide +kernel
theorem dX7_findOdds_108 : decode cX7_findOdds 108 = .ok (.iconst 0, 1) := by decide +kernel
theorem dX7_findOdds_109 : decode cX7_findOdds 109 = .ok (.bastore, 1) := by decide +kernel
theorem dX7_findOdds_110 : decode cX7_findOdds 110 = .ok (.iload 4, 2) := by decide +kernel
theorem dX7_findOdds_112 : decode cX7_findOdds 112 = .ok (.iload 7, 2) := by decide +kernel
theorem dX7_findOdds_114 : decode cX7_findOdds 114 = .ok (.ifCond .ge 7, 3) := by decide +kernel
theorem dX7_findOdds_117 : decode cX7_findOdds 117 = .ok (.iconst 1, 1) := by decide +kernel
theorem dX7_findOdds_118 : decode cX7_findOdds 118 = .ok (.goto 4, 3) := by decide +kernel
theorem dX7_findOdds_121 : decode cX7_findOdds 121 = .ok (.iconst 0, 1) := by decide +kernel
theorem dX7_findOdds_122 : decode cX7_findOdds 122 = .ok (.iadd, 1) := by decide +kernel
theorem dX7_findOdds_123 : decode cX7_findOdds 123 = .ok (.istore 4, 2) := by decide +kernel
theorem dX7_findOdds_125 : decode cX7_findOdds 125 = .ok (.iinc 3 1, 3) := by decide +kernel
theorem dX7_findOdds_128 : decode cX7_findOdds 128 = .ok (.iinc 6 1, 3) := by decide +kernel
theorem dX7_findOdds_131 : decode cX7_findOdds 131 = .ok (.goto (-95), 3) := by decide +kernel
theorem dX7_findOdds_134 : decode cX7_findOdds 134 = .ok (.iconst 0, 1) := by decide +kernel
theorem dX7_findOdds_135 : decode cX7_findOdds 135 = .ok (.istore 6, 2) := by decide +kernel
theorem dX7_findOdds_137 : decode cX7_findOdds 137 = .ok (.iconst 0, 1) := by decide +kernel
theorem dX7_findOdds_138 : decode cX7_findOdds 138 = .ok (.istore 7, 2) := by decide +kernel
theorem dX7_findOdds_140 : decode cX7_findOdds 140 = .ok (.iconst 0, 1) := by decide +kernel
theorem dX7_findOdds_141 : decode cX7_findOdds 141 = .ok (.istore 8, 2) := by decide +kernel
theorem dX7_findOdds_143 : decode cX7_findOdds 143 = .ok (.iload 8, 2) := by decide +kernel
theorem dX7_findOdds_145 : decode cX7_findOdds 145 = .ok (.sipush 1300, 3) := by decide +kernel
theorem dX7_findOdds_148 : decode cX7_findOdds 148 = .ok (.if_icmp .ge 17, 3) := by decide +kernel
theorem dX7_findOdds_151 : decode cX7_findOdds 151 = .ok (.aload_n 0, 1) := by decide +kernel
theorem dX7_findOdds_152 : decode cX7_findOdds 152 = .ok (.getfield 39, 3) := by decide +kernel
theorem dX7_findOdds_155 : decode cX7_findOdds 155 = .ok (.iload 8, 2) := by decide +kernel
theorem dX7_findOdds_157 : decode cX7_findOdds 157 = .ok (.lconst 0, 1) := by decide +kernel
theorem dX7_findOdds_158 : decode cX7_findOdds 158 = .ok (.lastore, 1) := by decide +kernel
theorem dX7_findOdds_159 : decode cX7_findOdds 159 = .ok (.iinc 8 1, 3) := by decide +kernel
theorem dX7_findOdds_162 : decode cX7_findOdds 162 = .ok (.goto (-19), 3) := by decide +kernel
theorem dX7_findOdds_165 : decode cX7_findOdds 165 = .ok (.aload_n 0, 1) := by decide +kernel
theorem dX7_findOdds_166 : decode cX7_findOdds 166 = .ok (.getfield 39, 3) := by decide +kernel
theorem dX7_findOdds_169 : decode cX7_findOdds 169 = .ok (.iconst 0, 1) := by decide +kernel
theorem dX7_findOdds_170 : decode cX7_findOdds 170 = .ok (.lconst 1, 1) := by decide +kernel
theorem dX7_findOdds_171 : decode cX7_findOdds 171 = .ok (.lastore, 1) := by decide +kernel
theorem dX7_findOdds_172 : decode cX7_findOdds 172 = .ok (.iconst 0, 1) := by decide +kernel
theorem dX7_findOdds_173 : decode cX7_findOdds 173 = .ok (.istore 8, 2) := by decide +kernel
theorem dX7_findOdds_175 : decode cX7_findOdds 175 = .ok (.iload 8, 2) := by decide +kernel
theorem dX7_findOdds_177 : decode cX7_findOdds 177 = .ok (.iload_n 3, 1) := by decide +kernel
theorem dX7_findOdds_178 : decode cX7_findOdds 178 = .ok (.if_icmp .ge 170, 3) := by decide +kernel
theorem dX7_findOdds_181 : decode cX7_findOdds 181 = .ok (.aload_n 0, 1) := by decide +kernel
theorem dX7_findOdds_182 : decode cX7_findOdds 182 = .ok (.getfield 20, 3) := by decide +kernel
theorem dX7_findOdds_185 : decode cX7_findOdds 185 = .ok (.ifCond .ne 7, 3) := by decide +kernel
theorem dX7_findOdds_188 : decode cX7_findOdds 188 = .ok (.iconst 1, 1) := by decide +kernel
theorem dX7_findOdds_189 : decode cX7_findOdds 189 = .ok (.goto 4, 3) := by decide +kernel
theorem dX7_findOdds_192 : decode cX7_findOdds 192 = .ok (.iconst 2, 1) := by decide +kernel
theorem dX7_findOdds_193 : decode cX7_findOdds 193 = .ok (.istore 9, 2) := by decide +kernel
theorem dX7_findOdds_195 : decode cX7_findOdds 195 = .ok (.iconst 0, 1) := by decide +kernel
theorem dX7_findOdds_196 : decode cX7_findOdds 196 = .ok (.istore 10, 2) := by decide +kernel
theorem dX7_findOdds_198 : decode cX7_findOdds 198 = .ok (.iload 10, 2) := by decide +kernel
theorem dX7_findOdds_200 : decode cX7_findOdds 200 = .ok (.iload_n 3, 1) := by decide +kernel
theorem dX7_findOdds_201 : decode cX7_findOdds 201 = .ok (.if_icmp .ge 76, 3) := by decide +kernel
theorem dX7_findOdds_204 : decode cX7_findOdds 204 = .ok (.aload_n 0, 1) := by decide +kernel
theorem dX7_findOdds_205 : decode cX7_findOdds 205 = .ok (.getfield 20, 3) := by decide +kernel
theorem dX7_findOdds_208 : decode cX7_findOdds 208 = .ok (.iconst 1, 1) := by decide +kernel
theorem dX7_findOdds_209 : decode cX7_findOdds 209 = .ok (.if_icmp .ne 68, 3) := by decide +kernel
theorem dX7_findOdds_212 : decode cX7_findOdds 212 = .ok (.iload 9, 2) := by decide +kernel
theorem dX7_findOdds_214 : decode cX7_findOdds 214 = .ok (.iload 10, 2) := by decide +kernel
theorem dX7_findOdds_216 : decode cX7_findOdds 216 = .ok (.iload 8, 2) := by decide +kernel
theorem dX7_findOdds_218 : decode cX7_findOdds 218 = .ok (.if_icmp .ne 7, 3) := by decide +kernel
theorem dX7_findOdds_221 : decode cX7_findOdds 221 = .ok (.iconst 0, 1) := by decide +kernel
theorem dX7_findOdds_222 : decode cX7_findOdds 222 = .ok (.goto 46, 3) := by decide +kernel
theorem dX7_findOdds_225 : decode cX7_findOdds 225 = .ok (.aload_n 0, 1) := by decide +kernel
theorem dX7_findOdds_226 : decode cX7_findOdds 226 = .ok (.getfield 33, 3) := by decide +kernel
theorem dX7_findOdds_229 : decode cX7_findOdds 229 = .ok (.iload 10, 2) := by decide +kernel
theorem dX7_findOdds_231 : decode cX7_findOdds 231 = .ok (.iaload, 1) := by decide +kernel
theorem dX7_findOdds_232 : decode cX7_findOdds 232 = .ok (.aload_n 0, 1) := by decide +kernel
theorem dX7_findOdds_233 : decode cX7_findOdds 233 = .ok (.getfield 33, 3) := by decide +kernel
theorem dX7_findOdds_236 : decode cX7_findOdds 236 = .ok (.iload 8, 2) := by decide +kernel
theorem dX7_findOdds_238 : decode cX7_findOdds 238 = .ok (.iaload, 1) := by decide +kernel
theorem dX7_findOdds_239 : decode cX7_findOdds 239 = .ok (.if_icmp .ge 7, 3) := by decide +kernel
theorem dX7_findOdds_242 : decode cX7_findOdds 242 = .ok (.iconst 2, 1) := by decide +kernel
theorem dX7_findOdds_243 : decode cX7_findOdds 243 = .ok (.goto 25, 3) := by decide +kernel
theorem dX7_findOdds_246 : decode cX7_findOdds 246 = .ok (.aload_n 0, 1) := by decide +kernel
theorem dX7_findOdds_247 : decode cX7_findOdds 247 = .ok (.getfield 33, 3) := by decide +kernel
theorem dX7_findOdds_250 : decode cX7_findOdds 250 = .ok (.iload 10, 2) := by decide +kernel
theorem dX7_findOdds_252 : decode cX7_findOdds 252 = .ok (.iaload, 1) := by decide +kernel
theorem dX7_findOdds_253 : decode cX7_findOdds 253 = .ok (.aload_n 0, 1) := by decide +kernel
theorem dX7_findOdds_254 : decode cX7_findOdds 254 = .ok (.getfield 33, 3) := by decide +kernel
theorem dX7_findOdds_257 : decode cX7_findOdds 257 = .ok (.iload 8, 2) := by decide +kernel
theorem dX7_findOdds_259 : decode cX7_findOdds 259 = .ok (.iaload, 1) := by decide +kernel
theorem dX7_findOdds_260 : decode cX7_findOdds 260 = .ok (.if_icmp .ne 7, 3) := by decide +kernel
theorem dX7_findOdds_263 : decode cX7_findOdds 263 = .ok (.iconst 1, 1) := by decide +kernel
theorem dX7_findOdds_264 : decode cX7_findOdds 264 = .ok (.goto 4, 3) := by decide +kernel
theorem dX7_findOdds_267 : decode cX7_findOdds 267 = .ok (.iconst 0, 1) := by decide +kernel
theorem dX7_findOdds_268 : decode cX7_findOdds 268 = .ok (.iadd, 1) := by decide +kernel
theorem dX7_findOdds_269 : decode cX7_findOdds 269 = .ok (.istore 9, 2) := by decide +kernel
theorem dX7_findOdds_271 : decode cX7_findOdds 271 = .ok (.iinc 10 1, 3) := by decide +kernel
theorem dX7_findOdds_274 : decode cX7_findOdds 274 = .ok (.goto (-76), 3) := by decide +kernel
theorem dX7_findOdds_277 : decode cX7_findOdds 277 = .ok (.iload 7, 2) := by decide +kernel
theorem dX7_findOdds_279 : decode cX7_findOdds 279 = .ok (.aload_n 0, 1) := by decide +kernel
theorem dX7_findOdds_280 : decode cX7_findOdds 280 = .ok (.getfield 36, 3) := by decide +kernel
theorem dX7_findOdds_283 : decode cX7_findOdds 283 = .ok (.iload 8, 2) := by decide +kernel
theorem dX7_findOdds_285 : decode cX7_findOdds 285 = .ok (.baload, 1) := by decide +kernel
theorem dX7_findOdds_286 : decode cX7_findOdds 286 = .ok (.ifCond .eq 8, 3) := by decide +kernel
theorem dX7_findOdds_289 : decode cX7_findOdds 289 = .ok (.iload 9, 2) := by decide +kernel
theorem dX7_findOdds_291 : decode cX7_findOdds 291 = .ok (.goto 4, 3) := by decide +kernel
theorem dX7_findOdds_294 : decode cX7_findOdds 294 = .ok (.iconst 0, 1) := by decide +kernel
theorem dX7_findOdds_295 : decode cX7_findOdds 295 = .ok (.iadd, 1) := by decide +kernel
theorem dX7_findOdds_296 : decode cX7_findOdds 296 = .ok (.istore 7, 2) := by decide +kernel
theorem dX7_findOdds_298 : decode cX7_findOdds 298 = .ok (.iload 6, 2) := by decide +kernel
theorem dX7_findOdds_300 : decode cX7_findOdds 300 = .ok (.iload 9, 2) := by decide +kernel
theorem dX7_findOdds_302 : decode cX7_findOdds 302 = .ok (.iadd, 1) := by decide +kernel
theorem dX7_findOdds_303 : decode cX7_findOdds 303 = .ok (.istore 6, 2) := by decide +kernel
theorem dX7_findOdds_305 : decode cX7_findOdds 305 = .ok (.iload 6, 2) := by decide +kernel
theorem dX7_findOdds_307 : decode cX7_findOdds 307 = .ok (.istore 10, 2) := by decide +kernel
theorem dX7_findOdds_309 : decode cX7_findOdds 309 = .ok (.iload 10, 2) := by decide +kernel
theorem dX7_findOdds_311 : decode cX7_findOdds 311 = .ok (.iload 9, 2) := by decide +kernel
theorem dX7_findOdds_313 : decode cX7_findOdds 313 = .ok (.if_icmp .lt 29, 3) := by decide +kernel
theorem dX7_findOdds_316 : decode cX7_findOdds 316 = .ok (.aload_n 0, 1) := by decide +kernel
theorem dX7_findOdds_317 : decode cX7_findOdds 317 = .ok (.getfield 39, 3) := by decide +kernel
theorem dX7_findOdds_320 : decode cX7_findOdds 320 = .ok (.iload 10, 2) := by decide +kernel
theorem dX7_findOdds_322 : decode cX7_findOdds 322 = .ok (.dup2, 1) := by decide +kernel
theorem dX7_findOdds_323 : decode cX7_findOdds 323 = .ok (.laload, 1) := by decide +kernel
theorem dX7_findOdds_324 : decode cX7_findOdds 324 = .ok (.aload_n 0, 1) := by decide +kernel
theorem dX7_findOdds_325 : decode cX7_findOdds 325 = .ok (.getfield 39, 3) := by decide +kernel
theorem dX7_findOdds_328 : decode cX7_findOdds 328 = .ok (.iload 10, 2) := by decide +kernel
theorem dX7_findOdds_330 : decode cX7_findOdds 330 = .ok (.iload 9, 2) := by decide +kernel
theorem dX7_findOdds_332 : decode cX7_findOdds 332 = .ok (.isub, 1) := by decide +kernel
theorem dX7_findOdds_333 : decode cX7_findOdds 333 = .ok (.laload, 1) := by decide +kernel
theorem dX7_findOdds_334 : decode cX7_findOdds 334 = .ok (.ladd, 1) := by decide +kernel
theorem dX7_findOdds_335 : decode cX7_findOdds 335 = .ok (.lastore, 1) := by decide +kernel
theorem dX7_findOdds_336 : decode cX7_findOdds 336 = .ok (.iinc 10 (-1), 3) := by decide +kernel
theorem dX7_findOdds_339 : decode cX7_findOdds 339 = .ok (.goto (-30), 3) := by decide +kernel
theorem dX7_findOdds_342 : decode cX7_findOdds 342 = .ok (.iinc 8 1, 3) := by decide +kernel
theorem dX7_findOdds_345 : decode cX7_findOdds 345 = .ok (.goto (-170), 3) := by decide +kernel
theorem dX7_findOdds_348 : decode cX7_findOdds 348 = .ok (.aload_n 0, 1) := by decide +kernel
theorem dX7_findOdds_349 : decode cX7_findOdds 349 = .ok (.lconst 0, 1) := by decide +kernel
theorem dX7_findOdds_350 : decode cX7_findOdds 350 = .ok (.putfield 128, 3) := by decide +kernel
theorem dX7_findOdds_353 : decode cX7_findOdds 353 = .ok (.iload 7, 2) := by decide +kernel
theorem dX7_findOdds_355 : decode cX7_findOdds 355 = .ok (.istore 8, 2) := by decide +kernel
theorem dX7_findOdds_357 : decode cX7_findOdds 357 = .ok (.iload 8, 2) := by decide +kernel
theorem dX7_findOdds_359 : decode cX7_findOdds 359 = .ok (.iload 6, 2) := by decide +kernel
theorem dX7_findOdds_361 : decode cX7_findOdds 361 = .ok (.if_icmp .gt 25, 3) := by decide +kernel
theorem dX7_findOdds_364 : decode cX7_findOdds 364 = .ok (.aload_n 0, 1) := by decide +kernel
theorem dX7_findOdds_365 : decode cX7_findOdds 365 = .ok (.dup, 1) := by decide +kernel
theorem dX7_findOdds_366 : decode cX7_findOdds 366 = .ok (.getfield 128, 3) := by decide +kernel
theorem dX7_findOdds_369 : decode cX7_findOdds 369 = .ok (.aload_n 0, 1) := by decide +kernel
theorem dX7_findOdds_370 : decode cX7_findOdds 370 = .ok (.getfield 39, 3) := by decide +kernel
theorem dX7_findOdds_373 : decode cX7_findOdds 373 = .ok (.iload 8, 2) := by decide +kernel
theorem dX7_findOdds_375 : decode cX7_findOdds 375 = .ok (.laload, 1) := by decide +kernel
theorem dX7_findOdds_376 : decode cX7_findOdds 376 = .ok (.ladd, 1) := by decide +kernel
theorem dX7_findOdds_377 : decode cX7_findOdds 377 = .ok (.putfield 128, 3) := by decide +kernel
theorem dX7_findOdds_380 : decode cX7_findOdds 380 = .ok (.iinc 8 1, 3) := by decide +kernel
theorem dX7_findOdds_383 : decode cX7_findOdds 383 = .ok (.goto (-26), 3) := by decide +kernel
theorem dX7_findOdds_386 : decode cX7_findOdds 386 = .ok (.aload_n 0, 1) := by decide +kernel
theorem dX7_findOdds_387 : decode cX7_findOdds 387 = .ok (.lconst 1, 1) := by decide +kernel
theorem dX7_findOdds_388 : decode cX7_findOdds 388 = .ok (.iload_n 3, 1) := by decide +kernel
theorem dX7_findOdds_389 : decode cX7_findOdds 389 = .ok (.lshl, 1) := by decide +kernel
theorem dX7_findOdds_390 : decode cX7_findOdds 390 = .ok (.putfield 132, 3) := by decide +kernel
theorem dX7_findOdds_393 : decode cX7_findOdds 393 = .ok (.aload_n 0, 1) := by decide +kernel
theorem dX7_findOdds_394 : decode cX7_findOdds 394 = .ok (.getfield 128, 3) := by decide +kernel
theorem dX7_findOdds_397 : decode cX7_findOdds 397 = .ok (.ldc2_w 138, 3) := by decide +kernel
theorem dX7_findOdds_400 : decode cX7_findOdds 400 = .ok (.lrem, 1) := by decide +kernel
theorem dX7_findOdds_401 : decode cX7_findOdds 401 = .ok (.lconst 0, 1) := by decide +kernel
theorem dX7_findOdds_402 : decode cX7_findOdds 402 = .ok (.lcmp, 1) := by decide +kernel
theorem dX7_findOdds_403 : decode cX7_findOdds 403 = .ok (.ifCond .ne 39, 3) := by decide +kernel
theorem dX7_findOdds_406 : decode cX7_findOdds 406 = .ok (.aload_n 0, 1) := by decide +kernel
theorem dX7_findOdds_407 : decode cX7_findOdds 407 = .ok (.getfield 132, 3) := by decide +kernel
theorem dX7_findOdds_410 : decode cX7_findOdds 410 = .ok (.lconst 1, 1) := by decide +kernel
theorem dX7_findOdds_411 : decode cX7_findOdds 411 = .ok (.lcmp, 1) := by decide +kernel
theorem dX7_findOdds_412 : decode cX7_findOdds 412 = .ok (.ifCond .le 30, 3) := by decide +kernel
theorem dX7_findOdds_415 : decode cX7_findOdds 415 = .ok (.aload_n 0, 1) := by decide +kernel
theorem dX7_findOdds_416 : decode cX7_findOdds 416 = .ok (.dup, 1) := by decide +kernel
theorem dX7_findOdds_417 : decode cX7_findOdds 417 = .ok (.getfield 128, 3) := by decide +kernel
theorem dX7_findOdds_420 : decode cX7_findOdds 420 = .ok (.ldc2_w 138, 3) := by decide +kernel
theorem dX7_findOdds_423 : decode cX7_findOdds 423 = .ok (.ldiv, 1) := by decide +kernel
theorem dX7_findOdds_424 : decode cX7_findOdds 424 = .ok (.putfield 128, 3) := by decide +kernel
theorem dX7_findOdds_427 : decode cX7_findOdds 427 = .ok (.aload_n 0, 1) := by decide +kernel
theorem dX7_findOdds_428 : decode cX7_findOdds 428 = .ok (.dup, 1) := by decide +kernel
theorem dX7_findOdds_429 : decode cX7_findOdds 429 = .ok (.getfield 132, 3) := by decide +kernel
theorem dX7_findOdds_432 : decode cX7_findOdds 432 = .ok (.ldc2_w 138, 3) := by decide +kernel
theorem dX7_findOdds_435 : decode cX7_findOdds 435 = .ok (.ldiv, 1) := by decide +kernel
theorem dX7_findOdds_436 : decode cX7_findOdds 436 = .ok (.putfield 132, 3) := by decide +kernel
theorem dX7_findOdds_439 : decode cX7_findOdds 439 = .ok (.goto (-46), 3) := by decide +kernel
theorem dX7_findOdds_442 : decode cX7_findOdds 442 = .ok (.return_, 1) := by decide +kernel
theorem dX7_left_0 : decode cX7_left 0 = .ok (.aload_n 0, 1) := by decide +kernel
theorem dX7_left_1 : decode cX7_left 1 = .ok (.iconst 0, 1) := by decide +kernel
theorem dX7_left_2 : decode cX7_left 2 = .ok (.putfield 43, 3) := by decide +kernel
theorem dX7_left_5 : decode cX7_left 5 = .ok (.aload_n 0, 1) := by decide +kernel
theorem dX7_left_6 : decode cX7_left 6 = .ok (.getfield 20, 3) := by decide +kernel
theorem dX7_left_9 : decode cX7_left 9 = .ok (.ifCond .ge 5, 3) := by decide +kernel
theorem dX7_left_12 : decode cX7_left 12 = .ok (.iconst (-1), 1) := by decide +kernel
theorem dX7_left_13 : decode cX7_left 13 = .ok (.ireturn, 1) := by decide +kernel
theorem dX7_left_14 : decode cX7_left 14 = .ok (.iload_n 1, 1) := by decide +kernel
theorem dX7_left_15 : decode cX7_left 15 = .ok (.iconst (-1), 1) := by decide +kernel
theorem dX7_left_16 : decode cX7_left 16 = .ok (.if_icmp .ne 8, 3) := by decide +kernel
theorem dX7_left_19 : decode cX7_left 19 = .ok (.aload_n 0, 1) := by decide +kernel
theorem dX7_left_20 : decode cX7_left 20 = .ok (.invokevirtual 72, 3) := by decide +kernel
theorem dX7_left_23 : decode cX7_left 23 = .ok (.ireturn, 1) := by decide +kernel
theorem dX7_left_24 : decode cX7_left 24 = .ok (.iconst 0, 1) := by decide +kernel
theorem dX7_left_25 : decode cX7_left 25 = .ok (.istore_n 2, 1) := by decide +kernel
theorem dX7_left_26 : decode cX7_left 26 = .ok (.iconst 0, 1) := by decide +kernel
theorem dX7_left_27 : decode cX7_left 27 = .ok (.istore_n 3, 1) := by decide +kernel
theorem dX7_left_28 : decode cX7_left 28 = .ok (.iload_n 3, 1) := by decide +kernel
theorem dX7_left_29 : decode cX7_left 29 = .ok (.aload_n 0, 1) := by decide +kernel
theorem dX7_left_30 : decode cX7_left 30 = .ok (.getfield 69, 3) := by decide +kernel
theorem dX7_left_33 : decode cX7_left 33 = .ok (.if_icmp .ge 28, 3) := by decide +kernel
theorem dX7_left_36 : decode cX7_left 36 = .ok (.aload_n 0, 1) := by decide +kernel
theorem dX7_left_37 : decode cX7_left 37 = .ok (.getfield 27, 3) := by decide +kernel
theorem dX7_left_40 : decode cX7_left 40 = .ok (.iload_n 3, 1) := by decide +kernel
theorem dX7_left_41 : decode cX7_left 41 = .ok (.iaload, 1) := by decide +kernel
theorem dX7_left_42 : decode cX7_left 42 = .ok (.ifCond .ne 13, 3) := by decide +kernel
theorem dX7_left_45 : decode cX7_left 45 = .ok (.iload_n 2, 1) := by decide +kernel
theorem dX7_left_46 : decode cX7_left 46 = .ok (.iload_n 1, 1) := by decide +kernel
theorem dX7_left_47 : decode cX7_left 47 = .ok (.if_icmp .ne 5, 3) := by decide +kernel
theorem dX7_left_50 : decode cX7_left 50 = .ok (.iload_n 3, 1) := by decide +kernel
theorem dX7_left_51 : decode cX7_left 51 = .ok (.ireturn, 1) := by decide +kernel
theorem dX7_left_52 : decode cX7_left 52 = .ok (.iinc 2 1, 3) := by decide +kernel
theorem dX7_left_55 : decode cX7_left 55 = .ok (.iinc 3 1, 3) := by decide +kernel
theorem dX7_left_58 : decode cX7_left 58 = .ok (.goto (-30), 3) := by decide +kernel
theorem dX7_left_61 : decode cX7_left 61 = .ok (.iconst (-1), 1) := by decide +kernel
theorem dX7_left_62 : decode cX7_left 62 = .ok (.ireturn, 1) := by decide +kernel
theorem dX7_raceOf_0 : decode cX7_raceOf 0 = .ok (.aload_n 0, 1) := by decide +kernel
theorem dX7_raceOf_1 : decode cX7_raceOf 1 = .ok (.iconst 0, 1) := by decide +kernel
theorem dX7_raceOf_2 : decode cX7_raceOf 2 = .ok (.putfield 43, 3) := by decide +kernel
theorem dX7_raceOf_5 : decode cX7_raceOf 5 = .ok (.iload_n 1, 1) := by decide +kernel
theorem dX7_raceOf_6 : decode cX7_raceOf 6 = .ok (.iconst 0, 1) := by decide +kernel
theorem dX7_raceOf_7 : decode cX7_raceOf 7 = .ok (.iconst 4, 1) := by decide +kernel
theorem dX7_raceOf_8 : decode cX7_raceOf 8 = .ok (.invokestatic 49, 3) := by decide +kernel
theorem dX7_raceOf_11 : decode cX7_raceOf 11 = .ok (.ifCond .ne 6, 3) := by decide +kernel
theorem dX7_raceOf_14 : decode cX7_raceOf 14 = .ok (.bipush (-2), 2) := by decide +kernel
theorem dX7_raceOf_16 : decode cX7_raceOf 16 = .ok (.ireturn, 1) := by decide +kernel
theorem dX7_raceOf_17 : decode cX7_raceOf 17 = .ok (.aload_n 0, 1) := by decide +kernel
theorem dX7_raceOf_18 : decode cX7_raceOf 18 = .ok (.getfield 20, 3) := by decide +kernel
theorem dX7_raceOf_21 : decode cX7_raceOf 21 = .ok (.ifCond .ge 6, 3) := by decide +kernel
theorem dX7_raceOf_24 : decode cX7_raceOf 24 = .ok (.bipush (-3), 2) := by decide +kernel
theorem dX7_raceOf_26 : decode cX7_raceOf 26 = .ok (.ireturn, 1) := by decide +kernel
theorem dX7_raceOf_27 : decode cX7_raceOf 27 = .ok (.iload_n 1, 1) := by decide +kernel
theorem dX7_raceOf_28 : decode cX7_raceOf 28 = .ok (.ifCond .ne 10, 3) := by decide +kernel
theorem dX7_raceOf_31 : decode cX7_raceOf 31 = .ok (.aload_n 0, 1) := by decide +kernel
theorem dX7_raceOf_32 : decode cX7_raceOf 32 = .ok (.getfield 91, 3) := by decide +kernel
theorem dX7_raceOf_35 : decode cX7_raceOf 35 = .ok (.goto 48, 3) := by decide +kernel
theorem dX7_raceOf_38 : decode cX7_raceOf 38 = .ok (.iload_n 1, 1) := by decide +kernel
theorem dX7_raceOf_39 : decode cX7_raceOf 39 = .ok (.iconst 1, 1) := by decide +kernel
theorem dX7_raceOf_40 : decode cX7_raceOf 40 = .ok (.if_icmp .ne 10, 3) := by decide +kernel
theorem dX7_raceOf_43 : decode cX7_raceOf 43 = .ok (.aload_n 0, 1) := by decide +kernel
theorem dX7_raceOf_44 : decode cX7_raceOf 44 = .ok (.getfield 79, 3) := by decide +kernel
theorem dX7_raceOf_47 : decode cX7_raceOf 47 = .ok (.goto 36, 3) := by decide +kernel
theorem dX7_raceOf_50 : decode cX7_raceOf 50 = .ok (.iload_n 1, 1) := by decide +kernel
theorem dX7_raceOf_51 : decode cX7_raceOf 51 = .ok (.iconst 2, 1) := by decide +kernel
theorem dX7_raceOf_52 : decode cX7_raceOf 52 = .ok (.if_icmp .ne 10, 3) := by decide +kernel
theorem dX7_raceOf_55 : decode cX7_raceOf 55 = .ok (.aload_n 0, 1) := by decide +kernel
theorem dX7_raceOf_56 : decode cX7_raceOf 56 = .ok (.getfield 88, 3) := by decide +kernel
theorem dX7_raceOf_59 : decode cX7_raceOf 59 = .ok (.goto 24, 3) := by decide +kernel
theorem dX7_raceOf_62 : decode cX7_raceOf 62 = .ok (.iload_n 1, 1) := by decide +kernel
theorem dX7_raceOf_63 : decode cX7_raceOf 63 = .ok (.iconst 3, 1) := by decide +kernel
theorem dX7_raceOf_64 : decode cX7_raceOf 64 = .ok (.if_icmp .ne 10, 3) := by decide +kernel
theorem dX7_raceOf_67 : decode cX7_raceOf 67 = .ok (.aload_n 0, 1) := by decide +kernel
theorem dX7_raceOf_68 : decode cX7_raceOf 68 = .ok (.invokevirtual 121, 3) := by decide +kernel
theorem dX7_raceOf_71 : decode cX7_raceOf 71 = .ok (.goto 12, 3) := by decide +kernel
theorem dX7_raceOf_74 : decode cX7_raceOf 74 = .ok (.aload_n 0, 1) := by decide +kernel
theorem dX7_raceOf_75 : decode cX7_raceOf 75 = .ok (.getfield 69, 3) := by decide +kernel
theorem dX7_raceOf_78 : decode cX7_raceOf 78 = .ok (.aload_n 0, 1) := by decide +kernel
theorem dX7_raceOf_79 : decode cX7_raceOf 79 = .ok (.invokevirtual 72, 3) := by decide +kernel
theorem dX7_raceOf_82 : decode cX7_raceOf 82 = .ok (.isub, 1) := by decide +kernel
theorem dX7_raceOf_83 : decode cX7_raceOf 83 = .ok (.ireturn, 1) := by decide +kernel
theorem dX7_rank_0 : decode cX7_rank 0 = .ok (.aload_n 0, 1) := by decide +kernel
theorem dX7_rank_1 : decode cX7_rank 1 = .ok (.iconst 0, 1) := by decide +kernel
theorem dX7_rank_2 : decode cX7_rank 2 = .ok (.putfield 43, 3) := by decide +kernel
theorem dX7_rank_5 : decode cX7_rank 5 = .ok (.aload_n 0, 1) := by decide +kernel
theorem dX7_rank_6 : decode cX7_rank 6 = .ok (.getfield 20, 3) := by decide +kernel
theorem dX7_rank_9 : decode cX7_rank 9 = .ok (.ifCond .lt 26, 3) := by decide +kernel
theorem dX7_rank_12 : decode cX7_rank 12 = .ok (.iload_n 1, 1) := by decide +kernel
theorem dX7_rank_13 : decode cX7_rank 13 = .ok (.iconst 0, 1) := by decide +kernel
theorem dX7_rank_14 : decode cX7_rank 14 = .ok (.aload_n 0, 1) := by decide +kernel
theorem dX7_rank_15 : decode cX7_rank 15 = .ok (.getfield 69, 3) := by decide +kernel
theorem dX7_rank_18 : decode cX7_rank 18 = .ok (.iconst 1, 1) := by decide +kernel
theorem dX7_rank_19 : decode cX7_rank 19 = .ok (.isub, 1) := by decide +kernel
theorem dX7_rank_20 : decode cX7_rank 20 = .ok (.invokestatic 49, 3) := by decide +kernel
theorem dX7_rank_23 : decode cX7_rank 23 = .ok (.ifCond .eq 12, 3) := by decide +kernel
theorem dX7_rank_26 : decode cX7_rank 26 = .ok (.aload_n 0, 1) := by decide +kernel
theorem dX7_rank_27 : decode cX7_rank 27 = .ok (.getfield 27, 3) := by decide +kernel
theorem dX7_rank_30 : decode cX7_rank 30 = .ok (.iload_n 1, 1) := by decide +kernel
theorem dX7_rank_31 : decode cX7_rank 31 = .ok (.iaload, 1) := by decide +kernel
theorem dX7_rank_32 : decode cX7_rank 32 = .ok (.ifCond .eq 7, 3) := by decide +kernel
theorem dX7_rank_35 : decode cX7_rank 35 = .ok (.iconst (-1), 1) := by decide +kernel
theorem dX7_rank_36 : decode cX7_rank 36 = .ok (.goto 8, 3) := by decide +kernel
theorem dX7_rank_39 : decode cX7_rank 39 = .ok (.aload_n 0, 1) := by decide +kernel
theorem dX7_rank_40 : decode cX7_rank 40 = .ok (.iload_n 1, 1) := by decide +kernel
theorem dX7_rank_41 : decode cX7_rank 41 = .ok (.invokevirtual 117, 3) := by decide +kernel
theorem dX7_rank_44 : decode cX7_rank 44 = .ok (.ireturn, 1) := by decide +kernel
theorem dX7_dropped_0 : decode cX7_dropped 0 = .ok (.aload_n 0, 1) := by decide +kernel
theorem dX7_dropped_1 : decode cX7_dropped 1 = .ok (.iconst 0, 1) := by decide +kernel
theorem dX7_dropped_2 : decode cX7_dropped 2 = .ok (.putfield 43, 3) := by decide +kernel
theorem dX7_dropped_5 : decode cX7_dropped 5 = .ok (.aload_n 0, 1) := by decide +kernel
theorem dX7_dropped_6 : decode cX7_dropped 6 = .ok (.getfield 20, 3) := by decide +kernel
theorem dX7_dropped_9 : decode cX7_dropped 9 = .ok (.ifCond .lt 17, 3) := by decide +kernel
theorem dX7_dropped_12 : decode cX7_dropped 12 = .ok (.iload_n 1, 1) := by decide +kernel
theorem dX7_dropped_13 : decode cX7_dropped 13 = .ok (.iconst 0, 1) := by decide +kernel
theorem dX7_dropped_14 : decode cX7_dropped 14 = .ok (.aload_n 0, 1) := by decide +kernel
theorem dX7_dropped_15 : decode cX7_dropped 15 = .ok (.getfield 69, 3) := by decide +kernel
theorem dX7_dropped_18 : decode cX7_dropped 18 = .ok (.iconst 1, 1) := by decide +kernel
theorem dX7_dropped_19 : decode cX7_dropped 19 = .ok (.isub, 1) := by decide +kernel
theorem dX7_dropped_20 : decode cX7_dropped 20 = .ok (.invokestatic 49, 3) := by decide +kernel
theorem dX7_dropped_23 : decode cX7_dropped 23 = .ok (.ifCond .ne 7, 3) := by decide +kernel
theorem dX7_dropped_26 : decode cX7_dropped 26 = .ok (.iconst (-1), 1) := by decide +kernel
theorem dX7_dropped_27 : decode cX7_dropped 27 = .ok (.goto 23, 3) := by decide +kernel
theorem dX7_dropped_30 : decode cX7_dropped 30 = .ok (.aload_n 0, 1) := by decide +kernel
theorem dX7_dropped_31 : decode cX7_dropped 31 = .ok (.getfield 27, 3) := by decide +kernel
theorem dX7_dropped_34 : decode cX7_dropped 34 = .ok (.iload_n 1, 1) := by decide +kernel
theorem dX7_dropped_35 : decode cX7_dropped 35 = .ok (.iaload, 1) := by decide +kernel
theorem dX7_dropped_36 : decode cX7_dropped 36 = .ok (.ifCond .ne 8, 3) := by decide +kernel
theorem dX7_dropped_39 : decode cX7_dropped 39 = .ok (.bipush (-3), 2) := by decide +kernel
theorem dX7_dropped_41 : decode cX7_dropped 41 = .ok (.goto 9, 3) := by decide +kernel
theorem dX7_dropped_44 : decode cX7_dropped 44 = .ok (.aload_n 0, 1) := by decide +kernel
theorem dX7_dropped_45 : decode cX7_dropped 45 = .ok (.getfield 27, 3) := by decide +kernel
theorem dX7_dropped_48 : decode cX7_dropped 48 = .ok (.iload_n 1, 1) := by decide +kernel
theorem dX7_dropped_49 : decode cX7_dropped 49 = .ok (.iaload, 1) := by decide +kernel
theorem dX7_dropped_50 : decode cX7_dropped 50 = .ok (.ireturn, 1) := by decide +kernel
theorem dX7_odds_0 : decode cX7_odds 0 = .ok (.aload_n 0, 1) := by decide +kernel
theorem dX7_odds_1 : decode cX7_odds 1 = .ok (.iconst 0, 1) := by decide +kernel
theorem dX7_odds_2 : decode cX7_odds 2 = .ok (.putfield 43, 3) := by decide +kernel
theorem dX7_odds_5 : decode cX7_odds 5 = .ok (.aload_n 0, 1) := by decide +kernel
theorem dX7_odds_6 : decode cX7_odds 6 = .ok (.getfield 20, 3) := by decide +kernel
theorem dX7_odds_9 : decode cX7_odds 9 = .ok (.ifCond .lt 40, 3) := by decide +kernel
theorem dX7_odds_12 : decode cX7_odds 12 = .ok (.iload_n 1, 1) := by decide +kernel
theorem dX7_odds_13 : decode cX7_odds 13 = .ok (.iconst 0, 1) := by decide +kernel
theorem dX7_odds_14 : decode cX7_odds 14 = .ok (.aload_n 0, 1) := by decide +kernel
theorem dX7_odds_15 : decode cX7_odds 15 = .ok (.getfield 69, 3) := by decide +kernel
theorem dX7_odds_18 : decode cX7_odds 18 = .ok (.iconst 1, 1) := by decide +kernel
theorem dX7_odds_19 : decode cX7_odds 19 = .ok (.isub, 1) := by decide +kernel
theorem dX7_odds_20 : decode cX7_odds 20 = .ok (.invokestatic 49, 3) := by decide +kernel
theorem dX7_odds_23 : decode cX7_odds 23 = .ok (.ifCond .eq 26, 3) := by decide +kernel
theorem dX7_odds_26 : decode cX7_odds 26 = .ok (.iload_n 2, 1) := by decide +kernel
theorem dX7_odds_27 : decode cX7_odds 27 = .ok (.iconst 0, 1) := by decide +kernel
theorem dX7_odds_28 : decode cX7_odds 28 = .ok (.aload_n 0, 1) := by decide +kernel
theorem dX7_odds_29 : decode cX7_odds 29 = .ok (.getfield 69, 3) := by decide +kernel
theorem dX7_odds_32 : decode cX7_odds 32 = .ok (.iconst 1, 1) := by decide +kernel
theorem dX7_odds_33 : decode cX7_odds 33 = .ok (.isub, 1) := by decide +kernel
theorem dX7_odds_34 : decode cX7_odds 34 = .ok (.invokestatic 49, 3) := by decide +kernel
theorem dX7_odds_37 : decode cX7_odds 37 = .ok (.ifCond .eq 12, 3) := by decide +kernel
theorem dX7_odds_40 : decode cX7_odds 40 = .ok (.iload_n 3, 1) := by decide +kernel
theorem dX7_odds_41 : decode cX7_odds 41 = .ok (.iconst 0, 1) := by decide +kernel
theorem dX7_odds_42 : decode cX7_odds 42 = .ok (.iconst 1, 1) := by decide +kernel
theorem dX7_odds_43 : decode cX7_odds 43 = .ok (.invokestatic 49, 3) := by decide +kernel
theorem dX7_odds_46 : decode cX7_odds 46 = .ok (.ifCond .ne 7, 3) := by decide +kernel
theorem dX7_odds_49 : decode cX7_odds 49 = .ok (.ldc2_w 140, 3) := by decide +kernel
theorem dX7_odds_52 : decode cX7_odds 52 = .ok (.lreturn, 1) := by decide +kernel
theorem dX7_odds_53 : decode cX7_odds 53 = .ok (.aload_n 0, 1) := by decide +kernel
theorem dX7_odds_54 : decode cX7_odds 54 = .ok (.iload_n 1, 1) := by decide +kernel
theorem dX7_odds_55 : decode cX7_odds 55 = .ok (.iload_n 2, 1) := by decide +kernel
theorem dX7_odds_56 : decode cX7_odds 56 = .ok (.invokevirtual 124, 3) := by decide +kernel
theorem dX7_odds_59 : decode cX7_odds 59 = .ok (.iload_n 3, 1) := by decide +kernel
theorem dX7_odds_60 : decode cX7_odds 60 = .ok (.ifCond .ne 10, 3) := by decide +kernel
theorem dX7_odds_63 : decode cX7_odds 63 = .ok (.aload_n 0, 1) := by decide +kernel
theorem dX7_odds_64 : decode cX7_odds 64 = .ok (.getfield 128, 3) := by decide +kernel
theorem dX7_odds_67 : decode cX7_odds 67 = .ok (.goto 7, 3) := by decide +kernel
theorem dX7_odds_70 : decode cX7_odds 70 = .ok (.aload_n 0, 1) := by decide +kernel
theorem dX7_odds_71 : decode cX7_odds 71 = .ok (.getfield 132, 3) := by decide +kernel
theorem dX7_odds_74 : decode cX7_odds 74 = .ok (.lreturn, 1) := by decide +kernel
theorem dX7_isWhole_0 : decode cX7_isWhole 0 = .ok (.iconst 0, 1) := by decide +kernel
theorem dX7_isWhole_1 : decode cX7_isWhole 1 = .ok (.istore_n 2, 1) := by decide +kernel
theorem dX7_isWhole_2 : decode cX7_isWhole 2 = .ok (.iload_n 2, 1) := by decide +kernel
theorem dX7_isWhole_3 : decode cX7_isWhole 3 = .ok (.aload_n 0, 1) := by decide +kernel
theorem dX7_isWhole_4 : decode cX7_isWhole 4 = .ok (.getfield 53, 3) := by decide +kernel
theorem dX7_isWhole_7 : decode cX7_isWhole 7 = .ok (.if_icmp .ge 25, 3) := by decide +kernel
theorem dX7_isWhole_10 : decode cX7_isWhole 10 = .ok (.aload_n 0, 1) := by decide +kernel
theorem dX7_isWhole_11 : decode cX7_isWhole 11 = .ok (.getfield 17, 3) := by decide +kernel
theorem dX7_isWhole_14 : decode cX7_isWhole 14 = .ok (.bipush 24, 2) := by decide +kernel
theorem dX7_isWhole_16 : decode cX7_isWhole 16 = .ok (.iload_n 1, 1) := by decide +kernel
theorem dX7_isWhole_17 : decode cX7_isWhole 17 = .ok (.imul, 1) := by decide +kernel
theorem dX7_isWhole_18 : decode cX7_isWhole 18 = .ok (.iload_n 2, 1) := by decide +kernel
theorem dX7_isWhole_19 : decode cX7_isWhole 19 = .ok (.iadd, 1) := by decide +kernel
theorem dX7_isWhole_20 : decode cX7_isWhole 20 = .ok (.iaload, 1) := by decide +kernel
theorem dX7_isWhole_21 : decode cX7_isWhole 21 = .ok (.ifCond .ne 5, 3) := by decide +kernel
theorem dX7_isWhole_24 : decode cX7_isWhole 24 = .ok (.iconst 0, 1) := by decide +kernel
theorem dX7_isWhole_25 : decode cX7_isWhole 25 = .ok (.ireturn, 1) := by decide +kernel
theorem dX7_isWhole_26 : decode cX7_isWhole 26 = .ok (.iinc 2 1, 3) := by decide +kernel
theorem dX7_isWhole_29 : decode cX7_isWhole 29 = .ok (.goto (-27), 3) := by decide +kernel
theorem dX7_isWhole_32 : decode cX7_isWhole 32 = .ok (.iconst 1, 1) := by decide +kernel
theorem dX7_isWhole_33 : decode cX7_isWhole 33 = .ok (.ireturn, 1) := by decide +kernel
theorem dX7_wholes_0 : decode cX7_wholes 0 = .ok (.iconst 0, 1) := by decide +kernel
theorem dX7_wholes_1 : decode cX7_wholes 1 = .ok (.istore_n 1, 1) := by decide +kernel
theorem dX7_wholes_2 : decode cX7_wholes 2 = .ok (.iconst 0, 1) := by decide +kernel
theorem dX7_wholes_3 : decode cX7_wholes 3 = .ok (.istore_n 2, 1) := by decide +kernel
theorem dX7_wholes_4 : decode cX7_wholes 4 = .ok (.iload_n 2, 1) := by decide +kernel
theorem dX7_wholes_5 : decode cX7_wholes 5 = .ok (.aload_n 0, 1) := by decide +kernel
theorem dX7_wholes_6 : decode cX7_wholes 6 = .ok (.getfield 46, 3) := by decide +kernel
theorem dX7_wholes_9 : decode cX7_wholes 9 = .ok (.if_icmp .ge 27, 3) := by decide +kernel
theorem dX7_wholes_12 : decode cX7_wholes 12 = .ok (.iload_n 1, 1) := by decide +kernel
theorem dX7_wholes_13 : decode cX7_wholes 13 = .ok (.aload_n 0, 1) := by decide +kernel
theorem dX7_wholes_14 : decode cX7_wholes 14 = .ok (.iload_n 2, 1) := by decide +kernel
theorem dX7_wholes_15 : decode cX7_wholes 15 = .ok (.invokevirtual 142, 3) := by decide +kernel
theorem dX7_wholes_18 : decode cX7_wholes 18 = .ok (.ifCond .eq 9, 3) := by decide +kernel
theorem dX7_wholes_21 : decode cX7_wholes 21 = .ok (.iconst 1, 1) := by decide +kernel
theorem dX7_wholes_22 : decode cX7_wholes 22 = .ok (.iload_n 2, 1) := by decide +kernel
theorem dX7_wholes_23 : decode cX7_wholes 23 = .ok (.ishl, 1) := by decide +kernel
theorem dX7_wholes_24 : decode cX7_wholes 24 = .ok (.goto 4, 3) := by decide +kernel
theorem dX7_wholes_27 : decode cX7_wholes 27 = .ok (.iconst 0, 1) := by decide +kernel
theorem dX7_wholes_28 : decode cX7_wholes 28 = .ok (.ior, 1) := by decide +kernel
theorem dX7_wholes_29 : decode cX7_wholes 29 = .ok (.istore_n 1, 1) := by decide +kernel
theorem dX7_wholes_30 : decode cX7_wholes 30 = .ok (.iinc 2 1, 3) := by decide +kernel
theorem dX7_wholes_33 : decode cX7_wholes 33 = .ok (.goto (-29), 3) := by decide +kernel
theorem dX7_wholes_36 : decode cX7_wholes 36 = .ok (.iload_n 1, 1) := by decide +kernel
theorem dX7_wholes_37 : decode cX7_wholes 37 = .ok (.ireturn, 1) := by decide +kernel
theorem dX7_many_0 : decode cX7_many 0 = .ok (.iconst 0, 1) := by decide +kernel
theorem dX7_many_1 : decode cX7_many 1 = .ok (.istore_n 1, 1) := by decide +kernel
theorem dX7_many_2 : decode cX7_many 2 = .ok (.iconst 0, 1) := by decide +kernel
theorem dX7_many_3 : decode cX7_many 3 = .ok (.istore_n 2, 1) := by decide +kernel
theorem dX7_many_4 : decode cX7_many 4 = .ok (.iload_n 2, 1) := by decide +kernel
theorem dX7_many_5 : decode cX7_many 5 = .ok (.bipush 12, 2) := by decide +kernel
theorem dX7_many_7 : decode cX7_many 7 = .ok (.if_icmp .ge 17, 3) := by decide +kernel
theorem dX7_many_10 : decode cX7_many 10 = .ok (.iload_n 1, 1) := by decide +kernel
theorem dX7_many_11 : decode cX7_many 11 = .ok (.iload_n 0, 1) := by decide +kernel
theorem dX7_many_12 : decode cX7_many 12 = .ok (.iload_n 2, 1) := by decide +kernel
theorem dX7_many_13 : decode cX7_many 13 = .ok (.ishr, 1) := by decide +kernel
theorem dX7_many_14 : decode cX7_many 14 = .ok (.iconst 1, 1) := by decide +kernel
theorem dX7_many_15 : decode cX7_many 15 = .ok (.iand, 1) := by decide +kernel
theorem dX7_many_16 : decode cX7_many 16 = .ok (.iadd, 1) := by decide +kernel
theorem dX7_many_17 : decode cX7_many 17 = .ok (.istore_n 1, 1) := by decide +kernel
theorem dX7_many_18 : decode cX7_many 18 = .ok (.iinc 2 1, 3) := by decide +kernel
theorem dX7_many_21 : decode cX7_many 21 = .ok (.goto (-17), 3) := by decide +kernel
theorem dX7_many_24 : decode cX7_many 24 = .ok (.iload_n 1, 1) := by decide +kernel
theorem dX7_many_25 : decode cX7_many 25 = .ok (.ireturn, 1) := by decide +kernel
theorem dX7_isAhead_0 : decode cX7_isAhead 0 = .ok (.iload_n 0, 1) := by decide +kernel
theorem dX7_isAhead_1 : decode cX7_isAhead 1 = .ok (.iload_n 1, 1) := by decide +kernel
theorem dX7_isAhead_2 : decode cX7_isAhead 2 = .ok (.ixor, 1) := by decide +kernel
theorem dX7_isAhead_3 : decode cX7_isAhead 3 = .ok (.istore_n 2, 1) := by decide +kernel
theorem dX7_isAhead_4 : decode cX7_isAhead 4 = .ok (.iload_n 0, 1) := by decide +kernel
theorem dX7_isAhead_5 : decode cX7_isAhead 5 = .ok (.iload_n 2, 1) := by decide +kernel
theorem dX7_isAhead_6 : decode cX7_isAhead 6 = .ok (.iand, 1) := by decide +kernel
theorem dX7_isAhead_7 : decode cX7_isAhead 7 = .ok (.iload_n 2, 1) := by decide +kernel
theorem dX7_isAhead_8 : decode cX7_isAhead 8 = .ok (.ineg, 1) := by decide +kernel
theorem dX7_isAhead_9 : decode cX7_isAhead 9 = .ok (.iand, 1) := by decide +kernel
theorem dX7_isAhead_10 : decode cX7_isAhead 10 = .ok (.ifCond .eq 7, 3) := by decide +kernel
theorem dX7_isAhead_13 : decode cX7_isAhead 13 = .ok (.iconst 1, 1) := by decide +kernel
theorem dX7_isAhead_14 : decode cX7_isAhead 14 = .ok (.goto 4, 3) := by decide +kernel
theorem dX7_isAhead_17 : decode cX7_isAhead 17 = .ok (.iconst 0, 1) := by decide +kernel
theorem dX7_isAhead_18 : decode cX7_isAhead 18 = .ok (.ireturn, 1) := by decide +kernel
theorem dX7_findSet_0 : decode cX7_findSet 0 = .ok (.aload_n 0, 1) := by decide +kernel
theorem dX7_findSet_1 : decode cX7_findSet 1 = .ok (.invokevirtual 145, 3) := by decide +kernel
theorem dX7_findSet_4 : decode cX7_findSet 4 = .ok (.istore_n 2, 1) := by decide +kernel
theorem dX7_findSet_5 : decode cX7_findSet 5 = .ok (.aload_n 0, 1) := by decide +kernel
theorem dX7_findSet_6 : decode cX7_findSet 6 = .ok (.iconst (-1), 1) := by decide +kernel
theorem dX7_findSet_7 : decode cX7_findSet 7 = .ok (.putfield 148, 3) := by decide +kernel
theorem dX7_findSet_10 : decode cX7_findSet 10 = .ok (.aload_n 0, 1) := by decide +kernel
theorem dX7_findSet_11 : decode cX7_findSet 11 = .ok (.iconst 0, 1) := by decide +kernel
theorem dX7_findSet_12 : decode cX7_findSet 12 = .ok (.putfield 151, 3) := by decide +kernel
theorem dX7_findSet_15 : decode cX7_findSet 15 = .ok (.iconst 0, 1) := by decide +kernel
theorem dX7_findSet_16 : decode cX7_findSet 16 = .ok (.istore_n 3, 1) := by decide +kernel
theorem dX7_findSet_17 : decode cX7_findSet 17 = .ok (.iload_n 3, 1) := by decide +kernel
theorem dX7_findSet_18 : decode cX7_findSet 18 = .ok (.sipush 4096, 3) := by decide +kernel
theorem dX7_findSet_21 : decode cX7_findSet 21 = .ok (.if_icmp .ge 118, 3) := by decide +kernel
theorem dX7_findSet_24 : decode cX7_findSet 24 = .ok (.iload_n 3, 1) := by decide +kernel
theorem dX7_findSet_25 : decode cX7_findSet 25 = .ok (.iload_n 2, 1) := by decide +kernel
theorem dX7_findSet_26 : decode cX7_findSet 26 = .ok (.iand, 1) := by decide +kernel
theorem dX7_findSet_27 : decode cX7_findSet 27 = .ok (.iload_n 3, 1) := by decide +kernel
theorem dX7_findSet_28 : decode cX7_findSet 28 = .ok (.if_icmp .ne 105, 3) := by decide +kernel
theorem dX7_findSet_31 : decode cX7_findSet 31 = .ok (.iload_n 3, 1) := by decide +kernel
theorem dX7_findSet_32 : decode cX7_findSet 32 = .ok (.invokestatic 154, 3) := by decide +kernel
theorem dX7_findSet_35 : decode cX7_findSet 35 = .ok (.iload_n 1, 1) := by decide +kernel
theorem dX7_findSet_36 : decode cX7_findSet 36 = .ok (.if_icmp .ne 97, 3) := by decide +kernel
theorem dX7_findSet_39 : decode cX7_findSet 39 = .ok (.iconst 0, 1) := by decide +kernel
theorem dX7_findSet_40 : decode cX7_findSet 40 = .ok (.istore 4, 2) := by decide +kernel
theorem dX7_findSet_42 : decode cX7_findSet 42 = .ok (.iconst 0, 1) := by decide +kernel
theorem dX7_findSet_43 : decode cX7_findSet 43 = .ok (.istore 5, 2) := by decide +kernel
theorem dX7_findSet_45 : decode cX7_findSet 45 = .ok (.iload 5, 2) := by decide +kernel
theorem dX7_findSet_47 : decode cX7_findSet 47 = .ok (.aload_n 0, 1) := by decide +kernel
theorem dX7_findSet_48 : decode cX7_findSet 48 = .ok (.getfield 53, 3) := by decide +kernel
theorem dX7_findSet_51 : decode cX7_findSet 51 = .ok (.if_icmp .ge 35, 3) := by decide +kernel
theorem dX7_findSet_54 : decode cX7_findSet 54 = .ok (.iload 4, 2) := by decide +kernel
theorem dX7_findSet_56 : decode cX7_findSet 56 = .ok (.aload_n 0, 1) := by decide +kernel
theorem dX7_findSet_57 : decode cX7_findSet 57 = .ok (.getfield 13, 3) := by decide +kernel
theorem dX7_findSet_60 : decode cX7_findSet 60 = .ok (.iload 5, 2) := by decide +kernel
theorem dX7_findSet_62 : decode cX7_findSet 62 = .ok (.baload, 1) := by decide +kernel
theorem dX7_findSet_63 : decode cX7_findSet 63 = .ok (.ifCond .eq 7, 3) := by decide +kernel
theorem dX7_findSet_66 : decode cX7_findSet 66 = .ok (.iconst 0, 1) := by decide +kernel
theorem dX7_findSet_67 : decode cX7_findSet 67 = .ok (.goto 10, 3) := by decide +kernel
theorem dX7_findSet_70 : decode cX7_findSet 70 = .ok (.aload_n 0, 1) := by decide +kernel
theorem dX7_findSet_71 : decode cX7_findSet 71 = .ok (.iload_n 3, 1) := by decide +kernel
theorem dX7_findSet_72 : decode cX7_findSet 72 = .ok (.iload 5, 2) := by decide +kernel
theorem dX7_findSet_74 : decode cX7_findSet 74 = .ok (.invokevirtual 157, 3) := by decide +kernel
theorem dX7_findSet_77 : decode cX7_findSet 77 = .ok (.iadd, 1) := by decide +kernel
theorem dX7_findSet_78 : decode cX7_findSet 78 = .ok (.istore 4, 2) := by decide +kernel
theorem dX7_findSet_80 : decode cX7_findSet 80 = .ok (.iinc 5 1, 3) := by decide +kernel
theorem dX7_findSet_83 : decode cX7_findSet 83 = .ok (.goto (-38), 3) := by decide +kernel
theorem dX7_findSet_86 : decode cX7_findSet 86 = .ok (.aload_n 0, 1) := by decide +kernel
theorem dX7_findSet_87 : decode cX7_findSet 87 = .ok (.getfield 148, 3) := by decide +kernel
theorem dX7_findSet_90 : decode cX7_findSet 90 = .ok (.ifCond .lt 32, 3) := by decide +kernel
theorem dX7_findSet_93 : decode cX7_findSet 93 = .ok (.iload 4, 2) := by decide +kernel
theorem dX7_findSet_95 : decode cX7_findSet 95 = .ok (.aload_n 0, 1) := by decide +kernel
theorem dX7_findSet_96 : decode cX7_findSet 96 = .ok (.getfield 151, 3) := by decide +kernel
theorem dX7_findSet_99 : decode cX7_findSet 99 = .ok (.if_icmp .lt 23, 3) := by decide +kernel
theorem dX7_findSet_102 : decode cX7_findSet 102 = .ok (.iload 4, 2) := by decide +kernel
theorem dX7_findSet_104 : decode cX7_findSet 104 = .ok (.aload_n 0, 1) := by decide +kernel
theorem dX7_findSet_105 : decode cX7_findSet 105 = .ok (.getfield 151, 3) := by decide +kernel
theorem dX7_findSet_108 : decode cX7_findSet 108 = .ok (.if_icmp .ne 25, 3) := by decide +kernel
theorem dX7_findSet_111 : decode cX7_findSet 111 = .ok (.iload_n 3, 1) := by decide +kernel
theorem dX7_findSet_112 : decode cX7_findSet 112 = .ok (.aload_n 0, 1) := by decide +kernel
theorem dX7_findSet_113 : decode cX7_findSet 113 = .ok (.getfield 148, 3) := by decide +kernel
theorem dX7_findSet_116 : decode cX7_findSet 116 = .ok (.invokestatic 160, 3) := by decide +kernel
theorem dX7_findSet_119 : decode cX7_findSet 119 = .ok (.ifCond .eq 14, 3) := by decide +kernel
theorem dX7_findSet_122 : decode cX7_findSet 122 = .ok (.aload_n 0, 1) := by decide +kernel
theorem dX7_findSet_123 : decode cX7_findSet 123 = .ok (.iload_n 3, 1) := by decide +kernel
theorem dX7_findSet_124 : decode cX7_findSet 124 = .ok (.putfield 148, 3) := by decide +kernel
theorem dX7_findSet_127 : decode cX7_findSet 127 = .ok (.aload_n 0, 1) := by decide +kernel
theorem dX7_findSet_128 : decode cX7_findSet 128 = .ok (.iload 4, 2) := by decide +kernel
theorem dX7_findSet_130 : decode cX7_findSet 130 = .ok (.putfield 151, 3) := by decide +kernel
theorem dX7_findSet_133 : decode cX7_findSet 133 = .ok (.iinc 3 1, 3) := by decide +kernel
theorem dX7_findSet_136 : decode cX7_findSet 136 = .ok (.goto (-119), 3) := by decide +kernel
theorem dX7_findSet_139 : decode cX7_findSet 139 = .ok (.return_, 1) := by decide +kernel
theorem dX7_leastOf_0 : decode cX7_leastOf 0 = .ok (.ldc 64, 2) := by decide +kernel
theorem dX7_leastOf_2 : decode cX7_leastOf 2 = .ok (.istore_n 3, 1) := by decide +kernel
theorem dX7_leastOf_3 : decode cX7_leastOf 3 = .ok (.iconst 0, 1) := by decide +kernel
theorem dX7_leastOf_4 : decode cX7_leastOf 4 = .ok (.istore 4, 2) := by decide +kernel
theorem dX7_leastOf_6 : decode cX7_leastOf 6 = .ok (.iload 4, 2) := by decide +kernel
theorem dX7_leastOf_8 : decode cX7_leastOf 8 = .ok (.aload_n 0, 1) := by decide +kernel
theorem dX7_leastOf_9 : decode cX7_leastOf 9 = .ok (.getfield 46, 3) := by decide +kernel
theorem dX7_leastOf_12 : decode cX7_leastOf 12 = .ok (.if_icmp .ge 42, 3) := by decide +kernel
theorem dX7_leastOf_15 : decode cX7_leastOf 15 = .ok (.iload_n 1, 1) := by decide +kernel
theorem dX7_leastOf_16 : decode cX7_leastOf 16 = .ok (.iload 4, 2) := by decide +kernel
theorem dX7_leastOf_18 : decode cX7_leastOf 18 = .ok (.ishr, 1) := by decide +kernel
theorem dX7_leastOf_19 : decode cX7_leastOf 19 = .ok (.iconst 1, 1) := by decide +kernel
theorem dX7_leastOf_20 : decode cX7_leastOf 20 = .ok (.iand, 1) := by decide +kernel
theorem dX7_leastOf_21 : decode cX7_leastOf 21 = .ok (.iconst 1, 1) := by decide +kernel
theorem dX7_leastOf_22 : decode cX7_leastOf 22 = .ok (.if_icmp .ne 24, 3) := by decide +kernel
theorem dX7_leastOf_25 : decode cX7_leastOf 25 = .ok (.aload_n 0, 1) := by decide +kernel
theorem dX7_leastOf_26 : decode cX7_leastOf 26 = .ok (.iload 4, 2) := by decide +kernel
theorem dX7_leastOf_28 : decode cX7_leastOf 28 = .ok (.iload_n 2, 1) := by decide +kernel
theorem dX7_leastOf_29 : decode cX7_leastOf 29 = .ok (.invokevirtual 65, 3) := by decide +kernel
theorem dX7_leastOf_32 : decode cX7_leastOf 32 = .ok (.iload_n 3, 1) := by decide +kernel
theorem dX7_leastOf_33 : decode cX7_leastOf 33 = .ok (.if_icmp .ge 13, 3) := by decide +kernel
theorem dX7_leastOf_36 : decode cX7_leastOf 36 = .ok (.aload_n 0, 1) := by decide +kernel
theorem dX7_leastOf_37 : decode cX7_leastOf 37 = .ok (.iload 4, 2) := by decide +kernel
theorem dX7_leastOf_39 : decode cX7_leastOf 39 = .ok (.iload_n 2, 1) := by decide +kernel
theorem dX7_leastOf_40 : decode cX7_leastOf 40 = .ok (.invokevirtual 65, 3) := by decide +kernel
theorem dX7_leastOf_43 : decode cX7_leastOf 43 = .ok (.goto 4, 3) := by decide +kernel
theorem dX7_leastOf_46 : decode cX7_leastOf 46 = .ok (.iload_n 3, 1) := by decide +kernel
theorem dX7_leastOf_47 : decode cX7_leastOf 47 = .ok (.istore_n 3, 1) := by decide +kernel
theorem dX7_leastOf_48 : decode cX7_leastOf 48 = .ok (.iinc 4 1, 3) := by decide +kernel
theorem dX7_leastOf_51 : decode cX7_leastOf 51 = .ok (.goto (-45), 3) := by decide +kernel
theorem dX7_leastOf_54 : decode cX7_leastOf 54 = .ok (.iload_n 3, 1) := by decide +kernel
theorem dX7_leastOf_55 : decode cX7_leastOf 55 = .ok (.ireturn, 1) := by decide +kernel
theorem dX7_portfolio_0 : decode cX7_portfolio 0 = .ok (.aload_n 0, 1) := by decide +kernel
theorem dX7_portfolio_1 : decode cX7_portfolio 1 = .ok (.iconst 0, 1) := by decide +kernel
theorem dX7_portfolio_2 : decode cX7_portfolio 2 = .ok (.putfield 43, 3) := by decide +kernel
theorem dX7_portfolio_5 : decode cX7_portfolio 5 = .ok (.iload_n 1, 1) := by decide +kernel
theorem dX7_portfolio_6 : decode cX7_portfolio 6 = .ok (.iconst 1, 1) := by decide +kernel
theorem dX7_portfolio_7 : decode cX7_portfolio 7 = .ok (.if_icmp .ge 6, 3) := by decide +kernel
theorem dX7_portfolio_10 : decode cX7_portfolio 10 = .ok (.bipush (-2), 2) := by decide +kernel
theorem dX7_portfolio_12 : decode cX7_portfolio 12 = .ok (.ireturn, 1) := by decide +kernel
theorem dX7_portfolio_13 : decode cX7_portfolio 13 = .ok (.aload_n 0, 1) := by decide +kernel
theorem dX7_portfolio_14 : decode cX7_portfolio 14 = .ok (.invokevirtual 145, 3) := by decide +kernel
theorem dX7_portfolio_17 : decode cX7_portfolio 17 = .ok (.invokestatic 154, 3) := by decide +kernel
theorem dX7_portfolio_20 : decode cX7_portfolio 20 = .ok (.iload_n 1, 1) := by decide +kernel
theorem dX7_portfolio_21 : decode cX7_portfolio 21 = .ok (.if_icmp .ge 6, 3) := by decide +kernel
theorem dX7_portfolio_24 : decode cX7_portfolio 24 = .ok (.bipush (-3), 2) := by decide +kernel
theorem dX7_portfolio_26 : decode cX7_portfolio 26 = .ok (.ireturn, 1) := by decide +kernel
theorem dX7_portfolio_27 : decode cX7_portfolio 27 = .ok (.iload_n 2, 1) := by decide +kernel
theorem dX7_portfolio_28 : decode cX7_portfolio 28 = .ok (.iconst (-1), 1) := by decide +kernel
theorem dX7_portfolio_29 : decode cX7_portfolio 29 = .ok (.iload_n 1, 1) := by decide +kernel
theorem dX7_portfolio_30 : decode cX7_portfolio 30 = .ok (.iconst 1, 1) := by decide +kernel
theorem dX7_portfolio_31 : decode cX7_portfolio 31 = .ok (.isub, 1) := by decide +kernel
theorem dX7_portfolio_32 : decode cX7_portfolio 32 = .ok (.invokestatic 49, 3) := by decide +kernel
theorem dX7_portfolio_35 : decode cX7_portfolio 35 = .ok (.ifCond .ne 5, 3) := by decide +kernel
theorem dX7_portfolio_38 : decode cX7_portfolio 38 = .ok (.iconst (-1), 1) := by decide +kernel
theorem dX7_portfolio_39 : decode cX7_portfolio 39 = .ok (.ireturn, 1) := by decide +kernel
theorem dX7_portfolio_40 : decode cX7_portfolio 40 = .ok (.aload_n 0, 1) := by decide +kernel
theorem dX7_portfolio_41 : decode cX7_portfolio 41 = .ok (.iload_n 1, 1) := by decide +kernel
theorem dX7_portfolio_42 : decode cX7_portfolio 42 = .ok (.invokevirtual 164, 3) := by decide +kernel
theorem dX7_portfolio_45 : decode cX7_portfolio 45 = .ok (.iload_n 2, 1) := by decide +kernel
theorem dX7_portfolio_46 : decode cX7_portfolio 46 = .ok (.ifCond .ge 8, 3) := by decide +kernel
theorem dX7_portfolio_49 : decode cX7_portfolio 49 = .ok (.aload_n 0, 1) := by decide +kernel
theorem dX7_portfolio_50 : decode cX7_portfolio 50 = .ok (.getfield 151, 3) := by decide +kernel
theorem dX7_portfolio_53 : decode cX7_portfolio 53 = .ok (.ireturn, 1) := by decide +kernel
theorem dX7_portfolio_54 : decode cX7_portfolio 54 = .ok (.iconst 0, 1) := by decide +kernel
theorem dX7_portfolio_55 : decode cX7_portfolio 55 = .ok (.istore_n 3, 1) := by decide +kernel
theorem dX7_portfolio_56 : decode cX7_portfolio 56 = .ok (.iconst 0, 1) := by decide +kernel
theorem dX7_portfolio_57 : decode cX7_portfolio 57 = .ok (.istore 4, 2) := by decide +kernel
theorem dX7_portfolio_59 : decode cX7_portfolio 59 = .ok (.iload 4, 2) := by decide +kernel
theorem dX7_portfolio_61 : decode cX7_portfolio 61 = .ok (.bipush 12, 2) := by decide +kernel
theorem dX7_portfolio_63 : decode cX7_portfolio 63 = .ok (.if_icmp .ge 33, 3) := by decide +kernel
theorem dX7_portfolio_66 : decode cX7_portfolio 66 = .ok (.aload_n 0, 1) := by decide +kernel
theorem dX7_portfolio_67 : decode cX7_portfolio 67 = .ok (.getfield 148, 3) := by decide +kernel
theorem dX7_portfolio_70 : decode cX7_portfolio 70 = .ok (.iload 4, 2) := by decide +kernel
theorem dX7_portfolio_72 : decode cX7_portfolio 72 = .ok (.ishr, 1) := by decide +kernel
theorem dX7_portfolio_73 : decode cX7_portfolio 73 = .ok (.iconst 1, 1) := by decide +kernel
theorem dX7_portfolio_74 : decode cX7_portfolio 74 = .ok (.iand, 1) := by decide +kernel
theorem dX7_portfolio_75 : decode cX7_portfolio 75 = .ok (.iconst 1, 1) := by decide +kernel
theorem dX7_portfolio_76 : decode cX7_portfolio 76 = .ok (.if_icmp .ne 14, 3) := by decide +kernel
theorem dX7_portfolio_79 : decode cX7_portfolio 79 = .ok (.iload_n 3, 1) := by decide +kernel
theorem dX7_portfolio_80 : decode cX7_portfolio 80 = .ok (.iload_n 2, 1) := by decide +kernel
theorem dX7_portfolio_81 : decode cX7_portfolio 81 = .ok (.if_icmp .ne 6, 3) := by decide +kernel
theorem dX7_portfolio_84 : decode cX7_portfolio 84 = .ok (.iload 4, 2) := by decide +kernel
theorem dX7_portfolio_86 : decode cX7_portfolio 86 = .ok (.ireturn, 1) := by decide +kernel
theorem dX7_portfolio_87 : decode cX7_portfolio 87 = .ok (.iinc 3 1, 3) := by decide +kernel
theorem dX7_portfolio_90 : decode cX7_portfolio 90 = .ok (.iinc 4 1, 3) := by decide +kernel
theorem dX7_portfolio_93 : decode cX7_portfolio 93 = .ok (.goto (-34), 3) := by decide +kernel
theorem dX7_portfolio_96 : decode cX7_portfolio 96 = .ok (.iconst (-1), 1) := by decide +kernel
theorem dX7_portfolio_97 : decode cX7_portfolio 97 = .ok (.ireturn, 1) := by decide +kernel
theorem dX7_farOf_0 : decode cX7_farOf 0 = .ok (.aload_n 0, 1) := by decide +kernel
theorem dX7_farOf_1 : decode cX7_farOf 1 = .ok (.getfield 7, 3) := by decide +kernel
theorem dX7_farOf_4 : decode cX7_farOf 4 = .ok (.iconst 2, 1) := by decide +kernel
theorem dX7_farOf_5 : decode cX7_farOf 5 = .ok (.iload_n 1, 1) := by decide +kernel
theorem dX7_farOf_6 : decode cX7_farOf 6 = .ok (.imul, 1) := by decide +kernel
theorem dX7_farOf_7 : decode cX7_farOf 7 = .ok (.iaload, 1) := by decide +kernel
theorem dX7_farOf_8 : decode cX7_farOf 8 = .ok (.aload_n 0, 1) := by decide +kernel
theorem dX7_farOf_9 : decode cX7_farOf 9 = .ok (.getfield 7, 3) := by decide +kernel
theorem dX7_farOf_12 : decode cX7_farOf 12 = .ok (.iconst 2, 1) := by decide +kernel
theorem dX7_farOf_13 : decode cX7_farOf 13 = .ok (.iload_n 2, 1) := by decide +kernel
theorem dX7_farOf_14 : decode cX7_farOf 14 = .ok (.imul, 1) := by decide +kernel
theorem dX7_farOf_15 : decode cX7_farOf 15 = .ok (.iaload, 1) := by decide +kernel
theorem dX7_farOf_16 : decode cX7_farOf 16 = .ok (.isub, 1) := by decide +kernel
theorem dX7_farOf_17 : decode cX7_farOf 17 = .ok (.istore_n 3, 1) := by decide +kernel
theorem dX7_farOf_18 : decode cX7_farOf 18 = .ok (.aload_n 0, 1) := by decide +kernel
theorem dX7_farOf_19 : decode cX7_farOf 19 = .ok (.getfield 7, 3) := by decide +kernel
theorem dX7_farOf_22 : decode cX7_farOf 22 = .ok (.iconst 2, 1) := by decide +kernel
theorem dX7_farOf_23 : decode cX7_farOf 23 = .ok (.iload_n 1, 1) := by decide +kernel
theorem dX7_farOf_24 : decode cX7_farOf 24 = .ok (.imul, 1) := by decide +kernel
theorem dX7_farOf_25 : decode cX7_farOf 25 = .ok (.iconst 1, 1) := by decide +kernel
theorem dX7_farOf_26 : decode cX7_farOf 26 = .ok (.iadd, 1) := by decide +kernel
theorem dX7_farOf_27 : decode cX7_farOf 27 = .ok (.iaload, 1) := by decide +kernel
theorem dX7_farOf_28 : decode cX7_farOf 28 = .ok (.aload_n 0, 1) := by decide +kernel
theorem dX7_farOf_29 : decode cX7_farOf 29 = .ok (.getfield 7, 3) := by decide +kernel
theorem dX7_farOf_32 : decode cX7_farOf 32 = .ok (.iconst 2, 1) := by decide +kernel
theorem dX7_farOf_33 : decode cX7_farOf 33 = .ok (.iload_n 2, 1) := by decide +kernel
theorem dX7_farOf_34 : decode cX7_farOf 34 = .ok (.imul, 1) := by decide +kernel
theorem dX7_farOf_35 : decode cX7_farOf 35 = .ok (.iconst 1, 1) := by decide +kernel
theorem dX7_farOf_36 : decode cX7_farOf 36 = .ok (.iadd, 1) := by decide +kernel
theorem dX7_farOf_37 : decode cX7_farOf 37 = .ok (.iaload, 1) := by decide +kernel
theorem dX7_farOf_38 : decode cX7_farOf 38 = .ok (.isub, 1) := by decide +kernel
theorem dX7_farOf_39 : decode cX7_farOf 39 = .ok (.istore 4, 2) := by decide +kernel
theorem dX7_farOf_41 : decode cX7_farOf 41 = .ok (.iload_n 3, 1) := by decide +kernel
theorem dX7_farOf_42 : decode cX7_farOf 42 = .ok (.ifCond .ge 8, 3) := by decide +kernel
theorem dX7_farOf_45 : decode cX7_farOf 45 = .ok (.iload_n 3, 1) := by decide +kernel
theorem dX7_farOf_46 : decode cX7_farOf 46 = .ok (.ineg, 1) := by decide +kernel
theorem dX7_farOf_47 : decode cX7_farOf 47 = .ok (.goto 4, 3) := by decide +kernel
theorem dX7_farOf_50 : decode cX7_farOf 50 = .ok (.iload_n 3, 1) := by decide +kernel
theorem dX7_farOf_51 : decode cX7_farOf 51 = .ok (.iload 4, 2) := by decide +kernel
theorem dX7_farOf_53 : decode cX7_farOf 53 = .ok (.ifCond .ge 9, 3) := by decide +kernel
theorem dX7_farOf_56 : decode cX7_farOf 56 = .ok (.iload 4, 2) := by decide +kernel
theorem dX7_farOf_58 : decode cX7_farOf 58 = .ok (.ineg, 1) := by decide +kernel
theorem dX7_farOf_59 : decode cX7_farOf 59 = .ok (.goto 5, 3) := by decide +kernel
theorem dX7_farOf_62 : decode cX7_farOf 62 = .ok (.iload 4, 2) := by decide +kernel
theorem dX7_farOf_64 : decode cX7_farOf 64 = .ok (.iadd, 1) := by decide +kernel
theorem dX7_farOf_65 : decode cX7_farOf 65 = .ok (.ireturn, 1) := by decide +kernel
theorem dX7_pickOf_0 : decode cX7_pickOf 0 = .ok (.iconst (-1), 1) := by decide +kernel
theorem dX7_pickOf_1 : decode cX7_pickOf 1 = .ok (.istore_n 2, 1) := by decide +kernel
theorem dX7_pickOf_2 : decode cX7_pickOf 2 = .ok (.iconst 0, 1) := by decide +kernel
theorem dX7_pickOf_3 : decode cX7_pickOf 3 = .ok (.istore_n 3, 1) := by decide +kernel
theorem dX7_pickOf_4 : decode cX7_pickOf 4 = .ok (.iload_n 3, 1) := by decide +kernel
theorem dX7_pickOf_5 : decode cX7_pickOf 5 = .ok (.aload_n 0, 1) := by decide +kernel
theorem dX7_pickOf_6 : decode cX7_pickOf 6 = .ok (.getfield 53, 3) := by decide +kernel
theorem dX7_pickOf_9 : decode cX7_pickOf 9 = .ok (.if_icmp .ge 48, 3) := by decide +kernel
theorem dX7_pickOf_12 : decode cX7_pickOf 12 = .ok (.iload_n 3, 1) := by decide +kernel
theorem dX7_pickOf_13 : decode cX7_pickOf 13 = .ok (.iload_n 1, 1) := by decide +kernel
theorem dX7_pickOf_14 : decode cX7_pickOf 14 = .ok (.if_icmp .eq 35, 3) := by decide +kernel
theorem dX7_pickOf_17 : decode cX7_pickOf 17 = .ok (.aload_n 0, 1) := by decide +kernel
theorem dX7_pickOf_18 : decode cX7_pickOf 18 = .ok (.getfield 13, 3) := by decide +kernel
theorem dX7_pickOf_21 : decode cX7_pickOf 21 = .ok (.iload_n 3, 1) := by decide +kernel
theorem dX7_pickOf_22 : decode cX7_pickOf 22 = .ok (.baload, 1) := by decide +kernel
theorem dX7_pickOf_23 : decode cX7_pickOf 23 = .ok (.ifCond .ne 26, 3) := by decide +kernel
theorem dX7_pickOf_26 : decode cX7_pickOf 26 = .ok (.iload_n 2, 1) := by decide +kernel
theorem dX7_pickOf_27 : decode cX7_pickOf 27 = .ok (.ifCond .lt 18, 3) := by decide +kernel
theorem dX7_pickOf_30 : decode cX7_pickOf 30 = .ok (.aload_n 0, 1) := by decide +kernel
theorem dX7_pickOf_31 : decode cX7_pickOf 31 = .ok (.iload_n 1, 1) := by decide +kernel
theorem dX7_pickOf_32 : decode cX7_pickOf 32 = .ok (.iload_n 3, 1) := by decide +kernel
theorem dX7_pickOf_33 : decode cX7_pickOf 33 = .ok (.invokevirtual 168, 3) := by decide +kernel
theorem dX7_pickOf_36 : decode cX7_pickOf 36 = .ok (.aload_n 0, 1) := by decide +kernel
theorem dX7_pickOf_37 : decode cX7_pickOf 37 = .ok (.iload_n 1, 1) := by decide +kernel
theorem dX7_pickOf_38 : decode cX7_pickOf 38 = .ok (.iload_n 2, 1) := by decide +kernel
theorem dX7_pickOf_39 : decode cX7_pickOf 39 = .ok (.invokevirtual 168, 3) := by decide +kernel
theorem dX7_pickOf_42 : decode cX7_pickOf 42 = .ok (.if_icmp .ge 7, 3) := by decide +kernel
theorem dX7_pickOf_45 : decode cX7_pickOf 45 = .ok (.iload_n 3, 1) := by decide +kernel
theorem dX7_pickOf_46 : decode cX7_pickOf 46 = .ok (.goto 4, 3) := by decide +kernel
theorem dX7_pickOf_49 : decode cX7_pickOf 49 = .ok (.iload_n 2, 1) := by decide +kernel
theorem dX7_pickOf_50 : decode cX7_pickOf 50 = .ok (.istore_n 2, 1) := by decide +kernel
theorem dX7_pickOf_51 : decode cX7_pickOf 51 = .ok (.iinc 3 1, 3) := by decide +kernel
theorem dX7_pickOf_54 : decode cX7_pickOf 54 = .ok (.goto (-50), 3) := by decide +kernel
theorem dX7_pickOf_57 : decode cX7_pickOf 57 = .ok (.bipush (-3), 2) := by decide +kernel
theorem dX7_pickOf_59 : decode cX7_pickOf 59 = .ok (.istore_n 3, 1) := by decide +kernel
theorem dX7_pickOf_60 : decode cX7_pickOf 60 = .ok (.iconst 0, 1) := by decide +kernel
theorem dX7_pickOf_61 : decode cX7_pickOf 61 = .ok (.istore 4, 2) := by decide +kernel
theorem dX7_pickOf_63 : decode cX7_pickOf 63 = .ok (.iload 4, 2) := by decide +kernel
theorem dX7_pickOf_65 : decode cX7_pickOf 65 = .ok (.aload_n 0, 1) := by decide +kernel
theorem dX7_pickOf_66 : decode cX7_pickOf 66 = .ok (.getfield 46, 3) := by decide +kernel
theorem dX7_pickOf_69 : decode cX7_pickOf 69 = .ok (.if_icmp .ge 49, 3) := by decide +kernel
theorem dX7_pickOf_72 : decode cX7_pickOf 72 = .ok (.iload_n 2, 1) := by decide +kernel
theorem dX7_pickOf_73 : decode cX7_pickOf 73 = .ok (.ifCond .lt 45, 3) := by decide +kernel
theorem dX7_pickOf_76 : decode cX7_pickOf 76 = .ok (.aload_n 0, 1) := by decide +kernel
theorem dX7_pickOf_77 : decode cX7_pickOf 77 = .ok (.iload 4, 2) := by decide +kernel
theorem dX7_pickOf_79 : decode cX7_pickOf 79 = .ok (.invokevirtual 142, 3) := by decide +kernel
theorem dX7_pickOf_82 : decode cX7_pickOf 82 = .ok (.ifCond .eq 28, 3) := by decide +kernel
theorem dX7_pickOf_85 : decode cX7_pickOf 85 = .ok (.iload_n 3, 1) := by decide +kernel
theorem dX7_pickOf_86 : decode cX7_pickOf 86 = .ok (.ifCond .lt 19, 3) := by decide +kernel
theorem dX7_pickOf_89 : decode cX7_pickOf 89 = .ok (.aload_n 0, 1) := by decide +kernel
theorem dX7_pickOf_90 : decode cX7_pickOf 90 = .ok (.iload 4, 2) := by decide +kernel
theorem dX7_pickOf_92 : decode cX7_pickOf 92 = .ok (.iload_n 2, 1) := by decide +kernel
theorem dX7_pickOf_93 : decode cX7_pickOf 93 = .ok (.invokevirtual 65, 3) := by decide +kernel
theorem dX7_pickOf_96 : decode cX7_pickOf 96 = .ok (.aload_n 0, 1) := by decide +kernel
theorem dX7_pickOf_97 : decode cX7_pickOf 97 = .ok (.iload_n 3, 1) := by decide +kernel
theorem dX7_pickOf_98 : decode cX7_pickOf 98 = .ok (.iload_n 2, 1) := by decide +kernel
theorem dX7_pickOf_99 : decode cX7_pickOf 99 = .ok (.invokevirtual 65, 3) := by decide +kernel
theorem dX7_pickOf_102 : decode cX7_pickOf 102 = .ok (.if_icmp .ge 8, 3) := by decide +kernel
theorem dX7_pickOf_105 : decode cX7_pickOf 105 = .ok (.iload 4, 2) := by decide +kernel
theorem dX7_pickOf_107 : decode cX7_pickOf 107 = .ok (.goto 4, 3) := by decide +kernel
theorem dX7_pickOf_110 : decode cX7_pickOf 110 = .ok (.iload_n 3, 1) := by decide +kernel
theorem dX7_pickOf_111 : decode cX7_pickOf 111 = .ok (.istore_n 3, 1) := by decide +kernel
theorem dX7_pickOf_112 : decode cX7_pickOf 112 = .ok (.iinc 4 1, 3) := by decide +kernel
theorem dX7_pickOf_115 : decode cX7_pickOf 115 = .ok (.goto (-52), 3) := by decide +kernel
theorem dX7_pickOf_118 : decode cX7_pickOf 118 = .ok (.iload_n 3, 1) := by decide +kernel
theorem dX7_pickOf_119 : decode cX7_pickOf 119 = .ok (.ireturn, 1) := by decide +kernel
theorem dX7_pick_0 : decode cX7_pick 0 = .ok (.aload_n 0, 1) := by decide +kernel
theorem dX7_pick_1 : decode cX7_pick 1 = .ok (.iconst 0, 1) := by decide +kernel
theorem dX7_pick_2 : decode cX7_pick 2 = .ok (.putfield 43, 3) := by decide +kernel
theorem dX7_pick_5 : decode cX7_pick 5 = .ok (.aload_n 0, 1) := by decide +kernel
theorem dX7_pick_6 : decode cX7_pick 6 = .ok (.iload_n 1, 1) := by decide +kernel
theorem dX7_pick_7 : decode cX7_pick 7 = .ok (.invokevirtual 60, 3) := by decide +kernel
theorem dX7_pick_10 : decode cX7_pick 10 = .ok (.ifCond .eq 11, 3) := by decide +kernel
theorem dX7_pick_13 : decode cX7_pick 13 = .ok (.aload_n 0, 1) := by decide +kernel
theorem dX7_pick_14 : decode cX7_pick 14 = .ok (.iload_n 1, 1) := by decide +kernel
theorem dX7_pick_15 : decode cX7_pick 15 = .ok (.invokevirtual 171, 3) := by decide +kernel
theorem dX7_pick_18 : decode cX7_pick 18 = .ok (.goto 4, 3) := by decide +kernel
theorem dX7_pick_21 : decode cX7_pick 21 = .ok (.iconst (-1), 1) := by decide +kernel
theorem dX7_pick_22 : decode cX7_pick 22 = .ok (.ireturn, 1) := by decide +kernel
theorem dX7_sideBest_0 : decode cX7_sideBest 0 = .ok (.iconst (-1), 1) := by decide +kernel
theorem dX7_sideBest_1 : decode cX7_sideBest 1 = .ok (.istore 4, 2) := by decide +kernel
theorem dX7_sideBest_3 : decode cX7_sideBest 3 = .ok (.iconst 0, 1) := by decide +kernel
theorem dX7_sideBest_4 : decode cX7_sideBest 4 = .ok (.istore 5, 2) := by decide +kernel
theorem dX7_sideBest_6 : decode cX7_sideBest 6 = .ok (.iload 5, 2) := by decide +kernel
theorem dX7_sideBest_8 : decode cX7_sideBest 8 = .ok (.aload_n 0, 1) := by decide +kernel
theorem dX7_sideBest_9 : decode cX7_sideBest 9 = .ok (.getfield 46, 3) := by decide +kernel
theorem dX7_sideBest_12 : decode cX7_sideBest 12 = .ok (.if_icmp .ge 114, 3) := by decide +kernel
theorem dX7_sideBest_15 : decode cX7_sideBest 15 = .ok (.aload_n 0, 1) := by decide +kernel
theorem dX7_sideBest_16 : decode cX7_sideBest 16 = .ok (.iload 5, 2) := by decide +kernel
theorem dX7_sideBest_18 : decode cX7_sideBest 18 = .ok (.invokevirtual 142, 3) := by decide +kernel
theorem dX7_sideBest_21 : decode cX7_sideBest 21 = .ok (.ifCond .eq 99, 3) := by decide +kernel
theorem dX7_sideBest_24 : decode cX7_sideBest 24 = .ok (.iconst 0, 1) := by decide +kernel
theorem dX7_sideBest_25 : decode cX7_sideBest 25 = .ok (.istore 6, 2) := by decide +kernel
theorem dX7_sideBest_27 : decode cX7_sideBest 27 = .ok (.iconst 0, 1) := by decide +kernel
theorem dX7_sideBest_28 : decode cX7_sideBest 28 = .ok (.istore 7, 2) := by decide +kernel
theorem dX7_sideBest_30 : decode cX7_sideBest 30 = .ok (.iload 7, 2) := by decide +kernel
theorem dX7_sideBest_32 : decode cX7_sideBest 32 = .ok (.aload_n 0, 1) := by decide +kernel
theorem dX7_sideBest_33 : decode cX7_sideBest 33 = .ok (.getfield 53, 3) := by decide +kernel
theorem dX7_sideBest_36 : decode cX7_sideBest 36 = .ok (.if_icmp .ge 60, 3) := by decide +kernel
theorem dX7_sideBest_39 : decode cX7_sideBest 39 = .ok (.iload 6, 2) := by decide +kernel
theorem dX7_sideBest_41 : decode cX7_sideBest 41 = .ok (.aload_n 0, 1) := by decide +kernel
theorem dX7_sideBest_42 : decode cX7_sideBest 42 = .ok (.getfield 13, 3) := by decide +kernel
theorem dX7_sideBest_45 : decode cX7_sideBest 45 = .ok (.iload 7, 2) := by decide +kernel
theorem dX7_sideBest_47 : decode cX7_sideBest 47 = .ok (.baload, 1) := by decide +kernel
theorem dX7_sideBest_48 : decode cX7_sideBest 48 = .ok (.ifCond .ne 38, 3) := by decide +kernel
theorem dX7_sideBest_51 : decode cX7_sideBest 51 = .ok (.aload_n 0, 1) := by decide +kernel
theorem dX7_sideBest_52 : decode cX7_sideBest 52 = .ok (.getfield 7, 3) := by decide +kernel
theorem dX7_sideBest_55 : decode cX7_sideBest 55 = .ok (.iconst 2, 1) := by decide +kernel
theorem dX7_sideBest_56 : decode cX7_sideBest 56 = .ok (.iload 7, 2) := by decide +kernel
theorem dX7_sideBest_58 : decode cX7_sideBest 58 = .ok (.imul, 1) := by decide +kernel
theorem dX7_sideBest_59 : decode cX7_sideBest 59 = .ok (.iload_n 1, 1) := by decide +kernel
theorem dX7_sideBest_60 : decode cX7_sideBest 60 = .ok (.iadd, 1) := by decide +kernel
theorem dX7_sideBest_61 : decode cX7_sideBest 61 = .ok (.iaload, 1) := by decide +kernel
theorem dX7_sideBest_62 : decode cX7_sideBest 62 = .ok (.iload_n 2, 1) := by decide +kernel
theorem dX7_sideBest_63 : decode cX7_sideBest 63 = .ok (.if_icmp .ge 7, 3) := by decide +kernel
theorem dX7_sideBest_66 : decode cX7_sideBest 66 = .ok (.iconst 1, 1) := by decide +kernel
theorem dX7_sideBest_67 : decode cX7_sideBest 67 = .ok (.goto 4, 3) := by decide +kernel
theorem dX7_sideBest_70 : decode cX7_sideBest 70 = .ok (.iconst 0, 1) := by decide +kernel
theorem dX7_sideBest_71 : decode cX7_sideBest 71 = .ok (.iload_n 3, 1) := by decide +kernel
theorem dX7_sideBest_72 : decode cX7_sideBest 72 = .ok (.if_icmp .ne 14, 3) := by decide +kernel
theorem dX7_sideBest_75 : decode cX7_sideBest 75 = .ok (.aload_n 0, 1) := by decide +kernel
theorem dX7_sideBest_76 : decode cX7_sideBest 76 = .ok (.iload 5, 2) := by decide +kernel
theorem dX7_sideBest_78 : decode cX7_sideBest 78 = .ok (.iload 7, 2) := by decide +kernel
theorem dX7_sideBest_80 : decode cX7_sideBest 80 = .ok (.invokevirtual 65, 3) := by decide +kernel
theorem dX7_sideBest_83 : decode cX7_sideBest 83 = .ok (.goto 4, 3) := by decide +kernel
theorem dX7_sideBest_86 : decode cX7_sideBest 86 = .ok (.iconst 0, 1) := by decide +kernel
theorem dX7_sideBest_87 : decode cX7_sideBest 87 = .ok (.iadd, 1) := by decide +kernel
theorem dX7_sideBest_88 : decode cX7_sideBest 88 = .ok (.istore 6, 2) := by decide +kernel
theorem dX7_sideBest_90 : decode cX7_sideBest 90 = .ok (.iinc 7 1, 3) := by decide +kernel
theorem dX7_sideBest_93 : decode cX7_sideBest 93 = .ok (.goto (-63), 3) := by decide +kernel
theorem dX7_sideBest_96 : decode cX7_sideBest 96 = .ok (.iload 4, 2) := by decide +kernel
theorem dX7_sideBest_98 : decode cX7_sideBest 98 = .ok (.ifCond .lt 12, 3) := by decide +kernel
theorem dX7_sideBest_101 : decode cX7_sideBest 101 = .ok (.iload 6, 2) := by decide +kernel
theorem dX7_sideBest_103 : decode cX7_sideBest 103 = .ok (.aload_n 0, 1) := by decide +kernel
theorem dX7_sideBest_104 : decode cX7_sideBest 104 = .ok (.getfield 174, 3) := by decide +kernel
theorem dX7_sideBest_107 : decode cX7_sideBest 107 = .ok (.if_icmp .ge 13, 3) := by decide +kernel
theorem dX7_sideBest_110 : decode cX7_sideBest 110 = .ok (.iload 5, 2) := by decide +kernel
theorem dX7_sideBest_112 : decode cX7_sideBest 112 = .ok (.istore 4, 2) := by decide +kernel
theorem dX7_sideBest_114 : decode cX7_sideBest 114 = .ok (.aload_n 0, 1) := by decide +kernel
theorem dX7_sideBest_115 : decode cX7_sideBest 115 = .ok (.iload 6, 2) := by decide +kernel
theorem dX7_sideBest_117 : decode cX7_sideBest 117 = .ok (.putfield 174, 3) := by decide +kernel
theorem dX7_sideBest_120 : decode cX7_sideBest 120 = .ok (.iinc 5 1, 3) := by decide +kernel
theorem dX7_sideBest_123 : decode cX7_sideBest 123 = .ok (.goto (-117), 3) := by decide +kernel
theorem dX7_sideBest_126 : decode cX7_sideBest 126 = .ok (.iload 4, 2) := by decide +kernel
theorem dX7_sideBest_128 : decode cX7_sideBest 128 = .ok (.ireturn, 1) := by decide +kernel
theorem dX7_findStump_0 : decode cX7_findStump 0 = .ok (.aload_n 0, 1) := by decide +kernel
theorem dX7_findStump_1 : decode cX7_findStump 1 = .ok (.iconst (-1), 1) := by decide +kernel
theorem dX7_findStump_2 : decode cX7_findStump 2 = .ok (.putfield 177, 3) := by decide +kernel
theorem dX7_findStump_5 : decode cX7_findStump 5 = .ok (.iconst 0, 1) := by decide +kernel
theorem dX7_findStump_6 : decode cX7_findStump 6 = .ok (.istore_n 1, 1) := by decide +kernel
theorem dX7_findStump_7 : decode cX7_findStump 7 = .ok (.iload_n 1, 1) := by decide +kernel
theorem dX7_findStump_8 : decode cX7_findStump 8 = .ok (.iconst 2, 1) := by decide +kernel
theorem dX7_findStump_9 : decode cX7_findStump 9 = .ok (.if_icmp .ge 98, 3) := by decide +kernel
theorem dX7_findStump_12 : decode cX7_findStump 12 = .ok (.iconst 1, 1) := by decide +kernel
theorem dX7_findStump_13 : decode cX7_findStump 13 = .ok (.istore_n 2, 1) := by decide +kernel
theorem dX7_findStump_14 : decode cX7_findStump 14 = .ok (.iload_n 2, 1) := by decide +kernel
theorem dX7_findStump_15 : decode cX7_findStump 15 = .ok (.bipush 100, 2) := by decide +kernel
theorem dX7_findStump_17 : decode cX7_findStump 17 = .ok (.if_icmp .gt 84, 3) := by decide +kernel
theorem dX7_findStump_20 : decode cX7_findStump 20 = .ok (.aload_n 0, 1) := by decide +kernel
theorem dX7_findStump_21 : decode cX7_findStump 21 = .ok (.iload_n 1, 1) := by decide +kernel
theorem dX7_findStump_22 : decode cX7_findStump 22 = .ok (.iload_n 2, 1) := by decide +kernel
theorem dX7_findStump_23 : decode cX7_findStump 23 = .ok (.iconst 1, 1) := by decide +kernel
theorem dX7_findStump_24 : decode cX7_findStump 24 = .ok (.invokevirtual 180, 3) := by decide +kernel
theorem dX7_findStump_27 : decode cX7_findStump 27 = .ok (.istore_n 3, 1) := by decide +kernel
theorem dX7_findStump_28 : decode cX7_findStump 28 = .ok (.aload_n 0, 1) := by decide +kernel
theorem dX7_findStump_29 : decode cX7_findStump 29 = .ok (.getfield 174, 3) := by decide +kernel
theorem dX7_findStump_32 : decode cX7_findStump 32 = .ok (.istore 4, 2) := by decide +kernel
theorem dX7_findStump_34 : decode cX7_findStump 34 = .ok (.aload_n 0, 1) := by decide +kernel
theorem dX7_findStump_35 : decode cX7_findStump 35 = .ok (.iload_n 1, 1) := by decide +kernel
theorem dX7_findStump_36 : decode cX7_findStump 36 = .ok (.iload_n 2, 1) := by decide +kernel
theorem dX7_findStump_37 : decode cX7_findStump 37 = .ok (.iconst 0, 1) := by decide +kernel
theorem dX7_findStump_38 : decode cX7_findStump 38 = .ok (.invokevirtual 180, 3) := by decide +kernel
theorem dX7_findStump_41 : decode cX7_findStump 41 = .ok (.istore 5, 2) := by decide +kernel
theorem dX7_findStump_43 : decode cX7_findStump 43 = .ok (.iload 4, 2) := by decide +kernel
theorem dX7_findStump_45 : decode cX7_findStump 45 = .ok (.aload_n 0, 1) := by decide +kernel
theorem dX7_findStump_46 : decode cX7_findStump 46 = .ok (.getfield 174, 3) := by decide +kernel
theorem dX7_findStump_49 : decode cX7_findStump 49 = .ok (.iadd, 1) := by decide +kernel
theorem dX7_findStump_50 : decode cX7_findStump 50 = .ok (.istore 4, 2) := by decide +kernel
theorem dX7_findStump_52 : decode cX7_findStump 52 = .ok (.aload_n 0, 1) := by decide +kernel
theorem dX7_findStump_53 : decode cX7_findStump 53 = .ok (.getfield 177, 3) := by decide +kernel
theorem dX7_findStump_56 : decode cX7_findStump 56 = .ok (.ifCond .lt 12, 3) := by decide +kernel
theorem dX7_findStump_59 : decode cX7_findStump 59 = .ok (.iload 4, 2) := by decide +kernel
theorem dX7_findStump_61 : decode cX7_findStump 61 = .ok (.aload_n 0, 1) := by decide +kernel
theorem dX7_findStump_62 : decode cX7_findStump 62 = .ok (.getfield 177, 3) := by decide +kernel
theorem dX7_findStump_65 : decode cX7_findStump 65 = .ok (.if_icmp .ge 30, 3) := by decide +kernel
theorem dX7_findStump_68 : decode cX7_findStump 68 = .ok (.aload_n 0, 1) := by decide +kernel
theorem dX7_findStump_69 : decode cX7_findStump 69 = .ok (.iload 4, 2) := by decide +kernel
theorem dX7_findStump_71 : decode cX7_findStump 71 = .ok (.putfield 177, 3) := by decide +kernel
theorem dX7_findStump_74 : decode cX7_findStump 74 = .ok (.aload_n 0, 1) := by decide +kernel
theorem dX7_findStump_75 : decode cX7_findStump 75 = .ok (.iload_n 1, 1) := by decide +kernel
theorem dX7_findStump_76 : decode cX7_findStump 76 = .ok (.putfield 184, 3) := by decide +kernel
theorem dX7_findStump_79 : decode cX7_findStump 79 = .ok (.aload_n 0, 1) := by decide +kernel
theorem dX7_findStump_80 : decode cX7_findStump 80 = .ok (.iload_n 2, 1) := by decide +kernel
theorem dX7_findStump_81 : decode cX7_findStump 81 = .ok (.putfield 187, 3) := by decide +kernel
theorem dX7_findStump_84 : decode cX7_findStump 84 = .ok (.aload_n 0, 1) := by decide +kernel
theorem dX7_findStump_85 : decode cX7_findStump 85 = .ok (.iload_n 3, 1) := by decide +kernel
theorem dX7_findStump_86 : decode cX7_findStump 86 = .ok (.putfield 190, 3) := by decide +kernel
theorem dX7_findStump_89 : decode cX7_findStump 89 = .ok (.aload_n 0, 1) := by decide +kernel
theorem dX7_findStump_90 : decode cX7_findStump 90 = .ok (.iload 5, 2) := by decide +kernel
theorem dX7_findStump_92 : decode cX7_findStump 92 = .ok (.putfield 193, 3) := by decide +kernel
theorem dX7_findStump_95 : decode cX7_findStump 95 = .ok (.iinc 2 1, 3) := by decide +kernel
theorem dX7_findStump_98 : decode cX7_findStump 98 = .ok (.goto (-84), 3) := by decide +kernel
theorem dX7_findStump_101 : decode cX7_findStump 101 = .ok (.iinc 1 1, 3) := by decide +kernel
theorem dX7_findStump_104 : decode cX7_findStump 104 = .ok (.goto (-97), 3) := by decide +kernel
theorem dX7_findStump_107 : decode cX7_findStump 107 = .ok (.return_, 1) := by decide +kernel
theorem dX7_stump_0 : decode cX7_stump 0 = .ok (.aload_n 0, 1) := by decide +kernel
theorem dX7_stump_1 : decode cX7_stump 1 = .ok (.iconst 0, 1) := by decide +kernel
theorem dX7_stump_2 : decode cX7_stump 2 = .ok (.putfield 43, 3) := by decide +kernel
theorem dX7_stump_5 : decode cX7_stump 5 = .ok (.iload_n 1, 1) := by decide +kernel
theorem dX7_stump_6 : decode cX7_stump 6 = .ok (.iconst 0, 1) := by decide +kernel
theorem dX7_stump_7 : decode cX7_stump 7 = .ok (.iconst 4, 1) := by decide +kernel
theorem dX7_stump_8 : decode cX7_stump 8 = .ok (.invokestatic 49, 3) := by decide +kernel
theorem dX7_stump_11 : decode cX7_stump 11 = .ok (.ifCond .ne 6, 3) := by decide +kernel
theorem dX7_stump_14 : decode cX7_stump 14 = .ok (.bipush (-2), 2) := by decide +kernel
theorem dX7_stump_16 : decode cX7_stump 16 = .ok (.ireturn, 1) := by decide +kernel
theorem dX7_stump_17 : decode cX7_stump 17 = .ok (.aload_n 0, 1) := by decide +kernel
theorem dX7_stump_18 : decode cX7_stump 18 = .ok (.invokevirtual 145, 3) := by decide +kernel
theorem dX7_stump_21 : decode cX7_stump 21 = .ok (.ifCond .ne 6, 3) := by decide +kernel
theorem dX7_stump_24 : decode cX7_stump 24 = .ok (.bipush (-3), 2) := by decide +kernel
theorem dX7_stump_26 : decode cX7_stump 26 = .ok (.ireturn, 1) := by decide +kernel
theorem dX7_stump_27 : decode cX7_stump 27 = .ok (.aload_n 0, 1) := by decide +kernel
theorem dX7_stump_28 : decode cX7_stump 28 = .ok (.invokevirtual 196, 3) := by decide +kernel
theorem dX7_stump_31 : decode cX7_stump 31 = .ok (.iload_n 1, 1) := by decide +kernel
theorem dX7_stump_32 : decode cX7_stump 32 = .ok (.ifCond .ne 10, 3) := by decide +kernel
theorem dX7_stump_35 : decode cX7_stump 35 = .ok (.aload_n 0, 1) := by decide +kernel
theorem dX7_stump_36 : decode cX7_stump 36 = .ok (.getfield 184, 3) := by decide +kernel
theorem dX7_stump_39 : decode cX7_stump 39 = .ok (.goto 43, 3) := by decide +kernel
theorem dX7_stump_42 : decode cX7_stump 42 = .ok (.iload_n 1, 1) := by decide +kernel
theorem dX7_stump_43 : decode cX7_stump 43 = .ok (.iconst 1, 1) := by decide +kernel
theorem dX7_stump_44 : decode cX7_stump 44 = .ok (.if_icmp .ne 10, 3) := by decide +kernel
theorem dX7_stump_47 : decode cX7_stump 47 = .ok (.aload_n 0, 1) := by decide +kernel
theorem dX7_stump_48 : decode cX7_stump 48 = .ok (.getfield 187, 3) := by decide +kernel
theorem dX7_stump_51 : decode cX7_stump 51 = .ok (.goto 31, 3) := by decide +kernel
theorem dX7_stump_54 : decode cX7_stump 54 = .ok (.iload_n 1, 1) := by decide +kernel
theorem dX7_stump_55 : decode cX7_stump 55 = .ok (.iconst 2, 1) := by decide +kernel
theorem dX7_stump_56 : decode cX7_stump 56 = .ok (.if_icmp .ne 10, 3) := by decide +kernel
theorem dX7_stump_59 : decode cX7_stump 59 = .ok (.aload_n 0, 1) := by decide +kernel
theorem dX7_stump_60 : decode cX7_stump 60 = .ok (.getfield 190, 3) := by decide +kernel
theorem dX7_stump_63 : decode cX7_stump 63 = .ok (.goto 19, 3) := by decide +kernel
theorem dX7_stump_66 : decode cX7_stump 66 = .ok (.iload_n 1, 1) := by decide +kernel
theorem dX7_stump_67 : decode cX7_stump 67 = .ok (.iconst 3, 1) := by decide +kernel
theorem dX7_stump_68 : decode cX7_stump 68 = .ok (.if_icmp .ne 10, 3) := by decide +kernel
theorem dX7_stump_71 : decode cX7_stump 71 = .ok (.aload_n 0, 1) := by decide +kernel
theorem dX7_stump_72 : decode cX7_stump 72 = .ok (.getfield 193, 3) := by decide +kernel
theorem dX7_stump_75 : decode cX7_stump 75 = .ok (.goto 7, 3) := by decide +kernel
theorem dX7_stump_78 : decode cX7_stump 78 = .ok (.aload_n 0, 1) := by decide +kernel
theorem dX7_stump_79 : decode cX7_stump 79 = .ok (.getfield 177, 3) := by decide +kernel
theorem dX7_stump_82 : decode cX7_stump 82 = .ok (.ireturn, 1) := by decide +kernel
theorem dX7_heldOut_0 : decode cX7_heldOut 0 = .ok (.aload_n 0, 1) := by decide +kernel
theorem dX7_heldOut_1 : decode cX7_heldOut 1 = .ok (.iconst 0, 1) := by decide +kernel
theorem dX7_heldOut_2 : decode cX7_heldOut 2 = .ok (.putfield 43, 3) := by decide +kernel
theorem dX7_heldOut_5 : decode cX7_heldOut 5 = .ok (.iload_n 1, 1) := by decide +kernel
theorem dX7_heldOut_6 : decode cX7_heldOut 6 = .ok (.iconst 0, 1) := by decide +kernel
theorem dX7_heldOut_7 : decode cX7_heldOut 7 = .ok (.iconst 3, 1) := by decide +kernel
theorem dX7_heldOut_8 : decode cX7_heldOut 8 = .ok (.invokestatic 49, 3) := by decide +kernel
theorem dX7_heldOut_11 : decode cX7_heldOut 11 = .ok (.ifCond .ne 6, 3) := by decide +kernel
theorem dX7_heldOut_14 : decode cX7_heldOut 14 = .ok (.bipush (-2), 2) := by decide +kernel
theorem dX7_heldOut_16 : decode cX7_heldOut 16 = .ok (.ireturn, 1) := by decide +kernel
theorem dX7_heldOut_17 : decode cX7_heldOut 17 = .ok (.aload_n 0, 1) := by decide +kernel
theorem dX7_heldOut_18 : decode cX7_heldOut 18 = .ok (.invokevirtual 145, 3) := by decide +kernel
theorem dX7_heldOut_21 : decode cX7_heldOut 21 = .ok (.istore_n 2, 1) := by decide +kernel
theorem dX7_heldOut_22 : decode cX7_heldOut 22 = .ok (.iload_n 2, 1) := by decide +kernel
theorem dX7_heldOut_23 : decode cX7_heldOut 23 = .ok (.ifCond .ne 6, 3) := by decide +kernel
theorem dX7_heldOut_26 : decode cX7_heldOut 26 = .ok (.bipush (-3), 2) := by decide +kernel
theorem dX7_heldOut_28 : decode cX7_heldOut 28 = .ok (.ireturn, 1) := by decide +kernel
theorem dX7_heldOut_29 : decode cX7_heldOut 29 = .ok (.iload_n 1, 1) := by decide +kernel
theorem dX7_heldOut_30 : decode cX7_heldOut 30 = .ok (.iconst 1, 1) := by decide +kernel
theorem dX7_heldOut_31 : decode cX7_heldOut 31 = .ok (.if_icmp .ne 8, 3) := by decide +kernel
theorem dX7_heldOut_34 : decode cX7_heldOut 34 = .ok (.aload_n 0, 1) := by decide +kernel
theorem dX7_heldOut_35 : decode cX7_heldOut 35 = .ok (.iconst 1, 1) := by decide +kernel
theorem dX7_heldOut_36 : decode cX7_heldOut 36 = .ok (.invokevirtual 164, 3) := by decide +kernel
theorem dX7_heldOut_39 : decode cX7_heldOut 39 = .ok (.iload_n 1, 1) := by decide +kernel
theorem dX7_heldOut_40 : decode cX7_heldOut 40 = .ok (.iconst 3, 1) := by decide +kernel
theorem dX7_heldOut_41 : decode cX7_heldOut 41 = .ok (.if_icmp .ne 7, 3) := by decide +kernel
theorem dX7_heldOut_44 : decode cX7_heldOut 44 = .ok (.aload_n 0, 1) := by decide +kernel
theorem dX7_heldOut_45 : decode cX7_heldOut 45 = .ok (.invokevirtual 196, 3) := by decide +kernel
theorem dX7_heldOut_48 : decode cX7_heldOut 48 = .ok (.iconst 0, 1) := by decide +kernel
theorem dX7_heldOut_49 : decode cX7_heldOut 49 = .ok (.istore_n 3, 1) := by decide +kernel
theorem dX7_heldOut_50 : decode cX7_heldOut 50 = .ok (.iconst 0, 1) := by decide +kernel
theorem dX7_heldOut_51 : decode cX7_heldOut 51 = .ok (.istore 4, 2) := by decide +kernel
theorem dX7_heldOut_53 : decode cX7_heldOut 53 = .ok (.iload 4, 2) := by decide +kernel
theorem dX7_heldOut_55 : decode cX7_heldOut 55 = .ok (.aload_n 0, 1) := by decide +kernel
theorem dX7_heldOut_56 : decode cX7_heldOut 56 = .ok (.getfield 53, 3) := by decide +kernel
theorem dX7_heldOut_59 : decode cX7_heldOut 59 = .ok (.if_icmp .ge 132, 3) := by decide +kernel
theorem dX7_heldOut_62 : decode cX7_heldOut 62 = .ok (.aload_n 0, 1) := by decide +kernel
theorem dX7_heldOut_63 : decode cX7_heldOut 63 = .ok (.getfield 13, 3) := by decide +kernel
theorem dX7_heldOut_66 : decode cX7_heldOut 66 = .ok (.iload 4, 2) := by decide +kernel
theorem dX7_heldOut_68 : decode cX7_heldOut 68 = .ok (.baload, 1) := by decide +kernel
theorem dX7_heldOut_69 : decode cX7_heldOut 69 = .ok (.ifCond .eq 116, 3) := by decide +kernel
theorem dX7_heldOut_72 : decode cX7_heldOut 72 = .ok (.iload_n 1, 1) := by decide +kernel
theorem dX7_heldOut_73 : decode cX7_heldOut 73 = .ok (.ifCond .ne 12, 3) := by decide +kernel
theorem dX7_heldOut_76 : decode cX7_heldOut 76 = .ok (.aload_n 0, 1) := by decide +kernel
theorem dX7_heldOut_77 : decode cX7_heldOut 77 = .ok (.iload 4, 2) := by decide +kernel
theorem dX7_heldOut_79 : decode cX7_heldOut 79 = .ok (.invokevirtual 171, 3) := by decide +kernel
theorem dX7_heldOut_82 : decode cX7_heldOut 82 = .ok (.goto 4, 3) := by decide +kernel
theorem dX7_heldOut_85 : decode cX7_heldOut 85 = .ok (.iconst 0, 1) := by decide +kernel
theorem dX7_heldOut_86 : decode cX7_heldOut 86 = .ok (.istore 5, 2) := by decide +kernel
theorem dX7_heldOut_88 : decode cX7_heldOut 88 = .ok (.iload 5, 2) := by decide +kernel
theorem dX7_heldOut_90 : decode cX7_heldOut 90 = .ok (.ifCond .ge 6, 3) := by decide +kernel
theorem dX7_heldOut_93 : decode cX7_heldOut 93 = .ok (.bipush (-3), 2) := by decide +kernel
theorem dX7_heldOut_95 : decode cX7_heldOut 95 = .ok (.ireturn, 1) := by decide +kernel
theorem dX7_heldOut_96 : decode cX7_heldOut 96 = .ok (.iload_n 3, 1) := by decide +kernel
theorem dX7_heldOut_97 : decode cX7_heldOut 97 = .ok (.iload_n 1, 1) := by decide +kernel
theorem dX7_heldOut_98 : decode cX7_heldOut 98 = .ok (.ifCond .ne 14, 3) := by decide +kernel
theorem dX7_heldOut_101 : decode cX7_heldOut 101 = .ok (.aload_n 0, 1) := by decide +kernel
theorem dX7_heldOut_102 : decode cX7_heldOut 102 = .ok (.iload 5, 2) := by decide +kernel
theorem dX7_heldOut_104 : decode cX7_heldOut 104 = .ok (.iload 4, 2) := by decide +kernel
theorem dX7_heldOut_106 : decode cX7_heldOut 106 = .ok (.invokevirtual 65, 3) := by decide +kernel
theorem dX7_heldOut_109 : decode cX7_heldOut 109 = .ok (.goto 74, 3) := by decide +kernel
theorem dX7_heldOut_112 : decode cX7_heldOut 112 = .ok (.iload_n 1, 1) := by decide +kernel
theorem dX7_heldOut_113 : decode cX7_heldOut 113 = .ok (.iconst 1, 1) := by decide +kernel
theorem dX7_heldOut_114 : decode cX7_heldOut 114 = .ok (.if_icmp .ne 16, 3) := by decide +kernel
theorem dX7_heldOut_117 : decode cX7_heldOut 117 = .ok (.aload_n 0, 1) := by decide +kernel
theorem dX7_heldOut_118 : decode cX7_heldOut 118 = .ok (.aload_n 0, 1) := by decide +kernel
theorem dX7_heldOut_119 : decode cX7_heldOut 119 = .ok (.getfield 148, 3) := by decide +kernel
theorem dX7_heldOut_122 : decode cX7_heldOut 122 = .ok (.iload 4, 2) := by decide +kernel
theorem dX7_heldOut_124 : decode cX7_heldOut 124 = .ok (.invokevirtual 157, 3) := by decide +kernel
theorem dX7_heldOut_127 : decode cX7_heldOut 127 = .ok (.goto 56, 3) := by decide +kernel
theorem dX7_heldOut_130 : decode cX7_heldOut 130 = .ok (.iload_n 1, 1) := by decide +kernel
theorem dX7_heldOut_131 : decode cX7_heldOut 131 = .ok (.iconst 2, 1) := by decide +kernel
theorem dX7_heldOut_132 : decode cX7_heldOut 132 = .ok (.if_icmp .ne 13, 3) := by decide +kernel
theorem dX7_heldOut_135 : decode cX7_heldOut 135 = .ok (.aload_n 0, 1) := by decide +kernel
theorem dX7_heldOut_136 : decode cX7_heldOut 136 = .ok (.iload_n 2, 1) := by decide +kernel
theorem dX7_heldOut_137 : decode cX7_heldOut 137 = .ok (.iload 4, 2) := by decide +kernel
theorem dX7_heldOut_139 : decode cX7_heldOut 139 = .ok (.invokevirtual 157, 3) := by decide +kernel
theorem dX7_heldOut_142 : decode cX7_heldOut 142 = .ok (.goto 41, 3) := by decide +kernel
theorem dX7_heldOut_145 : decode cX7_heldOut 145 = .ok (.aload_n 0, 1) := by decide +kernel
theorem dX7_heldOut_146 : decode cX7_heldOut 146 = .ok (.aload_n 0, 1) := by decide +kernel
theorem dX7_heldOut_147 : decode cX7_heldOut 147 = .ok (.getfield 7, 3) := by decide +kernel
theorem dX7_heldOut_150 : decode cX7_heldOut 150 = .ok (.iconst 2, 1) := by decide +kernel
theorem dX7_heldOut_151 : decode cX7_heldOut 151 = .ok (.iload 4, 2) := by decide +kernel
theorem dX7_heldOut_153 : decode cX7_heldOut 153 = .ok (.imul, 1) := by decide +kernel
theorem dX7_heldOut_154 : decode cX7_heldOut 154 = .ok (.aload_n 0, 1) := by decide +kernel
theorem dX7_heldOut_155 : decode cX7_heldOut 155 = .ok (.getfield 184, 3) := by decide +kernel
theorem dX7_heldOut_158 : decode cX7_heldOut 158 = .ok (.iadd, 1) := by decide +kernel
theorem dX7_heldOut_159 : decode cX7_heldOut 159 = .ok (.iaload, 1) := by decide +kernel
theorem dX7_heldOut_160 : decode cX7_heldOut 160 = .ok (.aload_n 0, 1) := by decide +kernel
theorem dX7_heldOut_161 : decode cX7_heldOut 161 = .ok (.getfield 187, 3) := by decide +kernel
theorem dX7_heldOut_164 : decode cX7_heldOut 164 = .ok (.if_icmp .ge 10, 3) := by decide +kernel
theorem dX7_heldOut_167 : decode cX7_heldOut 167 = .ok (.aload_n 0, 1) := by decide +kernel
theorem dX7_heldOut_168 : decode cX7_heldOut 168 = .ok (.getfield 190, 3) := by decide +kernel
theorem dX7_heldOut_171 : decode cX7_heldOut 171 = .ok (.goto 7, 3) := by decide +kernel
theorem dX7_heldOut_174 : decode cX7_heldOut 174 = .ok (.aload_n 0, 1) := by decide +kernel
theorem dX7_heldOut_175 : decode cX7_heldOut 175 = .ok (.getfield 193, 3) := by decide +kernel
theorem dX7_heldOut_178 : decode cX7_heldOut 178 = .ok (.iload 4, 2) := by decide +kernel
theorem dX7_heldOut_180 : decode cX7_heldOut 180 = .ok (.invokevirtual 65, 3) := by decide +kernel
theorem dX7_heldOut_183 : decode cX7_heldOut 183 = .ok (.iadd, 1) := by decide +kernel
theorem dX7_heldOut_184 : decode cX7_heldOut 184 = .ok (.istore_n 3, 1) := by decide +kernel
theorem dX7_heldOut_185 : decode cX7_heldOut 185 = .ok (.iinc 4 1, 3) := by decide +kernel
theorem dX7_heldOut_188 : decode cX7_heldOut 188 = .ok (.goto (-135), 3) := by decide +kernel
theorem dX7_heldOut_191 : decode cX7_heldOut 191 = .ok (.iload_n 3, 1) := by decide +kernel
theorem dX7_heldOut_192 : decode cX7_heldOut 192 = .ok (.ireturn, 1) := by decide +kernel
theorem dX7_runsOf_0 : decode cX7_runsOf 0 = .ok (.aload_n 0, 1) := by decide +kernel
theorem dX7_runsOf_1 : decode cX7_runsOf 1 = .ok (.getfield 27, 3) := by decide +kernel
theorem dX7_runsOf_4 : decode cX7_runsOf 4 = .ok (.iload_n 1, 1) := by decide +kernel
theorem dX7_runsOf_5 : decode cX7_runsOf 5 = .ok (.iaload, 1) := by decide +kernel
theorem dX7_runsOf_6 : decode cX7_runsOf 6 = .ok (.ifCond .eq 12, 3) := by decide +kernel
theorem dX7_runsOf_9 : decode cX7_runsOf 9 = .ok (.aload_n 0, 1) := by decide +kernel
theorem dX7_runsOf_10 : decode cX7_runsOf 10 = .ok (.getfield 27, 3) := by decide +kernel
theorem dX7_runsOf_13 : decode cX7_runsOf 13 = .ok (.iload_n 1, 1) := by decide +kernel
theorem dX7_runsOf_14 : decode cX7_runsOf 14 = .ok (.iaload, 1) := by decide +kernel
theorem dX7_runsOf_15 : decode cX7_runsOf 15 = .ok (.goto 28, 3) := by decide +kernel
theorem dX7_runsOf_18 : decode cX7_runsOf 18 = .ok (.aload_n 0, 1) := by decide +kernel
theorem dX7_runsOf_19 : decode cX7_runsOf 19 = .ok (.getfield 79, 3) := by decide +kernel
theorem dX7_runsOf_22 : decode cX7_runsOf 22 = .ok (.aload_n 0, 1) := by decide +kernel
theorem dX7_runsOf_23 : decode cX7_runsOf 23 = .ok (.getfield 91, 3) := by decide +kernel
theorem dX7_runsOf_26 : decode cX7_runsOf 26 = .ok (.ifCond .ne 15, 3) := by decide +kernel
theorem dX7_runsOf_29 : decode cX7_runsOf 29 = .ok (.iload_n 1, 1) := by decide +kernel
theorem dX7_runsOf_30 : decode cX7_runsOf 30 = .ok (.aload_n 0, 1) := by decide +kernel
theorem dX7_runsOf_31 : decode cX7_runsOf 31 = .ok (.getfield 94, 3) := by decide +kernel
theorem dX7_runsOf_34 : decode cX7_runsOf 34 = .ok (.if_icmp .ge 7, 3) := by decide +kernel
theorem dX7_runsOf_37 : decode cX7_runsOf 37 = .ok (.iconst 1, 1) := by decide +kernel
theorem dX7_runsOf_38 : decode cX7_runsOf 38 = .ok (.goto 4, 3) := by decide +kernel
theorem dX7_runsOf_41 : decode cX7_runsOf 41 = .ok (.iconst 0, 1) := by decide +kernel
theorem dX7_runsOf_42 : decode cX7_runsOf 42 = .ok (.iadd, 1) := by decide +kernel
theorem dX7_runsOf_43 : decode cX7_runsOf 43 = .ok (.ireturn, 1) := by decide +kernel
theorem dX7_mean_0 : decode cX7_mean 0 = .ok (.aload_n 0, 1) := by decide +kernel
theorem dX7_mean_1 : decode cX7_mean 1 = .ok (.iconst 0, 1) := by decide +kernel
theorem dX7_mean_2 : decode cX7_mean 2 = .ok (.putfield 43, 3) := by decide +kernel
theorem dX7_mean_5 : decode cX7_mean 5 = .ok (.aload_n 0, 1) := by decide +kernel
theorem dX7_mean_6 : decode cX7_mean 6 = .ok (.getfield 20, 3) := by decide +kernel
theorem dX7_mean_9 : decode cX7_mean 9 = .ok (.ifCond .lt 39, 3) := by decide +kernel
theorem dX7_mean_12 : decode cX7_mean 12 = .ok (.iload_n 1, 1) := by decide +kernel
theorem dX7_mean_13 : decode cX7_mean 13 = .ok (.iconst 0, 1) := by decide +kernel
theorem dX7_mean_14 : decode cX7_mean 14 = .ok (.aload_n 0, 1) := by decide +kernel
theorem dX7_mean_15 : decode cX7_mean 15 = .ok (.getfield 69, 3) := by decide +kernel
theorem dX7_mean_18 : decode cX7_mean 18 = .ok (.iconst 1, 1) := by decide +kernel
theorem dX7_mean_19 : decode cX7_mean 19 = .ok (.isub, 1) := by decide +kernel
theorem dX7_mean_20 : decode cX7_mean 20 = .ok (.invokestatic 49, 3) := by decide +kernel
theorem dX7_mean_23 : decode cX7_mean 23 = .ok (.ifCond .eq 25, 3) := by decide +kernel
theorem dX7_mean_26 : decode cX7_mean 26 = .ok (.iload_n 2, 1) := by decide +kernel
theorem dX7_mean_27 : decode cX7_mean 27 = .ok (.ifCond .lt 21, 3) := by decide +kernel
theorem dX7_mean_30 : decode cX7_mean 30 = .ok (.iload_n 2, 1) := by decide +kernel
theorem dX7_mean_31 : decode cX7_mean 31 = .ok (.aload_n 0, 1) := by decide +kernel
theorem dX7_mean_32 : decode cX7_mean 32 = .ok (.iload_n 1, 1) := by decide +kernel
theorem dX7_mean_33 : decode cX7_mean 33 = .ok (.invokevirtual 199, 3) := by decide +kernel
theorem dX7_mean_36 : decode cX7_mean 36 = .ok (.if_icmp .gt 12, 3) := by decide +kernel
theorem dX7_mean_39 : decode cX7_mean 39 = .ok (.iload_n 3, 1) := by decide +kernel
theorem dX7_mean_40 : decode cX7_mean 40 = .ok (.iconst 0, 1) := by decide +kernel
theorem dX7_mean_41 : decode cX7_mean 41 = .ok (.iconst 1, 1) := by decide +kernel
theorem dX7_mean_42 : decode cX7_mean 42 = .ok (.invokestatic 49, 3) := by decide +kernel
theorem dX7_mean_45 : decode cX7_mean 45 = .ok (.ifCond .ne 7, 3) := by decide +kernel
theorem dX7_mean_48 : decode cX7_mean 48 = .ok (.ldc2_w 140, 3) := by decide +kernel
theorem dX7_mean_51 : decode cX7_mean 51 = .ok (.lreturn, 1) := by decide +kernel
theorem dX7_mean_52 : decode cX7_mean 52 = .ok (.iload_n 2, 1) := by decide +kernel
theorem dX7_mean_53 : decode cX7_mean 53 = .ok (.ifCond .ne 10, 3) := by decide +kernel
theorem dX7_mean_56 : decode cX7_mean 56 = .ok (.aload_n 0, 1) := by decide +kernel
theorem dX7_mean_57 : decode cX7_mean 57 = .ok (.iconst 1, 1) := by decide +kernel
theorem dX7_mean_58 : decode cX7_mean 58 = .ok (.putfield 43, 3) := by decide +kernel
theorem dX7_mean_61 : decode cX7_mean 61 = .ok (.lconst 0, 1) := by decide +kernel
theorem dX7_mean_62 : decode cX7_mean 62 = .ok (.lreturn, 1) := by decide +kernel
theorem dX7_mean_63 : decode cX7_mean 63 = .ok (.iconst 0, 1) := by decide +kernel
theorem dX7_mean_64 : decode cX7_mean 64 = .ok (.istore 4, 2) := by decide +kernel
theorem dX7_mean_66 : decode cX7_mean 66 = .ok (.iconst 0, 1) := by decide +kernel
theorem dX7_mean_67 : decode cX7_mean 67 = .ok (.istore 5, 2) := by decide +kernel
theorem dX7_mean_69 : decode cX7_mean 69 = .ok (.iload 5, 2) := by decide +kernel
theorem dX7_mean_71 : decode cX7_mean 71 = .ok (.iload_n 2, 1) := by decide +kernel
theorem dX7_mean_72 : decode cX7_mean 72 = .ok (.if_icmp .ge 26, 3) := by decide +kernel
theorem dX7_mean_75 : decode cX7_mean 75 = .ok (.iload 4, 2) := by decide +kernel
theorem dX7_mean_77 : decode cX7_mean 77 = .ok (.aload_n 0, 1) := by decide +kernel
theorem dX7_mean_78 : decode cX7_mean 78 = .ok (.iload_n 1, 1) := by decide +kernel
theorem dX7_mean_79 : decode cX7_mean 79 = .ok (.aload_n 0, 1) := by decide +kernel
theorem dX7_mean_80 : decode cX7_mean 80 = .ok (.getfield 24, 3) := by decide +kernel
theorem dX7_mean_83 : decode cX7_mean 83 = .ok (.iload 5, 2) := by decide +kernel
theorem dX7_mean_85 : decode cX7_mean 85 = .ok (.iaload, 1) := by decide +kernel
theorem dX7_mean_86 : decode cX7_mean 86 = .ok (.invokevirtual 65, 3) := by decide +kernel
theorem dX7_mean_89 : decode cX7_mean 89 = .ok (.iadd, 1) := by decide +kernel
theorem dX7_mean_90 : decode cX7_mean 90 = .ok (.istore 4, 2) := by decide +kernel
theorem dX7_mean_92 : decode cX7_mean 92 = .ok (.iinc 5 1, 3) := by decide +kernel
theorem dX7_mean_95 : decode cX7_mean 95 = .ok (.goto (-26), 3) := by decide +kernel
theorem dX7_mean_98 : decode cX7_mean 98 = .ok (.iload 4, 2) := by decide +kernel
theorem dX7_mean_100 : decode cX7_mean 100 = .ok (.istore 5, 2) := by decide +kernel
theorem dX7_mean_102 : decode cX7_mean 102 = .ok (.iload_n 2, 1) := by decide +kernel
theorem dX7_mean_103 : decode cX7_mean 103 = .ok (.istore 6, 2) := by decide +kernel
theorem dX7_mean_105 : decode cX7_mean 105 = .ok (.iload 6, 2) := by decide +kernel
theorem dX7_mean_107 : decode cX7_mean 107 = .ok (.ifCond .eq 21, 3) := by decide +kernel
theorem dX7_mean_110 : decode cX7_mean 110 = .ok (.iload 5, 2) := by decide +kernel
theorem dX7_mean_112 : decode cX7_mean 112 = .ok (.iload 6, 2) := by decide +kernel
theorem dX7_mean_114 : decode cX7_mean 114 = .ok (.irem, 1) := by decide +kernel
theorem dX7_mean_115 : decode cX7_mean 115 = .ok (.istore 7, 2) := by decide +kernel
theorem dX7_mean_117 : decode cX7_mean 117 = .ok (.iload 6, 2) := by decide +kernel
theorem dX7_mean_119 : decode cX7_mean 119 = .ok (.istore 5, 2) := by decide +kernel
theorem dX7_mean_121 : decode cX7_mean 121 = .ok (.iload 7, 2) := by decide +kernel
theorem dX7_mean_123 : decode cX7_mean 123 = .ok (.istore 6, 2) := by decide +kernel
theorem dX7_mean_125 : decode cX7_mean 125 = .ok (.goto (-20), 3) := by decide +kernel
theorem dX7_mean_128 : decode cX7_mean 128 = .ok (.iload_n 3, 1) := by decide +kernel
theorem dX7_mean_129 : decode cX7_mean 129 = .ok (.ifCond .ne 12, 3) := by decide +kernel
theorem dX7_mean_132 : decode cX7_mean 132 = .ok (.iload 4, 2) := by decide +kernel
theorem dX7_mean_134 : decode cX7_mean 134 = .ok (.iload 5, 2) := by decide +kernel
theorem dX7_mean_136 : decode cX7_mean 136 = .ok (.idiv, 1) := by decide +kernel
theorem dX7_mean_137 : decode cX7_mean 137 = .ok (.i2l, 1) := by decide +kernel
theorem dX7_mean_138 : decode cX7_mean 138 = .ok (.goto 8, 3) := by decide +kernel
theorem dX7_mean_141 : decode cX7_mean 141 = .ok (.iload_n 2, 1) := by decide +kernel
theorem dX7_mean_142 : decode cX7_mean 142 = .ok (.iload 5, 2) := by decide +kernel
theorem dX7_mean_144 : decode cX7_mean 144 = .ok (.idiv, 1) := by decide +kernel
theorem dX7_mean_145 : decode cX7_mean 145 = .ok (.i2l, 1) := by decide +kernel
theorem dX7_mean_146 : decode cX7_mean 146 = .ok (.lreturn, 1) := by decide +kernel
