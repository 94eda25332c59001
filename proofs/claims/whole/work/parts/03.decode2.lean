theorem d6_init_0 : decode b6_init 0 = .ok (.aload_n 0, 1) := by decide +kernel
theorem d6_init_1 : decode b6_init 1 = .ok (.invokespecial 1, 3) := by decide +kernel
theorem d6_init_4 : decode b6_init 4 = .ok (.aload_n 0, 1) := by decide +kernel
theorem d6_init_5 : decode b6_init 5 = .ok (.bipush 16, 2) := by decide +kernel
theorem d6_init_7 : decode b6_init 7 = .ok (.anewarray 9, 3) := by decide +kernel
theorem d6_init_10 : decode b6_init 10 = .ok (.putfield 11, 3) := by decide +kernel
theorem d6_init_13 : decode b6_init 13 = .ok (.aload_n 0, 1) := by decide +kernel
theorem d6_init_14 : decode b6_init 14 = .ok (.bipush 32, 2) := by decide +kernel
theorem d6_init_16 : decode b6_init 16 = .ok (.anewarray 15, 3) := by decide +kernel
theorem d6_init_19 : decode b6_init 19 = .ok (.putfield 17, 3) := by decide +kernel
theorem d6_init_22 : decode b6_init 22 = .ok (.aload_n 0, 1) := by decide +kernel
theorem d6_init_23 : decode b6_init 23 = .ok (.bipush 64, 2) := by decide +kernel
theorem d6_init_25 : decode b6_init 25 = .ok (.anewarray 21, 3) := by decide +kernel
theorem d6_init_28 : decode b6_init 28 = .ok (.putfield 23, 3) := by decide +kernel
theorem d6_init_31 : decode b6_init 31 = .ok (.aload_n 0, 1) := by decide +kernel
theorem d6_init_32 : decode b6_init 32 = .ok (.bipush 60, 2) := by decide +kernel
theorem d6_init_34 : decode b6_init 34 = .ok (.anewarray 27, 3) := by decide +kernel
theorem d6_init_37 : decode b6_init 37 = .ok (.putfield 29, 3) := by decide +kernel
theorem d6_init_40 : decode b6_init 40 = .ok (.aload_n 0, 1) := by decide +kernel
theorem d6_init_41 : decode b6_init 41 = .ok (.new 33, 3) := by decide +kernel
theorem d6_init_44 : decode b6_init 44 = .ok (.dup, 1) := by decide +kernel
theorem d6_init_45 : decode b6_init 45 = .ok (.invokespecial 35, 3) := by decide +kernel
theorem d6_init_48 : decode b6_init 48 = .ok (.putfield 36, 3) := by decide +kernel
theorem d6_init_51 : decode b6_init 51 = .ok (.aload_n 0, 1) := by decide +kernel
theorem d6_init_52 : decode b6_init 52 = .ok (.new 40, 3) := by decide +kernel
theorem d6_init_55 : decode b6_init 55 = .ok (.dup, 1) := by decide +kernel
theorem d6_init_56 : decode b6_init 56 = .ok (.invokespecial 42, 3) := by decide +kernel
theorem d6_init_59 : decode b6_init 59 = .ok (.putfield 43, 3) := by decide +kernel
theorem d6_init_62 : decode b6_init 62 = .ok (.aload_n 0, 1) := by decide +kernel
theorem d6_init_63 : decode b6_init 63 = .ok (.bipush 64, 2) := by decide +kernel
theorem d6_init_65 : decode b6_init 65 = .ok (.newarray .int, 2) := by decide +kernel
theorem d6_init_67 : decode b6_init 67 = .ok (.putfield 47, 3) := by decide +kernel
theorem d6_init_70 : decode b6_init 70 = .ok (.aload_n 0, 1) := by decide +kernel
theorem d6_init_71 : decode b6_init 71 = .ok (.bipush 64, 2) := by decide +kernel
theorem d6_init_73 : decode b6_init 73 = .ok (.newarray .int, 2) := by decide +kernel
theorem d6_init_75 : decode b6_init 75 = .ok (.putfield 51, 3) := by decide +kernel
theorem d6_init_78 : decode b6_init 78 = .ok (.aload_n 0, 1) := by decide +kernel
theorem d6_init_79 : decode b6_init 79 = .ok (.iconst 0, 1) := by decide +kernel
theorem d6_init_80 : decode b6_init 80 = .ok (.putfield 54, 3) := by decide +kernel
theorem d6_init_83 : decode b6_init 83 = .ok (.aload_n 0, 1) := by decide +kernel
theorem d6_init_84 : decode b6_init 84 = .ok (.iconst (-1), 1) := by decide +kernel
theorem d6_init_85 : decode b6_init 85 = .ok (.putfield 58, 3) := by decide +kernel
theorem d6_init_88 : decode b6_init 88 = .ok (.aload_n 0, 1) := by decide +kernel
theorem d6_init_89 : decode b6_init 89 = .ok (.iconst 0, 1) := by decide +kernel
theorem d6_init_90 : decode b6_init 90 = .ok (.putfield 61, 3) := by decide +kernel
theorem d6_init_93 : decode b6_init 93 = .ok (.aload_n 0, 1) := by decide +kernel
theorem d6_init_94 : decode b6_init 94 = .ok (.iconst (-1), 1) := by decide +kernel
theorem d6_init_95 : decode b6_init 95 = .ok (.putfield 64, 3) := by decide +kernel
theorem d6_init_98 : decode b6_init 98 = .ok (.aload_n 0, 1) := by decide +kernel
theorem d6_init_99 : decode b6_init 99 = .ok (.iconst 0, 1) := by decide +kernel
theorem d6_init_100 : decode b6_init 100 = .ok (.putfield 67, 3) := by decide +kernel
theorem d6_init_103 : decode b6_init 103 = .ok (.aload_n 0, 1) := by decide +kernel
theorem d6_init_104 : decode b6_init 104 = .ok (.iconst 0, 1) := by decide +kernel
theorem d6_init_105 : decode b6_init 105 = .ok (.putfield 70, 3) := by decide +kernel
theorem d6_init_108 : decode b6_init 108 = .ok (.aload_n 0, 1) := by decide +kernel
theorem d6_init_109 : decode b6_init 109 = .ok (.iconst 0, 1) := by decide +kernel
theorem d6_init_110 : decode b6_init 110 = .ok (.putfield 73, 3) := by decide +kernel
theorem d6_init_113 : decode b6_init 113 = .ok (.iconst 0, 1) := by decide +kernel
theorem d6_init_114 : decode b6_init 114 = .ok (.istore_n 1, 1) := by decide +kernel
theorem d6_init_115 : decode b6_init 115 = .ok (.iload_n 1, 1) := by decide +kernel
theorem d6_init_116 : decode b6_init 116 = .ok (.bipush 64, 2) := by decide +kernel
theorem d6_init_118 : decode b6_init 118 = .ok (.if_icmp .ge 22, 3) := by decide +kernel
theorem d6_init_121 : decode b6_init 121 = .ok (.aload_n 0, 1) := by decide +kernel
theorem d6_init_122 : decode b6_init 122 = .ok (.getfield 23, 3) := by decide +kernel
theorem d6_init_125 : decode b6_init 125 = .ok (.iload_n 1, 1) := by decide +kernel
theorem d6_init_126 : decode b6_init 126 = .ok (.new 21, 3) := by decide +kernel
theorem d6_init_129 : decode b6_init 129 = .ok (.dup, 1) := by decide +kernel
theorem d6_init_130 : decode b6_init 130 = .ok (.invokespecial 76, 3) := by decide +kernel
theorem d6_init_133 : decode b6_init 133 = .ok (.aastore, 1) := by decide +kernel
theorem d6_init_134 : decode b6_init 134 = .ok (.iinc 1 1, 3) := by decide +kernel
theorem d6_init_137 : decode b6_init 137 = .ok (.goto (-22), 3) := by decide +kernel
theorem d6_init_140 : decode b6_init 140 = .ok (.return_, 1) := by decide +kernel
theorem d6_user_0 : decode b6_user 0 = .ok (.iload_n 1, 1) := by decide +kernel
theorem d6_user_1 : decode b6_user 1 = .ok (.ifCond .lt 27, 3) := by decide +kernel
theorem d6_user_4 : decode b6_user 4 = .ok (.iload_n 1, 1) := by decide +kernel
theorem d6_user_5 : decode b6_user 5 = .ok (.bipush 16, 2) := by decide +kernel
theorem d6_user_7 : decode b6_user 7 = .ok (.if_icmp .ge 21, 3) := by decide +kernel
theorem d6_user_10 : decode b6_user 10 = .ok (.iload_n 2, 1) := by decide +kernel
theorem d6_user_11 : decode b6_user 11 = .ok (.ifCond .lt 17, 3) := by decide +kernel
theorem d6_user_14 : decode b6_user 14 = .ok (.iload_n 2, 1) := by decide +kernel
theorem d6_user_15 : decode b6_user 15 = .ok (.iconst 2, 1) := by decide +kernel
theorem d6_user_16 : decode b6_user 16 = .ok (.if_icmp .gt 12, 3) := by decide +kernel
theorem d6_user_19 : decode b6_user 19 = .ok (.aload_n 0, 1) := by decide +kernel
theorem d6_user_20 : decode b6_user 20 = .ok (.getfield 11, 3) := by decide +kernel
theorem d6_user_23 : decode b6_user 23 = .ok (.iload_n 1, 1) := by decide +kernel
theorem d6_user_24 : decode b6_user 24 = .ok (.aaload, 1) := by decide +kernel
theorem d6_user_25 : decode b6_user 25 = .ok (.ifnull 5, 3) := by decide +kernel
theorem d6_user_28 : decode b6_user 28 = .ok (.iconst (-1), 1) := by decide +kernel
theorem d6_user_29 : decode b6_user 29 = .ok (.ireturn, 1) := by decide +kernel
theorem d6_user_30 : decode b6_user 30 = .ok (.aload_n 0, 1) := by decide +kernel
theorem d6_user_31 : decode b6_user 31 = .ok (.getfield 11, 3) := by decide +kernel
theorem d6_user_34 : decode b6_user 34 = .ok (.iload_n 1, 1) := by decide +kernel
theorem d6_user_35 : decode b6_user 35 = .ok (.new 9, 3) := by decide +kernel
theorem d6_user_38 : decode b6_user 38 = .ok (.dup, 1) := by decide +kernel
theorem d6_user_39 : decode b6_user 39 = .ok (.iload_n 2, 1) := by decide +kernel
theorem d6_user_40 : decode b6_user 40 = .ok (.iload_n 3, 1) := by decide +kernel
theorem d6_user_41 : decode b6_user 41 = .ok (.invokespecial 77, 3) := by decide +kernel
theorem d6_user_44 : decode b6_user 44 = .ok (.aastore, 1) := by decide +kernel
theorem d6_user_45 : decode b6_user 45 = .ok (.iconst 0, 1) := by decide +kernel
theorem d6_user_46 : decode b6_user 46 = .ok (.ireturn, 1) := by decide +kernel
theorem d6_item_0 : decode b6_item 0 = .ok (.iload_n 1, 1) := by decide +kernel
theorem d6_item_1 : decode b6_item 1 = .ok (.ifCond .lt 29, 3) := by decide +kernel
theorem d6_item_4 : decode b6_item 4 = .ok (.iload_n 1, 1) := by decide +kernel
theorem d6_item_5 : decode b6_item 5 = .ok (.bipush 32, 2) := by decide +kernel
theorem d6_item_7 : decode b6_item 7 = .ok (.if_icmp .ge 23, 3) := by decide +kernel
theorem d6_item_10 : decode b6_item 10 = .ok (.iload_n 3, 1) := by decide +kernel
theorem d6_item_11 : decode b6_item 11 = .ok (.ifCond .lt 19, 3) := by decide +kernel
theorem d6_item_14 : decode b6_item 14 = .ok (.iload_n 3, 1) := by decide +kernel
theorem d6_item_15 : decode b6_item 15 = .ok (.sipush 10000, 3) := by decide +kernel
theorem d6_item_18 : decode b6_item 18 = .ok (.if_icmp .gt 12, 3) := by decide +kernel
theorem d6_item_21 : decode b6_item 21 = .ok (.aload_n 0, 1) := by decide +kernel
theorem d6_item_22 : decode b6_item 22 = .ok (.getfield 17, 3) := by decide +kernel
theorem d6_item_25 : decode b6_item 25 = .ok (.iload_n 1, 1) := by decide +kernel
theorem d6_item_26 : decode b6_item 26 = .ok (.aaload, 1) := by decide +kernel
theorem d6_item_27 : decode b6_item 27 = .ok (.ifnull 5, 3) := by decide +kernel
theorem d6_item_30 : decode b6_item 30 = .ok (.iconst (-1), 1) := by decide +kernel
theorem d6_item_31 : decode b6_item 31 = .ok (.ireturn, 1) := by decide +kernel
theorem d6_item_32 : decode b6_item 32 = .ok (.aload_n 0, 1) := by decide +kernel
theorem d6_item_33 : decode b6_item 33 = .ok (.getfield 17, 3) := by decide +kernel
theorem d6_item_36 : decode b6_item 36 = .ok (.iload_n 1, 1) := by decide +kernel
theorem d6_item_37 : decode b6_item 37 = .ok (.new 15, 3) := by decide +kernel
theorem d6_item_40 : decode b6_item 40 = .ok (.dup, 1) := by decide +kernel
theorem d6_item_41 : decode b6_item 41 = .ok (.iload_n 2, 1) := by decide +kernel
theorem d6_item_42 : decode b6_item 42 = .ok (.iload_n 3, 1) := by decide +kernel
theorem d6_item_43 : decode b6_item 43 = .ok (.invokespecial 80, 3) := by decide +kernel
theorem d6_item_46 : decode b6_item 46 = .ok (.aastore, 1) := by decide +kernel
theorem d6_item_47 : decode b6_item 47 = .ok (.iconst 0, 1) := by decide +kernel
theorem d6_item_48 : decode b6_item 48 = .ok (.ireturn, 1) := by decide +kernel
theorem d6_login_0 : decode b6_login 0 = .ok (.aload_n 0, 1) := by decide +kernel
theorem d6_login_1 : decode b6_login 1 = .ok (.iload_n 1, 1) := by decide +kernel
theorem d6_login_2 : decode b6_login 2 = .ok (.invokevirtual 83, 3) := by decide +kernel
theorem d6_login_5 : decode b6_login 5 = .ok (.ifCond .ne 5, 3) := by decide +kernel
theorem d6_login_8 : decode b6_login 8 = .ok (.iconst (-1), 1) := by decide +kernel
theorem d6_login_9 : decode b6_login 9 = .ok (.ireturn, 1) := by decide +kernel
theorem d6_login_10 : decode b6_login 10 = .ok (.aload_n 0, 1) := by decide +kernel
theorem d6_login_11 : decode b6_login 11 = .ok (.getfield 36, 3) := by decide +kernel
theorem d6_login_14 : decode b6_login 14 = .ok (.invokevirtual 87, 3) := by decide +kernel
theorem d6_login_17 : decode b6_login 17 = .ok (.ifCond .eq 6, 3) := by decide +kernel
theorem d6_login_20 : decode b6_login 20 = .ok (.bipush (-4), 2) := by decide +kernel
theorem d6_login_22 : decode b6_login 22 = .ok (.ireturn, 1) := by decide +kernel
theorem d6_login_23 : decode b6_login 23 = .ok (.aload_n 0, 1) := by decide +kernel
theorem d6_login_24 : decode b6_login 24 = .ok (.aload_n 0, 1) := by decide +kernel
theorem d6_login_25 : decode b6_login 25 = .ok (.getfield 11, 3) := by decide +kernel
theorem d6_login_28 : decode b6_login 28 = .ok (.iload_n 1, 1) := by decide +kernel
theorem d6_login_29 : decode b6_login 29 = .ok (.aaload, 1) := by decide +kernel
theorem d6_login_30 : decode b6_login 30 = .ok (.iload_n 2, 1) := by decide +kernel
theorem d6_login_31 : decode b6_login 31 = .ok (.invokevirtual 91, 3) := by decide +kernel
theorem d6_login_34 : decode b6_login 34 = .ok (.istore_n 3, 1) := by decide +kernel
theorem d6_login_35 : decode b6_login 35 = .ok (.iload_n 3, 1) := by decide +kernel
theorem d6_login_36 : decode b6_login 36 = .ok (.ifCond .eq 5, 3) := by decide +kernel
theorem d6_login_39 : decode b6_login 39 = .ok (.iload_n 3, 1) := by decide +kernel
theorem d6_login_40 : decode b6_login 40 = .ok (.ireturn, 1) := by decide +kernel
theorem d6_login_41 : decode b6_login 41 = .ok (.aload_n 0, 1) := by decide +kernel
theorem d6_login_42 : decode b6_login 42 = .ok (.invokevirtual 95, 3) := by decide +kernel
theorem d6_login_45 : decode b6_login 45 = .ok (.aload_n 0, 1) := by decide +kernel
theorem d6_login_46 : decode b6_login 46 = .ok (.iload_n 1, 1) := by decide +kernel
theorem d6_login_47 : decode b6_login 47 = .ok (.putfield 58, 3) := by decide +kernel
theorem d6_login_50 : decode b6_login 50 = .ok (.aload_n 0, 1) := by decide +kernel
theorem d6_login_51 : decode b6_login 51 = .ok (.invokevirtual 98, 3) := by decide +kernel
theorem d6_login_54 : decode b6_login 54 = .ok (.iconst 0, 1) := by decide +kernel
theorem d6_login_55 : decode b6_login 55 = .ok (.ireturn, 1) := by decide +kernel
theorem d6_logout_0 : decode b6_logout 0 = .ok (.aload_n 0, 1) := by decide +kernel
theorem d6_logout_1 : decode b6_logout 1 = .ok (.getfield 58, 3) := by decide +kernel
theorem d6_logout_4 : decode b6_logout 4 = .ok (.iconst (-1), 1) := by decide +kernel
theorem d6_logout_5 : decode b6_logout 5 = .ok (.if_icmp .ne 6, 3) := by decide +kernel
theorem d6_logout_8 : decode b6_logout 8 = .ok (.bipush (-2), 2) := by decide +kernel
theorem d6_logout_10 : decode b6_logout 10 = .ok (.ireturn, 1) := by decide +kernel
theorem d6_logout_11 : decode b6_logout 11 = .ok (.aload_n 0, 1) := by decide +kernel
theorem d6_logout_12 : decode b6_logout 12 = .ok (.getfield 36, 3) := by decide +kernel
theorem d6_logout_15 : decode b6_logout 15 = .ok (.invokevirtual 87, 3) := by decide +kernel
theorem d6_logout_18 : decode b6_logout 18 = .ok (.ifCond .eq 6, 3) := by decide +kernel
theorem d6_logout_21 : decode b6_logout 21 = .ok (.bipush (-4), 2) := by decide +kernel
theorem d6_logout_23 : decode b6_logout 23 = .ok (.ireturn, 1) := by decide +kernel
theorem d6_logout_24 : decode b6_logout 24 = .ok (.aload_n 0, 1) := by decide +kernel
theorem d6_logout_25 : decode b6_logout 25 = .ok (.getfield 58, 3) := by decide +kernel
theorem d6_logout_28 : decode b6_logout 28 = .ok (.istore_n 1, 1) := by decide +kernel
theorem d6_logout_29 : decode b6_logout 29 = .ok (.aload_n 0, 1) := by decide +kernel
theorem d6_logout_30 : decode b6_logout 30 = .ok (.invokevirtual 95, 3) := by decide +kernel
theorem d6_logout_33 : decode b6_logout 33 = .ok (.iload_n 1, 1) := by decide +kernel
theorem d6_logout_34 : decode b6_logout 34 = .ok (.ireturn, 1) := by decide +kernel
theorem d6_witness_0 : decode b6_witness 0 = .ok (.aload_n 0, 1) := by decide +kernel
theorem d6_witness_1 : decode b6_witness 1 = .ok (.iload_n 1, 1) := by decide +kernel
theorem d6_witness_2 : decode b6_witness 2 = .ok (.invokevirtual 83, 3) := by decide +kernel
theorem d6_witness_5 : decode b6_witness 5 = .ok (.ifCond .eq 11, 3) := by decide +kernel
theorem d6_witness_8 : decode b6_witness 8 = .ok (.iload_n 1, 1) := by decide +kernel
theorem d6_witness_9 : decode b6_witness 9 = .ok (.aload_n 0, 1) := by decide +kernel
theorem d6_witness_10 : decode b6_witness 10 = .ok (.getfield 58, 3) := by decide +kernel
theorem d6_witness_13 : decode b6_witness 13 = .ok (.if_icmp .ne 5, 3) := by decide +kernel
theorem d6_witness_16 : decode b6_witness 16 = .ok (.iconst (-1), 1) := by decide +kernel
theorem d6_witness_17 : decode b6_witness 17 = .ok (.ireturn, 1) := by decide +kernel
theorem d6_witness_18 : decode b6_witness 18 = .ok (.aload_n 0, 1) := by decide +kernel
theorem d6_witness_19 : decode b6_witness 19 = .ok (.getfield 58, 3) := by decide +kernel
theorem d6_witness_22 : decode b6_witness 22 = .ok (.iconst (-1), 1) := by decide +kernel
theorem d6_witness_23 : decode b6_witness 23 = .ok (.if_icmp .ne 6, 3) := by decide +kernel
theorem d6_witness_26 : decode b6_witness 26 = .ok (.bipush (-2), 2) := by decide +kernel
theorem d6_witness_28 : decode b6_witness 28 = .ok (.ireturn, 1) := by decide +kernel
theorem d6_witness_29 : decode b6_witness 29 = .ok (.aload_n 0, 1) := by decide +kernel
theorem d6_witness_30 : decode b6_witness 30 = .ok (.aload_n 0, 1) := by decide +kernel
theorem d6_witness_31 : decode b6_witness 31 = .ok (.getfield 11, 3) := by decide +kernel
theorem d6_witness_34 : decode b6_witness 34 = .ok (.iload_n 1, 1) := by decide +kernel
theorem d6_witness_35 : decode b6_witness 35 = .ok (.aaload, 1) := by decide +kernel
theorem d6_witness_36 : decode b6_witness 36 = .ok (.iload_n 2, 1) := by decide +kernel
theorem d6_witness_37 : decode b6_witness 37 = .ok (.invokevirtual 91, 3) := by decide +kernel
theorem d6_witness_40 : decode b6_witness 40 = .ok (.istore_n 3, 1) := by decide +kernel
theorem d6_witness_41 : decode b6_witness 41 = .ok (.iload_n 3, 1) := by decide +kernel
theorem d6_witness_42 : decode b6_witness 42 = .ok (.ifCond .eq 5, 3) := by decide +kernel
theorem d6_witness_45 : decode b6_witness 45 = .ok (.iload_n 3, 1) := by decide +kernel
theorem d6_witness_46 : decode b6_witness 46 = .ok (.ireturn, 1) := by decide +kernel
theorem d6_witness_47 : decode b6_witness 47 = .ok (.aload_n 0, 1) := by decide +kernel
theorem d6_witness_48 : decode b6_witness 48 = .ok (.iload_n 1, 1) := by decide +kernel
theorem d6_witness_49 : decode b6_witness 49 = .ok (.putfield 64, 3) := by decide +kernel
theorem d6_witness_52 : decode b6_witness 52 = .ok (.aload_n 0, 1) := by decide +kernel
theorem d6_witness_53 : decode b6_witness 53 = .ok (.aload_n 0, 1) := by decide +kernel
theorem d6_witness_54 : decode b6_witness 54 = .ok (.getfield 54, 3) := by decide +kernel
theorem d6_witness_57 : decode b6_witness 57 = .ok (.bipush 120, 2) := by decide +kernel
theorem d6_witness_59 : decode b6_witness 59 = .ok (.iadd, 1) := by decide +kernel
theorem d6_witness_60 : decode b6_witness 60 = .ok (.putfield 67, 3) := by decide +kernel
theorem d6_witness_63 : decode b6_witness 63 = .ok (.aload_n 0, 1) := by decide +kernel
theorem d6_witness_64 : decode b6_witness 64 = .ok (.invokevirtual 98, 3) := by decide +kernel
theorem d6_witness_67 : decode b6_witness 67 = .ok (.aload_n 0, 1) := by decide +kernel
theorem d6_witness_68 : decode b6_witness 68 = .ok (.getfield 67, 3) := by decide +kernel
theorem d6_witness_71 : decode b6_witness 71 = .ok (.ireturn, 1) := by decide +kernel
theorem d6_tick_0 : decode b6_tick 0 = .ok (.iload_n 1, 1) := by decide +kernel
theorem d6_tick_1 : decode b6_tick 1 = .ok (.iconst 1, 1) := by decide +kernel
theorem d6_tick_2 : decode b6_tick 2 = .ok (.if_icmp .lt 10, 3) := by decide +kernel
theorem d6_tick_5 : decode b6_tick 5 = .ok (.iload_n 1, 1) := by decide +kernel
theorem d6_tick_6 : decode b6_tick 6 = .ok (.sipush 1000, 3) := by decide +kernel
theorem d6_tick_9 : decode b6_tick 9 = .ok (.if_icmp .le 5, 3) := by decide +kernel
theorem d6_tick_12 : decode b6_tick 12 = .ok (.iconst (-1), 1) := by decide +kernel
theorem d6_tick_13 : decode b6_tick 13 = .ok (.ireturn, 1) := by decide +kernel
theorem d6_tick_14 : decode b6_tick 14 = .ok (.aload_n 0, 1) := by decide +kernel
theorem d6_tick_15 : decode b6_tick 15 = .ok (.dup, 1) := by decide +kernel
theorem d6_tick_16 : decode b6_tick 16 = .ok (.getfield 54, 3) := by decide +kernel
theorem d6_tick_19 : decode b6_tick 19 = .ok (.iload_n 1, 1) := by decide +kernel
theorem d6_tick_20 : decode b6_tick 20 = .ok (.iadd, 1) := by decide +kernel
theorem d6_tick_21 : decode b6_tick 21 = .ok (.putfield 54, 3) := by decide +kernel
theorem d6_tick_24 : decode b6_tick 24 = .ok (.aload_n 0, 1) := by decide +kernel
theorem d6_tick_25 : decode b6_tick 25 = .ok (.getfield 54, 3) := by decide +kernel
theorem d6_tick_28 : decode b6_tick 28 = .ok (.aload_n 0, 1) := by decide +kernel
theorem d6_tick_29 : decode b6_tick 29 = .ok (.getfield 67, 3) := by decide +kernel
theorem d6_tick_32 : decode b6_tick 32 = .ok (.if_icmp .lt 8, 3) := by decide +kernel
theorem d6_tick_35 : decode b6_tick 35 = .ok (.aload_n 0, 1) := by decide +kernel
theorem d6_tick_36 : decode b6_tick 36 = .ok (.iconst (-1), 1) := by decide +kernel
theorem d6_tick_37 : decode b6_tick 37 = .ok (.putfield 64, 3) := by decide +kernel
theorem d6_tick_40 : decode b6_tick 40 = .ok (.aload_n 0, 1) := by decide +kernel
theorem d6_tick_41 : decode b6_tick 41 = .ok (.getfield 36, 3) := by decide +kernel
theorem d6_tick_44 : decode b6_tick 44 = .ok (.invokevirtual 87, 3) := by decide +kernel
theorem d6_tick_47 : decode b6_tick 47 = .ok (.ifCond .ne 21, 3) := by decide +kernel
theorem d6_tick_50 : decode b6_tick 50 = .ok (.aload_n 0, 1) := by decide +kernel
theorem d6_tick_51 : decode b6_tick 51 = .ok (.getfield 54, 3) := by decide +kernel
theorem d6_tick_54 : decode b6_tick 54 = .ok (.aload_n 0, 1) := by decide +kernel
theorem d6_tick_55 : decode b6_tick 55 = .ok (.getfield 61, 3) := by decide +kernel
theorem d6_tick_58 : decode b6_tick 58 = .ok (.isub, 1) := by decide +kernel
theorem d6_tick_59 : decode b6_tick 59 = .ok (.bipush 120, 2) := by decide +kernel
theorem d6_tick_61 : decode b6_tick 61 = .ok (.if_icmp .lt 7, 3) := by decide +kernel
theorem d6_tick_64 : decode b6_tick 64 = .ok (.aload_n 0, 1) := by decide +kernel
theorem d6_tick_65 : decode b6_tick 65 = .ok (.invokevirtual 95, 3) := by decide +kernel
theorem d6_tick_68 : decode b6_tick 68 = .ok (.aload_n 0, 1) := by decide +kernel
theorem d6_tick_69 : decode b6_tick 69 = .ok (.getfield 54, 3) := by decide +kernel
theorem d6_tick_72 : decode b6_tick 72 = .ok (.ireturn, 1) := by decide +kernel
theorem d6_order_0 : decode b6_order 0 = .ok (.aload_n 0, 1) := by decide +kernel
theorem d6_order_1 : decode b6_order 1 = .ok (.iload_n 1, 1) := by decide +kernel
theorem d6_order_2 : decode b6_order 2 = .ok (.invokevirtual 101, 3) := by decide +kernel
theorem d6_order_5 : decode b6_order 5 = .ok (.ifCond .eq 34, 3) := by decide +kernel
theorem d6_order_8 : decode b6_order 8 = .ok (.iload_n 2, 1) := by decide +kernel
theorem d6_order_9 : decode b6_order 9 = .ok (.iconst 1, 1) := by decide +kernel
theorem d6_order_10 : decode b6_order 10 = .ok (.if_icmp .lt 29, 3) := by decide +kernel
theorem d6_order_13 : decode b6_order 13 = .ok (.iload_n 2, 1) := by decide +kernel
theorem d6_order_14 : decode b6_order 14 = .ok (.sipush 1000, 3) := by decide +kernel
theorem d6_order_17 : decode b6_order 17 = .ok (.if_icmp .gt 22, 3) := by decide +kernel
theorem d6_order_20 : decode b6_order 20 = .ok (.iload_n 3, 1) := by decide +kernel
theorem d6_order_21 : decode b6_order 21 = .ok (.ifCond .lt 18, 3) := by decide +kernel
theorem d6_order_24 : decode b6_order 24 = .ok (.iload_n 3, 1) := by decide +kernel
theorem d6_order_25 : decode b6_order 25 = .ok (.ldc 104, 2) := by decide +kernel
theorem d6_order_27 : decode b6_order 27 = .ok (.if_icmp .gt 12, 3) := by decide +kernel
theorem d6_order_30 : decode b6_order 30 = .ok (.iload 4, 2) := by decide +kernel
theorem d6_order_32 : decode b6_order 32 = .ok (.aload_n 0, 1) := by decide +kernel
theorem d6_order_33 : decode b6_order 33 = .ok (.getfield 54, 3) := by decide +kernel
theorem d6_order_36 : decode b6_order 36 = .ok (.if_icmp .gt 5, 3) := by decide +kernel
theorem d6_order_39 : decode b6_order 39 = .ok (.iconst (-1), 1) := by decide +kernel
theorem d6_order_40 : decode b6_order 40 = .ok (.ireturn, 1) := by decide +kernel
theorem d6_order_41 : decode b6_order 41 = .ok (.aload_n 0, 1) := by decide +kernel
theorem d6_order_42 : decode b6_order 42 = .ok (.getfield 58, 3) := by decide +kernel
theorem d6_order_45 : decode b6_order 45 = .ok (.iconst (-1), 1) := by decide +kernel
theorem d6_order_46 : decode b6_order 46 = .ok (.if_icmp .ne 6, 3) := by decide +kernel
theorem d6_order_49 : decode b6_order 49 = .ok (.bipush (-2), 2) := by decide +kernel
theorem d6_order_51 : decode b6_order 51 = .ok (.ireturn, 1) := by decide +kernel
theorem d6_order_52 : decode b6_order 52 = .ok (.aload_n 0, 1) := by decide +kernel
theorem d6_order_53 : decode b6_order 53 = .ok (.invokevirtual 105, 3) := by decide +kernel
theorem d6_order_56 : decode b6_order 56 = .ok (.ifCond .ne 6, 3) := by decide +kernel
theorem d6_order_59 : decode b6_order 59 = .ok (.bipush (-3), 2) := by decide +kernel
theorem d6_order_61 : decode b6_order 61 = .ok (.ireturn, 1) := by decide +kernel
theorem d6_order_62 : decode b6_order 62 = .ok (.aload_n 0, 1) := by decide +kernel
theorem d6_order_63 : decode b6_order 63 = .ok (.getfield 70, 3) := by decide +kernel
theorem d6_order_66 : decode b6_order 66 = .ok (.bipush 60, 2) := by decide +kernel
theorem d6_order_68 : decode b6_order 68 = .ok (.if_icmp .lt 6, 3) := by decide +kernel
theorem d6_order_71 : decode b6_order 71 = .ok (.bipush (-8), 2) := by decide +kernel
theorem d6_order_73 : decode b6_order 73 = .ok (.ireturn, 1) := by decide +kernel
theorem d6_order_74 : decode b6_order 74 = .ok (.aload_n 0, 1) := by decide +kernel
theorem d6_order_75 : decode b6_order 75 = .ok (.getfield 70, 3) := by decide +kernel
theorem d6_order_78 : decode b6_order 78 = .ok (.istore 5, 2) := by decide +kernel
theorem d6_order_80 : decode b6_order 80 = .ok (.aload_n 0, 1) := by decide +kernel
theorem d6_order_81 : decode b6_order 81 = .ok (.getfield 29, 3) := by decide +kernel
theorem d6_order_84 : decode b6_order 84 = .ok (.iload 5, 2) := by decide +kernel
theorem d6_order_86 : decode b6_order 86 = .ok (.new 27, 3) := by decide +kernel
theorem d6_order_89 : decode b6_order 89 = .ok (.dup, 1) := by decide +kernel
theorem d6_order_90 : decode b6_order 90 = .ok (.iload_n 1, 1) := by decide +kernel
theorem d6_order_91 : decode b6_order 91 = .ok (.iload_n 2, 1) := by decide +kernel
theorem d6_order_92 : decode b6_order 92 = .ok (.iload_n 3, 1) := by decide +kernel
theorem d6_order_93 : decode b6_order 93 = .ok (.iload 4, 2) := by decide +kernel
theorem d6_order_95 : decode b6_order 95 = .ok (.invokespecial 108, 3) := by decide +kernel
theorem d6_order_98 : decode b6_order 98 = .ok (.aastore, 1) := by decide +kernel
theorem d6_order_99 : decode b6_order 99 = .ok (.aload_n 0, 1) := by decide +kernel
theorem d6_order_100 : decode b6_order 100 = .ok (.dup, 1) := by decide +kernel
theorem d6_order_101 : decode b6_order 101 = .ok (.getfield 70, 3) := by decide +kernel
theorem d6_order_104 : decode b6_order 104 = .ok (.iconst 1, 1) := by decide +kernel
theorem d6_order_105 : decode b6_order 105 = .ok (.iadd, 1) := by decide +kernel
theorem d6_order_106 : decode b6_order 106 = .ok (.putfield 70, 3) := by decide +kernel
theorem d6_order_109 : decode b6_order 109 = .ok (.aload_n 0, 1) := by decide +kernel
theorem d6_order_110 : decode b6_order 110 = .ok (.invokevirtual 98, 3) := by decide +kernel
theorem d6_order_113 : decode b6_order 113 = .ok (.iload 5, 2) := by decide +kernel
theorem d6_order_115 : decode b6_order 115 = .ok (.ireturn, 1) := by decide +kernel
theorem d6_cancel_0 : decode b6_cancel 0 = .ok (.aload_n 0, 1) := by decide +kernel
theorem d6_cancel_1 : decode b6_cancel 1 = .ok (.iload_n 1, 1) := by decide +kernel
theorem d6_cancel_2 : decode b6_cancel 2 = .ok (.invokevirtual 111, 3) := by decide +kernel
theorem d6_cancel_5 : decode b6_cancel 5 = .ok (.ifCond .ne 5, 3) := by decide +kernel
theorem d6_cancel_8 : decode b6_cancel 8 = .ok (.iconst (-1), 1) := by decide +kernel
theorem d6_cancel_9 : decode b6_cancel 9 = .ok (.ireturn, 1) := by decide +kernel
theorem d6_cancel_10 : decode b6_cancel 10 = .ok (.aload_n 0, 1) := by decide +kernel
theorem d6_cancel_11 : decode b6_cancel 11 = .ok (.getfield 58, 3) := by decide +kernel
theorem d6_cancel_14 : decode b6_cancel 14 = .ok (.iconst (-1), 1) := by decide +kernel
theorem d6_cancel_15 : decode b6_cancel 15 = .ok (.if_icmp .ne 6, 3) := by decide +kernel
theorem d6_cancel_18 : decode b6_cancel 18 = .ok (.bipush (-2), 2) := by decide +kernel
theorem d6_cancel_20 : decode b6_cancel 20 = .ok (.ireturn, 1) := by decide +kernel
theorem d6_cancel_21 : decode b6_cancel 21 = .ok (.aload_n 0, 1) := by decide +kernel
theorem d6_cancel_22 : decode b6_cancel 22 = .ok (.invokevirtual 105, 3) := by decide +kernel
theorem d6_cancel_25 : decode b6_cancel 25 = .ok (.ifCond .ne 6, 3) := by decide +kernel
theorem d6_cancel_28 : decode b6_cancel 28 = .ok (.bipush (-3), 2) := by decide +kernel
theorem d6_cancel_30 : decode b6_cancel 30 = .ok (.ireturn, 1) := by decide +kernel
theorem d6_cancel_31 : decode b6_cancel 31 = .ok (.aload_n 0, 1) := by decide +kernel
theorem d6_cancel_32 : decode b6_cancel 32 = .ok (.getfield 36, 3) := by decide +kernel
theorem d6_cancel_35 : decode b6_cancel 35 = .ok (.getfield 114, 3) := by decide +kernel
theorem d6_cancel_38 : decode b6_cancel 38 = .ok (.iload_n 1, 1) := by decide +kernel
theorem d6_cancel_39 : decode b6_cancel 39 = .ok (.if_icmp .ne 6, 3) := by decide +kernel
theorem d6_cancel_42 : decode b6_cancel 42 = .ok (.bipush (-4), 2) := by decide +kernel
theorem d6_cancel_44 : decode b6_cancel 44 = .ok (.ireturn, 1) := by decide +kernel
theorem d6_cancel_45 : decode b6_cancel 45 = .ok (.aload_n 0, 1) := by decide +kernel
theorem d6_cancel_46 : decode b6_cancel 46 = .ok (.getfield 29, 3) := by decide +kernel
theorem d6_cancel_49 : decode b6_cancel 49 = .ok (.iload_n 1, 1) := by decide +kernel
theorem d6_cancel_50 : decode b6_cancel 50 = .ok (.aaload, 1) := by decide +kernel
theorem d6_cancel_51 : decode b6_cancel 51 = .ok (.astore_n 2, 1) := by decide +kernel
theorem d6_cancel_52 : decode b6_cancel 52 = .ok (.aload_n 2, 1) := by decide +kernel
theorem d6_cancel_53 : decode b6_cancel 53 = .ok (.aload_n 0, 1) := by decide +kernel
theorem d6_cancel_54 : decode b6_cancel 54 = .ok (.getfield 54, 3) := by decide +kernel
theorem d6_cancel_57 : decode b6_cancel 57 = .ok (.invokevirtual 117, 3) := by decide +kernel
theorem d6_cancel_60 : decode b6_cancel 60 = .ok (.ifCond .ne 6, 3) := by decide +kernel
theorem d6_cancel_63 : decode b6_cancel 63 = .ok (.bipush (-6), 2) := by decide +kernel
theorem d6_cancel_65 : decode b6_cancel 65 = .ok (.ireturn, 1) := by decide +kernel
theorem d6_cancel_66 : decode b6_cancel 66 = .ok (.aload_n 2, 1) := by decide +kernel
theorem d6_cancel_67 : decode b6_cancel 67 = .ok (.iconst 1, 1) := by decide +kernel
theorem d6_cancel_68 : decode b6_cancel 68 = .ok (.putfield 119, 3) := by decide +kernel
theorem d6_cancel_71 : decode b6_cancel 71 = .ok (.aload_n 0, 1) := by decide +kernel
theorem d6_cancel_72 : decode b6_cancel 72 = .ok (.invokevirtual 98, 3) := by decide +kernel
theorem d6_cancel_75 : decode b6_cancel 75 = .ok (.aload_n 2, 1) := by decide +kernel
theorem d6_cancel_76 : decode b6_cancel 76 = .ok (.getfield 123, 3) := by decide +kernel
theorem d6_cancel_79 : decode b6_cancel 79 = .ok (.ireturn, 1) := by decide +kernel
theorem d6_begin_0 : decode b6_begin 0 = .ok (.aload_n 0, 1) := by decide +kernel
theorem d6_begin_1 : decode b6_begin 1 = .ok (.iload_n 1, 1) := by decide +kernel
theorem d6_begin_2 : decode b6_begin 2 = .ok (.iload_n 2, 1) := by decide +kernel
theorem d6_begin_3 : decode b6_begin 3 = .ok (.invokevirtual 126, 3) := by decide +kernel
theorem d6_begin_6 : decode b6_begin 6 = .ok (.ifCond .ne 5, 3) := by decide +kernel
theorem d6_begin_9 : decode b6_begin 9 = .ok (.iconst (-1), 1) := by decide +kernel
theorem d6_begin_10 : decode b6_begin 10 = .ok (.ireturn, 1) := by decide +kernel
theorem d6_begin_11 : decode b6_begin 11 = .ok (.aload_n 0, 1) := by decide +kernel
theorem d6_begin_12 : decode b6_begin 12 = .ok (.getfield 58, 3) := by decide +kernel
theorem d6_begin_15 : decode b6_begin 15 = .ok (.iconst (-1), 1) := by decide +kernel
theorem d6_begin_16 : decode b6_begin 16 = .ok (.if_icmp .ne 6, 3) := by decide +kernel
theorem d6_begin_19 : decode b6_begin 19 = .ok (.bipush (-2), 2) := by decide +kernel
theorem d6_begin_21 : decode b6_begin 21 = .ok (.ireturn, 1) := by decide +kernel
theorem d6_begin_22 : decode b6_begin 22 = .ok (.iload_n 1, 1) := by decide +kernel
theorem d6_begin_23 : decode b6_begin 23 = .ok (.iconst 1, 1) := by decide +kernel
theorem d6_begin_24 : decode b6_begin 24 = .ok (.if_icmp .ne 13, 3) := by decide +kernel
theorem d6_begin_27 : decode b6_begin 27 = .ok (.aload_n 0, 1) := by decide +kernel
theorem d6_begin_28 : decode b6_begin 28 = .ok (.invokevirtual 105, 3) := by decide +kernel
theorem d6_begin_31 : decode b6_begin 31 = .ok (.ifCond .ne 16, 3) := by decide +kernel
theorem d6_begin_34 : decode b6_begin 34 = .ok (.goto 10, 3) := by decide +kernel
theorem d6_begin_37 : decode b6_begin 37 = .ok (.aload_n 0, 1) := by decide +kernel
theorem d6_begin_38 : decode b6_begin 38 = .ok (.invokevirtual 130, 3) := by decide +kernel
theorem d6_begin_41 : decode b6_begin 41 = .ok (.ifCond .ne 6, 3) := by decide +kernel
theorem d6_begin_44 : decode b6_begin 44 = .ok (.bipush (-3), 2) := by decide +kernel
theorem d6_begin_46 : decode b6_begin 46 = .ok (.ireturn, 1) := by decide +kernel
theorem d6_begin_47 : decode b6_begin 47 = .ok (.aload_n 0, 1) := by decide +kernel
theorem d6_begin_48 : decode b6_begin 48 = .ok (.getfield 36, 3) := by decide +kernel
theorem d6_begin_51 : decode b6_begin 51 = .ok (.invokevirtual 87, 3) := by decide +kernel
theorem d6_begin_54 : decode b6_begin 54 = .ok (.ifCond .eq 6, 3) := by decide +kernel
theorem d6_begin_57 : decode b6_begin 57 = .ok (.bipush (-4), 2) := by decide +kernel
theorem d6_begin_59 : decode b6_begin 59 = .ok (.ireturn, 1) := by decide +kernel
theorem d6_begin_60 : decode b6_begin 60 = .ok (.aload_n 0, 1) := by decide +kernel
theorem d6_begin_61 : decode b6_begin 61 = .ok (.iload_n 1, 1) := by decide +kernel
theorem d6_begin_62 : decode b6_begin 62 = .ok (.iload_n 2, 1) := by decide +kernel
theorem d6_begin_63 : decode b6_begin 63 = .ok (.invokevirtual 133, 3) := by decide +kernel
theorem d6_begin_66 : decode b6_begin 66 = .ok (.ifCond .eq 14, 3) := by decide +kernel
theorem d6_begin_69 : decode b6_begin 69 = .ok (.aload_n 0, 1) := by decide +kernel
theorem d6_begin_70 : decode b6_begin 70 = .ok (.getfield 64, 3) := by decide +kernel
theorem d6_begin_73 : decode b6_begin 73 = .ok (.iconst (-1), 1) := by decide +kernel
theorem d6_begin_74 : decode b6_begin 74 = .ok (.if_icmp .ne 6, 3) := by decide +kernel
theorem d6_begin_77 : decode b6_begin 77 = .ok (.bipush (-5), 2) := by decide +kernel
theorem d6_begin_79 : decode b6_begin 79 = .ok (.ireturn, 1) := by decide +kernel
theorem d6_begin_80 : decode b6_begin 80 = .ok (.iload_n 1, 1) := by decide +kernel
theorem d6_begin_81 : decode b6_begin 81 = .ok (.ifCond .ne 22, 3) := by decide +kernel
theorem d6_begin_84 : decode b6_begin 84 = .ok (.aload_n 0, 1) := by decide +kernel
theorem d6_begin_85 : decode b6_begin 85 = .ok (.getfield 29, 3) := by decide +kernel
theorem d6_begin_88 : decode b6_begin 88 = .ok (.iload_n 2, 1) := by decide +kernel
theorem d6_begin_89 : decode b6_begin 89 = .ok (.aaload, 1) := by decide +kernel
theorem d6_begin_90 : decode b6_begin 90 = .ok (.aload_n 0, 1) := by decide +kernel
theorem d6_begin_91 : decode b6_begin 91 = .ok (.getfield 54, 3) := by decide +kernel
theorem d6_begin_94 : decode b6_begin 94 = .ok (.invokevirtual 136, 3) := by decide +kernel
theorem d6_begin_97 : decode b6_begin 97 = .ok (.ifCond .ne 6, 3) := by decide +kernel
theorem d6_begin_100 : decode b6_begin 100 = .ok (.bipush (-6), 2) := by decide +kernel
theorem d6_begin_102 : decode b6_begin 102 = .ok (.ireturn, 1) := by decide +kernel
theorem d6_begin_103 : decode b6_begin 103 = .ok (.iload_n 1, 1) := by decide +kernel
theorem d6_begin_104 : decode b6_begin 104 = .ok (.ifCond .ne 19, 3) := by decide +kernel
theorem d6_begin_107 : decode b6_begin 107 = .ok (.aload_n 0, 1) := by decide +kernel
theorem d6_begin_108 : decode b6_begin 108 = .ok (.aload_n 0, 1) := by decide +kernel
theorem d6_begin_109 : decode b6_begin 109 = .ok (.getfield 29, 3) := by decide +kernel
theorem d6_begin_112 : decode b6_begin 112 = .ok (.iload_n 2, 1) := by decide +kernel
theorem d6_begin_113 : decode b6_begin 113 = .ok (.aaload, 1) := by decide +kernel
theorem d6_begin_114 : decode b6_begin 114 = .ok (.getfield 139, 3) := by decide +kernel
theorem d6_begin_117 : decode b6_begin 117 = .ok (.invokevirtual 142, 3) := by decide +kernel
theorem d6_begin_120 : decode b6_begin 120 = .ok (.goto 4, 3) := by decide +kernel
theorem d6_begin_123 : decode b6_begin 123 = .ok (.iload_n 2, 1) := by decide +kernel
theorem d6_begin_124 : decode b6_begin 124 = .ok (.istore_n 3, 1) := by decide +kernel
theorem d6_begin_125 : decode b6_begin 125 = .ok (.iload_n 3, 1) := by decide +kernel
theorem d6_begin_126 : decode b6_begin 126 = .ok (.iconst (-1), 1) := by decide +kernel
theorem d6_begin_127 : decode b6_begin 127 = .ok (.if_icmp .ne 6, 3) := by decide +kernel
theorem d6_begin_130 : decode b6_begin 130 = .ok (.bipush (-7), 2) := by decide +kernel
theorem d6_begin_132 : decode b6_begin 132 = .ok (.ireturn, 1) := by decide +kernel
theorem d6_begin_133 : decode b6_begin 133 = .ok (.aload_n 0, 1) := by decide +kernel
theorem d6_begin_134 : decode b6_begin 134 = .ok (.getfield 43, 3) := by decide +kernel
theorem d6_begin_137 : decode b6_begin 137 = .ok (.getfield 146, 3) := by decide +kernel
theorem d6_begin_140 : decode b6_begin 140 = .ok (.sipush 290, 3) := by decide +kernel
theorem d6_begin_143 : decode b6_begin 143 = .ok (.if_icmp .ge 22, 3) := by decide +kernel
theorem d6_begin_146 : decode b6_begin 146 = .ok (.iload_n 1, 1) := by decide +kernel
theorem d6_begin_147 : decode b6_begin 147 = .ok (.iconst 1, 1) := by decide +kernel
theorem d6_begin_148 : decode b6_begin 148 = .ok (.if_icmp .ne 20, 3) := by decide +kernel
theorem d6_begin_151 : decode b6_begin 151 = .ok (.aload_n 0, 1) := by decide +kernel
theorem d6_begin_152 : decode b6_begin 152 = .ok (.getfield 23, 3) := by decide +kernel
theorem d6_begin_155 : decode b6_begin 155 = .ok (.iload_n 3, 1) := by decide +kernel
theorem d6_begin_156 : decode b6_begin 156 = .ok (.aaload, 1) := by decide +kernel
theorem d6_begin_157 : decode b6_begin 157 = .ok (.getfield 149, 3) := by decide +kernel
theorem d6_begin_160 : decode b6_begin 160 = .ok (.bipush 6, 2) := by decide +kernel
theorem d6_begin_162 : decode b6_begin 162 = .ok (.if_icmp .lt 6, 3) := by decide +kernel
theorem d6_begin_165 : decode b6_begin 165 = .ok (.bipush (-8), 2) := by decide +kernel
theorem d6_begin_167 : decode b6_begin 167 = .ok (.ireturn, 1) := by decide +kernel
theorem d6_begin_168 : decode b6_begin 168 = .ok (.aload_n 0, 1) := by decide +kernel
theorem d6_begin_169 : decode b6_begin 169 = .ok (.getfield 36, 3) := by decide +kernel
theorem d6_begin_172 : decode b6_begin 172 = .ok (.iload_n 1, 1) := by decide +kernel
theorem d6_begin_173 : decode b6_begin 173 = .ok (.iload_n 3, 1) := by decide +kernel
theorem d6_begin_174 : decode b6_begin 174 = .ok (.iload_n 1, 1) := by decide +kernel
theorem d6_begin_175 : decode b6_begin 175 = .ok (.ifCond .ne 7, 3) := by decide +kernel
theorem d6_begin_178 : decode b6_begin 178 = .ok (.iload_n 2, 1) := by decide +kernel
theorem d6_begin_179 : decode b6_begin 179 = .ok (.goto 4, 3) := by decide +kernel
theorem d6_begin_182 : decode b6_begin 182 = .ok (.iconst (-1), 1) := by decide +kernel
theorem d6_begin_183 : decode b6_begin 183 = .ok (.aload_n 0, 1) := by decide +kernel
theorem d6_begin_184 : decode b6_begin 184 = .ok (.getfield 54, 3) := by decide +kernel
theorem d6_begin_187 : decode b6_begin 187 = .ok (.invokevirtual 152, 3) := by decide +kernel
theorem d6_begin_190 : decode b6_begin 190 = .ok (.aload_n 0, 1) := by decide +kernel
theorem d6_begin_191 : decode b6_begin 191 = .ok (.getfield 36, 3) := by decide +kernel
theorem d6_begin_194 : decode b6_begin 194 = .ok (.iload_n 1, 1) := by decide +kernel
theorem d6_begin_195 : decode b6_begin 195 = .ok (.iconst 2, 1) := by decide +kernel
theorem d6_begin_196 : decode b6_begin 196 = .ok (.if_icmp .eq 24, 3) := by decide +kernel
theorem d6_begin_199 : decode b6_begin 199 = .ok (.iload_n 1, 1) := by decide +kernel
theorem d6_begin_200 : decode b6_begin 200 = .ok (.iconst 1, 1) := by decide +kernel
theorem d6_begin_201 : decode b6_begin 201 = .ok (.if_icmp .eq 23, 3) := by decide +kernel
theorem d6_begin_204 : decode b6_begin 204 = .ok (.aload_n 0, 1) := by decide +kernel
theorem d6_begin_205 : decode b6_begin 205 = .ok (.aload_n 0, 1) := by decide +kernel
theorem d6_begin_206 : decode b6_begin 206 = .ok (.getfield 23, 3) := by decide +kernel
theorem d6_begin_209 : decode b6_begin 209 = .ok (.iload_n 3, 1) := by decide +kernel
theorem d6_begin_210 : decode b6_begin 210 = .ok (.aaload, 1) := by decide +kernel
theorem d6_begin_211 : decode b6_begin 211 = .ok (.getfield 155, 3) := by decide +kernel
theorem d6_begin_214 : decode b6_begin 214 = .ok (.invokevirtual 156, 3) := by decide +kernel
theorem d6_begin_217 : decode b6_begin 217 = .ok (.ifCond .eq 7, 3) := by decide +kernel
theorem d6_begin_220 : decode b6_begin 220 = .ok (.iconst 1, 1) := by decide +kernel
theorem d6_begin_221 : decode b6_begin 221 = .ok (.goto 4, 3) := by decide +kernel
theorem d6_begin_224 : decode b6_begin 224 = .ok (.iconst 0, 1) := by decide +kernel
theorem d6_begin_225 : decode b6_begin 225 = .ok (.putfield 159, 3) := by decide +kernel
theorem d6_begin_228 : decode b6_begin 228 = .ok (.aload_n 0, 1) := by decide +kernel
theorem d6_begin_229 : decode b6_begin 229 = .ok (.invokevirtual 98, 3) := by decide +kernel
theorem d6_begin_232 : decode b6_begin 232 = .ok (.iload_n 3, 1) := by decide +kernel
theorem d6_begin_233 : decode b6_begin 233 = .ok (.ireturn, 1) := by decide +kernel
theorem d6_count_0 : decode b6_count 0 = .ok (.iload_n 1, 1) := by decide +kernel
theorem d6_count_1 : decode b6_count 1 = .ok (.ifCond .lt 10, 3) := by decide +kernel
theorem d6_count_4 : decode b6_count 4 = .ok (.iload_n 1, 1) := by decide +kernel
theorem d6_count_5 : decode b6_count 5 = .ok (.sipush 10000, 3) := by decide +kernel
theorem d6_count_8 : decode b6_count 8 = .ok (.if_icmp .le 5, 3) := by decide +kernel
theorem d6_count_11 : decode b6_count 11 = .ok (.iconst (-1), 1) := by decide +kernel
theorem d6_count_12 : decode b6_count 12 = .ok (.ireturn, 1) := by decide +kernel
theorem d6_count_13 : decode b6_count 13 = .ok (.aload_n 0, 1) := by decide +kernel
theorem d6_count_14 : decode b6_count 14 = .ok (.getfield 58, 3) := by decide +kernel
theorem d6_count_17 : decode b6_count 17 = .ok (.iconst (-1), 1) := by decide +kernel
theorem d6_count_18 : decode b6_count 18 = .ok (.if_icmp .ne 6, 3) := by decide +kernel
theorem d6_count_21 : decode b6_count 21 = .ok (.bipush (-2), 2) := by decide +kernel
theorem d6_count_23 : decode b6_count 23 = .ok (.ireturn, 1) := by decide +kernel
theorem d6_count_24 : decode b6_count 24 = .ok (.aload_n 0, 1) := by decide +kernel
theorem d6_count_25 : decode b6_count 25 = .ok (.getfield 36, 3) := by decide +kernel
theorem d6_count_28 : decode b6_count 28 = .ok (.invokevirtual 162, 3) := by decide +kernel
theorem d6_count_31 : decode b6_count 31 = .ok (.ifCond .ne 6, 3) := by decide +kernel
theorem d6_count_34 : decode b6_count 34 = .ok (.bipush (-4), 2) := by decide +kernel
theorem d6_count_36 : decode b6_count 36 = .ok (.ireturn, 1) := by decide +kernel
theorem d6_count_37 : decode b6_count 37 = .ok (.aload_n 0, 1) := by decide +kernel
theorem d6_count_38 : decode b6_count 38 = .ok (.getfield 43, 3) := by decide +kernel
theorem d6_count_41 : decode b6_count 41 = .ok (.getfield 146, 3) := by decide +kernel
theorem d6_count_44 : decode b6_count 44 = .ok (.sipush 300, 3) := by decide +kernel
theorem d6_count_47 : decode b6_count 47 = .ok (.if_icmp .lt 6, 3) := by decide +kernel
theorem d6_count_50 : decode b6_count 50 = .ok (.bipush (-8), 2) := by decide +kernel
theorem d6_count_52 : decode b6_count 52 = .ok (.ireturn, 1) := by decide +kernel
theorem d6_count_53 : decode b6_count 53 = .ok (.aload_n 0, 1) := by decide +kernel
theorem d6_count_54 : decode b6_count 54 = .ok (.getfield 23, 3) := by decide +kernel
theorem d6_count_57 : decode b6_count 57 = .ok (.aload_n 0, 1) := by decide +kernel
theorem d6_count_58 : decode b6_count 58 = .ok (.getfield 36, 3) := by decide +kernel
theorem d6_count_61 : decode b6_count 61 = .ok (.getfield 165, 3) := by decide +kernel
theorem d6_count_64 : decode b6_count 64 = .ok (.aaload, 1) := by decide +kernel
theorem d6_count_65 : decode b6_count 65 = .ok (.astore_n 2, 1) := by decide +kernel
theorem d6_count_66 : decode b6_count 66 = .ok (.aload_n 2, 1) := by decide +kernel
theorem d6_count_67 : decode b6_count 67 = .ok (.iload_n 1, 1) := by decide +kernel
theorem d6_count_68 : decode b6_count 68 = .ok (.aload_n 0, 1) := by decide +kernel
theorem d6_count_69 : decode b6_count 69 = .ok (.getfield 54, 3) := by decide +kernel
theorem d6_count_72 : decode b6_count 72 = .ok (.invokevirtual 168, 3) := by decide +kernel
theorem d6_count_75 : decode b6_count 75 = .ok (.aload_n 0, 1) := by decide +kernel
theorem d6_count_76 : decode b6_count 76 = .ok (.getfield 36, 3) := by decide +kernel
theorem d6_count_79 : decode b6_count 79 = .ok (.iconst 1, 1) := by decide +kernel
theorem d6_count_80 : decode b6_count 80 = .ok (.putfield 171, 3) := by decide +kernel
theorem d6_count_83 : decode b6_count 83 = .ok (.aload_n 0, 1) := by decide +kernel
theorem d6_count_84 : decode b6_count 84 = .ok (.getfield 36, 3) := by decide +kernel
theorem d6_count_87 : decode b6_count 87 = .ok (.iconst 0, 1) := by decide +kernel
theorem d6_count_88 : decode b6_count 88 = .ok (.putfield 159, 3) := by decide +kernel
theorem d6_count_91 : decode b6_count 91 = .ok (.aload_n 0, 1) := by decide +kernel
theorem d6_count_92 : decode b6_count 92 = .ok (.getfield 43, 3) := by decide +kernel
theorem d6_count_95 : decode b6_count 95 = .ok (.iconst 3, 1) := by decide +kernel
theorem d6_count_96 : decode b6_count 96 = .ok (.aload_n 0, 1) := by decide +kernel
theorem d6_count_97 : decode b6_count 97 = .ok (.getfield 54, 3) := by decide +kernel
theorem d6_count_100 : decode b6_count 100 = .ok (.aload_n 0, 1) := by decide +kernel
theorem d6_count_101 : decode b6_count 101 = .ok (.getfield 58, 3) := by decide +kernel
theorem d6_count_104 : decode b6_count 104 = .ok (.aload_n 0, 1) := by decide +kernel
theorem d6_count_105 : decode b6_count 105 = .ok (.getfield 36, 3) := by decide +kernel
theorem d6_count_108 : decode b6_count 108 = .ok (.getfield 165, 3) := by decide +kernel
theorem d6_count_111 : decode b6_count 111 = .ok (.aload_n 2, 1) := by decide +kernel
theorem d6_count_112 : decode b6_count 112 = .ok (.getfield 174, 3) := by decide +kernel
theorem d6_count_115 : decode b6_count 115 = .ok (.aload_n 0, 1) := by decide +kernel
theorem d6_count_116 : decode b6_count 116 = .ok (.getfield 36, 3) := by decide +kernel
theorem d6_count_119 : decode b6_count 119 = .ok (.getfield 114, 3) := by decide +kernel
theorem d6_count_122 : decode b6_count 122 = .ok (.invokevirtual 177, 3) := by decide +kernel
theorem d6_count_125 : decode b6_count 125 = .ok (.aload_n 0, 1) := by decide +kernel
theorem d6_count_126 : decode b6_count 126 = .ok (.invokevirtual 98, 3) := by decide +kernel
theorem d6_count_129 : decode b6_count 129 = .ok (.aload_n 2, 1) := by decide +kernel
theorem d6_count_130 : decode b6_count 130 = .ok (.getfield 174, 3) := by decide +kernel
theorem d6_count_133 : decode b6_count 133 = .ok (.ireturn, 1) := by decide +kernel
theorem d6_amount_0 : decode b6_amount 0 = .ok (.aload_n 0, 1) := by decide +kernel
theorem d6_amount_1 : decode b6_amount 1 = .ok (.iload_n 1, 1) := by decide +kernel
theorem d6_amount_2 : decode b6_amount 2 = .ok (.iload_n 2, 1) := by decide +kernel
theorem d6_amount_3 : decode b6_amount 3 = .ok (.iload_n 3, 1) := by decide +kernel
theorem d6_amount_4 : decode b6_amount 4 = .ok (.invokevirtual 181, 3) := by decide +kernel
theorem d6_amount_7 : decode b6_amount 7 = .ok (.ifCond .ne 5, 3) := by decide +kernel
theorem d6_amount_10 : decode b6_amount 10 = .ok (.iconst (-1), 1) := by decide +kernel
theorem d6_amount_11 : decode b6_amount 11 = .ok (.ireturn, 1) := by decide +kernel
theorem d6_amount_12 : decode b6_amount 12 = .ok (.aload_n 0, 1) := by decide +kernel
theorem d6_amount_13 : decode b6_amount 13 = .ok (.getfield 58, 3) := by decide +kernel
theorem d6_amount_16 : decode b6_amount 16 = .ok (.iconst (-1), 1) := by decide +kernel
theorem d6_amount_17 : decode b6_amount 17 = .ok (.if_icmp .ne 6, 3) := by decide +kernel
theorem d6_amount_20 : decode b6_amount 20 = .ok (.bipush (-2), 2) := by decide +kernel
theorem d6_amount_22 : decode b6_amount 22 = .ok (.ireturn, 1) := by decide +kernel
theorem d6_amount_23 : decode b6_amount 23 = .ok (.aload_n 0, 1) := by decide +kernel
theorem d6_amount_24 : decode b6_amount 24 = .ok (.getfield 36, 3) := by decide +kernel
theorem d6_amount_27 : decode b6_amount 27 = .ok (.invokevirtual 185, 3) := by decide +kernel
theorem d6_amount_30 : decode b6_amount 30 = .ok (.ifCond .ne 6, 3) := by decide +kernel
theorem d6_amount_33 : decode b6_amount 33 = .ok (.bipush (-4), 2) := by decide +kernel
theorem d6_amount_35 : decode b6_amount 35 = .ok (.ireturn, 1) := by decide +kernel
theorem d6_amount_36 : decode b6_amount 36 = .ok (.aload_n 0, 1) := by decide +kernel
theorem d6_amount_37 : decode b6_amount 37 = .ok (.getfield 36, 3) := by decide +kernel
theorem d6_amount_40 : decode b6_amount 40 = .ok (.getfield 188, 3) := by decide +kernel
theorem d6_amount_43 : decode b6_amount 43 = .ok (.ifCond .ne 25, 3) := by decide +kernel
theorem d6_amount_46 : decode b6_amount 46 = .ok (.iload_n 1, 1) := by decide +kernel
theorem d6_amount_47 : decode b6_amount 47 = .ok (.aload_n 0, 1) := by decide +kernel
theorem d6_amount_48 : decode b6_amount 48 = .ok (.getfield 29, 3) := by decide +kernel
theorem d6_amount_51 : decode b6_amount 51 = .ok (.aload_n 0, 1) := by decide +kernel
theorem d6_amount_52 : decode b6_amount 52 = .ok (.getfield 36, 3) := by decide +kernel
theorem d6_amount_55 : decode b6_amount 55 = .ok (.getfield 114, 3) := by decide +kernel
theorem d6_amount_58 : decode b6_amount 58 = .ok (.aaload, 1) := by decide +kernel
theorem d6_amount_59 : decode b6_amount 59 = .ok (.getfield 123, 3) := by decide +kernel
theorem d6_amount_62 : decode b6_amount 62 = .ok (.if_icmp .le 6, 3) := by decide +kernel
theorem d6_amount_65 : decode b6_amount 65 = .ok (.bipush (-6), 2) := by decide +kernel
theorem d6_amount_67 : decode b6_amount 67 = .ok (.ireturn, 1) := by decide +kernel
theorem d6_amount_68 : decode b6_amount 68 = .ok (.aload_n 0, 1) := by decide +kernel
theorem d6_amount_69 : decode b6_amount 69 = .ok (.getfield 23, 3) := by decide +kernel
theorem d6_amount_72 : decode b6_amount 72 = .ok (.aload_n 0, 1) := by decide +kernel
theorem d6_amount_73 : decode b6_amount 73 = .ok (.getfield 36, 3) := by decide +kernel
theorem d6_amount_76 : decode b6_amount 76 = .ok (.getfield 165, 3) := by decide +kernel
theorem d6_amount_79 : decode b6_amount 79 = .ok (.aaload, 1) := by decide +kernel
theorem d6_amount_80 : decode b6_amount 80 = .ok (.astore 4, 2) := by decide +kernel
theorem d6_amount_82 : decode b6_amount 82 = .ok (.aload_n 0, 1) := by decide +kernel
theorem d6_amount_83 : decode b6_amount 83 = .ok (.getfield 36, 3) := by decide +kernel
theorem d6_amount_86 : decode b6_amount 86 = .ok (.getfield 188, 3) := by decide +kernel
theorem d6_amount_89 : decode b6_amount 89 = .ok (.ifCond .ne 16, 3) := by decide +kernel
theorem d6_amount_92 : decode b6_amount 92 = .ok (.iload_n 1, 1) := by decide +kernel
theorem d6_amount_93 : decode b6_amount 93 = .ok (.aload 4, 2) := by decide +kernel
theorem d6_amount_95 : decode b6_amount 95 = .ok (.aload_n 0, 1) := by decide +kernel
theorem d6_amount_96 : decode b6_amount 96 = .ok (.getfield 54, 3) := by decide +kernel
theorem d6_amount_99 : decode b6_amount 99 = .ok (.invokevirtual 191, 3) := by decide +kernel
theorem d6_amount_102 : decode b6_amount 102 = .ok (.if_icmp .gt 23, 3) := by decide +kernel
theorem d6_amount_105 : decode b6_amount 105 = .ok (.aload_n 0, 1) := by decide +kernel
theorem d6_amount_106 : decode b6_amount 106 = .ok (.getfield 36, 3) := by decide +kernel
theorem d6_amount_109 : decode b6_amount 109 = .ok (.getfield 188, 3) := by decide +kernel
theorem d6_amount_112 : decode b6_amount 112 = .ok (.iconst 3, 1) := by decide +kernel
theorem d6_amount_113 : decode b6_amount 113 = .ok (.if_icmp .ne 23, 3) := by decide +kernel
theorem d6_amount_116 : decode b6_amount 116 = .ok (.iload_n 1, 1) := by decide +kernel
theorem d6_amount_117 : decode b6_amount 117 = .ok (.aload 4, 2) := by decide +kernel
theorem d6_amount_119 : decode b6_amount 119 = .ok (.invokevirtual 194, 3) := by decide +kernel
theorem d6_amount_122 : decode b6_amount 122 = .ok (.if_icmp .le 14, 3) := by decide +kernel
theorem d6_amount_125 : decode b6_amount 125 = .ok (.aload_n 0, 1) := by decide +kernel
theorem d6_amount_126 : decode b6_amount 126 = .ok (.getfield 36, 3) := by decide +kernel
theorem d6_amount_129 : decode b6_amount 129 = .ok (.iconst 1, 1) := by decide +kernel
theorem d6_amount_130 : decode b6_amount 130 = .ok (.putfield 159, 3) := by decide +kernel
theorem d6_amount_133 : decode b6_amount 133 = .ok (.bipush (-7), 2) := by decide +kernel
theorem d6_amount_135 : decode b6_amount 135 = .ok (.ireturn, 1) := by decide +kernel
theorem d6_amount_136 : decode b6_amount 136 = .ok (.aload_n 0, 1) := by decide +kernel
theorem d6_amount_137 : decode b6_amount 137 = .ok (.getfield 43, 3) := by decide +kernel
theorem d6_amount_140 : decode b6_amount 140 = .ok (.getfield 146, 3) := by decide +kernel
theorem d6_amount_143 : decode b6_amount 143 = .ok (.sipush 300, 3) := by decide +kernel
theorem d6_amount_146 : decode b6_amount 146 = .ok (.if_icmp .lt 6, 3) := by decide +kernel
theorem d6_amount_149 : decode b6_amount 149 = .ok (.bipush (-8), 2) := by decide +kernel
theorem d6_amount_151 : decode b6_amount 151 = .ok (.ireturn, 1) := by decide +kernel
theorem d6_amount_152 : decode b6_amount 152 = .ok (.aload_n 0, 1) := by decide +kernel
theorem d6_amount_153 : decode b6_amount 153 = .ok (.getfield 36, 3) := by decide +kernel
theorem d6_amount_156 : decode b6_amount 156 = .ok (.getfield 188, 3) := by decide +kernel
theorem d6_amount_159 : decode b6_amount 159 = .ok (.iconst 1, 1) := by decide +kernel
theorem d6_amount_160 : decode b6_amount 160 = .ok (.if_icmp .ne 15, 3) := by decide +kernel
theorem d6_amount_163 : decode b6_amount 163 = .ok (.aload_n 0, 1) := by decide +kernel
theorem d6_amount_164 : decode b6_amount 164 = .ok (.aload 4, 2) := by decide +kernel
theorem d6_amount_166 : decode b6_amount 166 = .ok (.iload_n 1, 1) := by decide +kernel
theorem d6_amount_167 : decode b6_amount 167 = .ok (.iload_n 2, 1) := by decide +kernel
theorem d6_amount_168 : decode b6_amount 168 = .ok (.iload_n 3, 1) := by decide +kernel
theorem d6_amount_169 : decode b6_amount 169 = .ok (.invokevirtual 198, 3) := by decide +kernel
theorem d6_amount_172 : decode b6_amount 172 = .ok (.goto 30, 3) := by decide +kernel
theorem d6_amount_175 : decode b6_amount 175 = .ok (.aload_n 0, 1) := by decide +kernel
theorem d6_amount_176 : decode b6_amount 176 = .ok (.getfield 36, 3) := by decide +kernel
theorem d6_amount_179 : decode b6_amount 179 = .ok (.getfield 188, 3) := by decide +kernel
theorem d6_amount_182 : decode b6_amount 182 = .ok (.ifCond .ne 13, 3) := by decide +kernel
theorem d6_amount_185 : decode b6_amount 185 = .ok (.aload_n 0, 1) := by decide +kernel
theorem d6_amount_186 : decode b6_amount 186 = .ok (.aload 4, 2) := by decide +kernel
theorem d6_amount_188 : decode b6_amount 188 = .ok (.iload_n 1, 1) := by decide +kernel
theorem d6_amount_189 : decode b6_amount 189 = .ok (.invokevirtual 202, 3) := by decide +kernel
theorem d6_amount_192 : decode b6_amount 192 = .ok (.goto 10, 3) := by decide +kernel
theorem d6_amount_195 : decode b6_amount 195 = .ok (.aload_n 0, 1) := by decide +kernel
theorem d6_amount_196 : decode b6_amount 196 = .ok (.aload 4, 2) := by decide +kernel
theorem d6_amount_198 : decode b6_amount 198 = .ok (.iload_n 1, 1) := by decide +kernel
theorem d6_amount_199 : decode b6_amount 199 = .ok (.invokevirtual 206, 3) := by decide +kernel
theorem d6_amount_202 : decode b6_amount 202 = .ok (.aload_n 0, 1) := by decide +kernel
theorem d6_amount_203 : decode b6_amount 203 = .ok (.getfield 36, 3) := by decide +kernel
theorem d6_amount_206 : decode b6_amount 206 = .ok (.iconst 1, 1) := by decide +kernel
theorem d6_amount_207 : decode b6_amount 207 = .ok (.putfield 209, 3) := by decide +kernel
theorem d6_amount_210 : decode b6_amount 210 = .ok (.aload_n 0, 1) := by decide +kernel
theorem d6_amount_211 : decode b6_amount 211 = .ok (.invokevirtual 98, 3) := by decide +kernel
theorem d6_amount_214 : decode b6_amount 214 = .ok (.aload 4, 2) := by decide +kernel
theorem d6_amount_216 : decode b6_amount 216 = .ok (.invokevirtual 194, 3) := by decide +kernel
theorem d6_amount_219 : decode b6_amount 219 = .ok (.ireturn, 1) := by decide +kernel
theorem d6_shut_0 : decode b6_shut 0 = .ok (.aload_n 0, 1) := by decide +kernel
theorem d6_shut_1 : decode b6_shut 1 = .ok (.getfield 36, 3) := by decide +kernel
theorem d6_shut_4 : decode b6_shut 4 = .ok (.invokevirtual 87, 3) := by decide +kernel
theorem d6_shut_7 : decode b6_shut 7 = .ok (.ifCond .eq 24, 3) := by decide +kernel
theorem d6_shut_10 : decode b6_shut 10 = .ok (.aload_n 0, 1) := by decide +kernel
theorem d6_shut_11 : decode b6_shut 11 = .ok (.getfield 36, 3) := by decide +kernel
theorem d6_shut_14 : decode b6_shut 14 = .ok (.getfield 188, 3) := by decide +kernel
theorem d6_shut_17 : decode b6_shut 17 = .ok (.iconst 2, 1) := by decide +kernel
theorem d6_shut_18 : decode b6_shut 18 = .ok (.if_icmp .ne 16, 3) := by decide +kernel
theorem d6_shut_21 : decode b6_shut 21 = .ok (.aload_n 0, 1) := by decide +kernel
theorem d6_shut_22 : decode b6_shut 22 = .ok (.getfield 36, 3) := by decide +kernel
theorem d6_shut_25 : decode b6_shut 25 = .ok (.getfield 171, 3) := by decide +kernel
theorem d6_shut_28 : decode b6_shut 28 = .ok (.ifCond .ne 6, 3) := by decide +kernel
theorem d6_shut_31 : decode b6_shut 31 = .ok (.bipush (-4), 2) := by decide +kernel
theorem d6_shut_33 : decode b6_shut 33 = .ok (.ireturn, 1) := by decide +kernel
theorem d6_shut_34 : decode b6_shut 34 = .ok (.aload_n 0, 1) := by decide +kernel
theorem d6_shut_35 : decode b6_shut 35 = .ok (.getfield 54, 3) := by decide +kernel
theorem d6_shut_38 : decode b6_shut 38 = .ok (.aload_n 0, 1) := by decide +kernel
theorem d6_shut_39 : decode b6_shut 39 = .ok (.getfield 36, 3) := by decide +kernel
theorem d6_shut_42 : decode b6_shut 42 = .ok (.getfield 212, 3) := by decide +kernel
theorem d6_shut_45 : decode b6_shut 45 = .ok (.isub, 1) := by decide +kernel
theorem d6_shut_46 : decode b6_shut 46 = .ok (.istore_n 1, 1) := by decide +kernel
theorem d6_shut_47 : decode b6_shut 47 = .ok (.aload_n 0, 1) := by decide +kernel
theorem d6_shut_48 : decode b6_shut 48 = .ok (.getfield 36, 3) := by decide +kernel
theorem d6_shut_51 : decode b6_shut 51 = .ok (.invokevirtual 215, 3) := by decide +kernel
theorem d6_shut_54 : decode b6_shut 54 = .ok (.aload_n 0, 1) := by decide +kernel
theorem d6_shut_55 : decode b6_shut 55 = .ok (.invokevirtual 98, 3) := by decide +kernel
theorem d6_shut_58 : decode b6_shut 58 = .ok (.iload_n 1, 1) := by decide +kernel
theorem d6_shut_59 : decode b6_shut 59 = .ok (.ireturn, 1) := by decide +kernel
theorem d6_giveBack_0 : decode b6_giveBack 0 = .ok (.aload_n 0, 1) := by decide +kernel
theorem d6_giveBack_1 : decode b6_giveBack 1 = .ok (.iload_n 1, 1) := by decide +kernel
theorem d6_giveBack_2 : decode b6_giveBack 2 = .ok (.invokevirtual 101, 3) := by decide +kernel
theorem d6_giveBack_5 : decode b6_giveBack 5 = .ok (.ifCond .eq 15, 3) := by decide +kernel
theorem d6_giveBack_8 : decode b6_giveBack 8 = .ok (.iload_n 2, 1) := by decide +kernel
theorem d6_giveBack_9 : decode b6_giveBack 9 = .ok (.iconst 1, 1) := by decide +kernel
theorem d6_giveBack_10 : decode b6_giveBack 10 = .ok (.if_icmp .lt 10, 3) := by decide +kernel
theorem d6_giveBack_13 : decode b6_giveBack 13 = .ok (.iload_n 2, 1) := by decide +kernel
theorem d6_giveBack_14 : decode b6_giveBack 14 = .ok (.sipush 1000, 3) := by decide +kernel
theorem d6_giveBack_17 : decode b6_giveBack 17 = .ok (.if_icmp .le 5, 3) := by decide +kernel
theorem d6_giveBack_20 : decode b6_giveBack 20 = .ok (.iconst (-1), 1) := by decide +kernel
theorem d6_giveBack_21 : decode b6_giveBack 21 = .ok (.ireturn, 1) := by decide +kernel
theorem d6_giveBack_22 : decode b6_giveBack 22 = .ok (.aload_n 0, 1) := by decide +kernel
theorem d6_giveBack_23 : decode b6_giveBack 23 = .ok (.aload_n 0, 1) := by decide +kernel
theorem d6_giveBack_24 : decode b6_giveBack 24 = .ok (.iload_n 1, 1) := by decide +kernel
theorem d6_giveBack_25 : decode b6_giveBack 25 = .ok (.invokevirtual 156, 3) := by decide +kernel
theorem d6_giveBack_28 : decode b6_giveBack 28 = .ok (.invokevirtual 218, 3) := by decide +kernel
theorem d6_giveBack_31 : decode b6_giveBack 31 = .ok (.istore_n 3, 1) := by decide +kernel
theorem d6_giveBack_32 : decode b6_giveBack 32 = .ok (.iload_n 3, 1) := by decide +kernel
theorem d6_giveBack_33 : decode b6_giveBack 33 = .ok (.ifCond .eq 5, 3) := by decide +kernel
theorem d6_giveBack_36 : decode b6_giveBack 36 = .ok (.iload_n 3, 1) := by decide +kernel
theorem d6_giveBack_37 : decode b6_giveBack 37 = .ok (.ireturn, 1) := by decide +kernel
theorem d6_giveBack_38 : decode b6_giveBack 38 = .ok (.aload_n 0, 1) := by decide +kernel
theorem d6_giveBack_39 : decode b6_giveBack 39 = .ok (.getfield 17, 3) := by decide +kernel
theorem d6_giveBack_42 : decode b6_giveBack 42 = .ok (.iload_n 1, 1) := by decide +kernel
theorem d6_giveBack_43 : decode b6_giveBack 43 = .ok (.aaload, 1) := by decide +kernel
theorem d6_giveBack_44 : decode b6_giveBack 44 = .ok (.dup, 1) := by decide +kernel
theorem d6_giveBack_45 : decode b6_giveBack 45 = .ok (.getfield 222, 3) := by decide +kernel
theorem d6_giveBack_48 : decode b6_giveBack 48 = .ok (.iload_n 2, 1) := by decide +kernel
theorem d6_giveBack_49 : decode b6_giveBack 49 = .ok (.iadd, 1) := by decide +kernel
theorem d6_giveBack_50 : decode b6_giveBack 50 = .ok (.putfield 222, 3) := by decide +kernel
theorem d6_giveBack_53 : decode b6_giveBack 53 = .ok (.aload_n 0, 1) := by decide +kernel
theorem d6_giveBack_54 : decode b6_giveBack 54 = .ok (.getfield 43, 3) := by decide +kernel
theorem d6_giveBack_57 : decode b6_giveBack 57 = .ok (.iconst 5, 1) := by decide +kernel
theorem d6_giveBack_58 : decode b6_giveBack 58 = .ok (.aload_n 0, 1) := by decide +kernel
theorem d6_giveBack_59 : decode b6_giveBack 59 = .ok (.getfield 54, 3) := by decide +kernel
theorem d6_giveBack_62 : decode b6_giveBack 62 = .ok (.aload_n 0, 1) := by decide +kernel
theorem d6_giveBack_63 : decode b6_giveBack 63 = .ok (.getfield 58, 3) := by decide +kernel
theorem d6_giveBack_66 : decode b6_giveBack 66 = .ok (.iconst (-1), 1) := by decide +kernel
theorem d6_giveBack_67 : decode b6_giveBack 67 = .ok (.iload_n 1, 1) := by decide +kernel
theorem d6_giveBack_68 : decode b6_giveBack 68 = .ok (.isub, 1) := by decide +kernel
theorem d6_giveBack_69 : decode b6_giveBack 69 = .ok (.iload_n 2, 1) := by decide +kernel
theorem d6_giveBack_70 : decode b6_giveBack 70 = .ok (.iconst (-1), 1) := by decide +kernel
theorem d6_giveBack_71 : decode b6_giveBack 71 = .ok (.invokevirtual 177, 3) := by decide +kernel
theorem d6_giveBack_74 : decode b6_giveBack 74 = .ok (.aload_n 0, 1) := by decide +kernel
theorem d6_giveBack_75 : decode b6_giveBack 75 = .ok (.invokevirtual 98, 3) := by decide +kernel
theorem d6_giveBack_78 : decode b6_giveBack 78 = .ok (.aload_n 0, 1) := by decide +kernel
theorem d6_giveBack_79 : decode b6_giveBack 79 = .ok (.getfield 17, 3) := by decide +kernel
theorem d6_giveBack_82 : decode b6_giveBack 82 = .ok (.iload_n 1, 1) := by decide +kernel
theorem d6_giveBack_83 : decode b6_giveBack 83 = .ok (.aaload, 1) := by decide +kernel
theorem d6_giveBack_84 : decode b6_giveBack 84 = .ok (.getfield 222, 3) := by decide +kernel
theorem d6_giveBack_87 : decode b6_giveBack 87 = .ok (.ireturn, 1) := by decide +kernel
theorem d6_reconcile_0 : decode b6_reconcile 0 = .ok (.aload_n 0, 1) := by decide +kernel
theorem d6_reconcile_1 : decode b6_reconcile 1 = .ok (.iconst 1, 1) := by decide +kernel
theorem d6_reconcile_2 : decode b6_reconcile 2 = .ok (.invokevirtual 218, 3) := by decide +kernel
theorem d6_reconcile_5 : decode b6_reconcile 5 = .ok (.istore_n 1, 1) := by decide +kernel
theorem d6_reconcile_6 : decode b6_reconcile 6 = .ok (.iload_n 1, 1) := by decide +kernel
theorem d6_reconcile_7 : decode b6_reconcile 7 = .ok (.ifCond .eq 5, 3) := by decide +kernel
theorem d6_reconcile_10 : decode b6_reconcile 10 = .ok (.iload_n 1, 1) := by decide +kernel
theorem d6_reconcile_11 : decode b6_reconcile 11 = .ok (.ireturn, 1) := by decide +kernel
theorem d6_reconcile_12 : decode b6_reconcile 12 = .ok (.aload_n 0, 1) := by decide +kernel
theorem d6_reconcile_13 : decode b6_reconcile 13 = .ok (.iconst 0, 1) := by decide +kernel
theorem d6_reconcile_14 : decode b6_reconcile 14 = .ok (.putfield 73, 3) := by decide +kernel
theorem d6_reconcile_17 : decode b6_reconcile 17 = .ok (.iconst 0, 1) := by decide +kernel
theorem d6_reconcile_18 : decode b6_reconcile 18 = .ok (.istore_n 2, 1) := by decide +kernel
theorem d6_reconcile_19 : decode b6_reconcile 19 = .ok (.iload_n 2, 1) := by decide +kernel
theorem d6_reconcile_20 : decode b6_reconcile 20 = .ok (.bipush 64, 2) := by decide +kernel
theorem d6_reconcile_22 : decode b6_reconcile 22 = .ok (.if_icmp .ge 52, 3) := by decide +kernel
theorem d6_reconcile_25 : decode b6_reconcile 25 = .ok (.aload_n 0, 1) := by decide +kernel
theorem d6_reconcile_26 : decode b6_reconcile 26 = .ok (.aload_n 0, 1) := by decide +kernel
theorem d6_reconcile_27 : decode b6_reconcile 27 = .ok (.getfield 23, 3) := by decide +kernel
theorem d6_reconcile_30 : decode b6_reconcile 30 = .ok (.iload_n 2, 1) := by decide +kernel
theorem d6_reconcile_31 : decode b6_reconcile 31 = .ok (.aaload, 1) := by decide +kernel
theorem d6_reconcile_32 : decode b6_reconcile 32 = .ok (.invokevirtual 225, 3) := by decide +kernel
theorem d6_reconcile_35 : decode b6_reconcile 35 = .ok (.ifCond .eq 23, 3) := by decide +kernel
theorem d6_reconcile_38 : decode b6_reconcile 38 = .ok (.aload_n 0, 1) := by decide +kernel
theorem d6_reconcile_39 : decode b6_reconcile 39 = .ok (.getfield 47, 3) := by decide +kernel
theorem d6_reconcile_42 : decode b6_reconcile 42 = .ok (.aload_n 0, 1) := by decide +kernel
theorem d6_reconcile_43 : decode b6_reconcile 43 = .ok (.getfield 73, 3) := by decide +kernel
theorem d6_reconcile_46 : decode b6_reconcile 46 = .ok (.iload_n 2, 1) := by decide +kernel
theorem d6_reconcile_47 : decode b6_reconcile 47 = .ok (.iastore, 1) := by decide +kernel
theorem d6_reconcile_48 : decode b6_reconcile 48 = .ok (.aload_n 0, 1) := by decide +kernel
theorem d6_reconcile_49 : decode b6_reconcile 49 = .ok (.dup, 1) := by decide +kernel
theorem d6_reconcile_50 : decode b6_reconcile 50 = .ok (.getfield 73, 3) := by decide +kernel
theorem d6_reconcile_53 : decode b6_reconcile 53 = .ok (.iconst 1, 1) := by decide +kernel
theorem d6_reconcile_54 : decode b6_reconcile 54 = .ok (.iadd, 1) := by decide +kernel
theorem d6_reconcile_55 : decode b6_reconcile 55 = .ok (.putfield 73, 3) := by decide +kernel
theorem d6_reconcile_58 : decode b6_reconcile 58 = .ok (.aload_n 0, 1) := by decide +kernel
theorem d6_reconcile_59 : decode b6_reconcile 59 = .ok (.getfield 23, 3) := by decide +kernel
theorem d6_reconcile_62 : decode b6_reconcile 62 = .ok (.iload_n 2, 1) := by decide +kernel
theorem d6_reconcile_63 : decode b6_reconcile 63 = .ok (.aaload, 1) := by decide +kernel
theorem d6_reconcile_64 : decode b6_reconcile 64 = .ok (.iconst 0, 1) := by decide +kernel
theorem d6_reconcile_65 : decode b6_reconcile 65 = .ok (.putfield 229, 3) := by decide +kernel
theorem d6_reconcile_68 : decode b6_reconcile 68 = .ok (.iinc 2 1, 3) := by decide +kernel
theorem d6_reconcile_71 : decode b6_reconcile 71 = .ok (.goto (-52), 3) := by decide +kernel
theorem d6_reconcile_74 : decode b6_reconcile 74 = .ok (.aload_n 0, 1) := by decide +kernel
theorem d6_reconcile_75 : decode b6_reconcile 75 = .ok (.getfield 43, 3) := by decide +kernel
theorem d6_reconcile_78 : decode b6_reconcile 78 = .ok (.bipush 6, 2) := by decide +kernel
theorem d6_reconcile_80 : decode b6_reconcile 80 = .ok (.aload_n 0, 1) := by decide +kernel
theorem d6_reconcile_81 : decode b6_reconcile 81 = .ok (.getfield 54, 3) := by decide +kernel
theorem d6_reconcile_84 : decode b6_reconcile 84 = .ok (.aload_n 0, 1) := by decide +kernel
theorem d6_reconcile_85 : decode b6_reconcile 85 = .ok (.getfield 58, 3) := by decide +kernel
theorem d6_reconcile_88 : decode b6_reconcile 88 = .ok (.iconst (-1), 1) := by decide +kernel
theorem d6_reconcile_89 : decode b6_reconcile 89 = .ok (.aload_n 0, 1) := by decide +kernel
theorem d6_reconcile_90 : decode b6_reconcile 90 = .ok (.getfield 73, 3) := by decide +kernel
theorem d6_reconcile_93 : decode b6_reconcile 93 = .ok (.iconst (-1), 1) := by decide +kernel
theorem d6_reconcile_94 : decode b6_reconcile 94 = .ok (.invokevirtual 177, 3) := by decide +kernel
theorem d6_reconcile_97 : decode b6_reconcile 97 = .ok (.aload_n 0, 1) := by decide +kernel
theorem d6_reconcile_98 : decode b6_reconcile 98 = .ok (.invokevirtual 98, 3) := by decide +kernel
theorem d6_reconcile_101 : decode b6_reconcile 101 = .ok (.aload_n 0, 1) := by decide +kernel
theorem d6_reconcile_102 : decode b6_reconcile 102 = .ok (.getfield 73, 3) := by decide +kernel
theorem d6_reconcile_105 : decode b6_reconcile 105 = .ok (.ireturn, 1) := by decide +kernel
theorem d6_mismatch_0 : decode b6_mismatch 0 = .ok (.iload_n 1, 1) := by decide +kernel
theorem d6_mismatch_1 : decode b6_mismatch 1 = .ok (.ifCond .lt 20, 3) := by decide +kernel
theorem d6_mismatch_4 : decode b6_mismatch 4 = .ok (.iload_n 1, 1) := by decide +kernel
theorem d6_mismatch_5 : decode b6_mismatch 5 = .ok (.aload_n 0, 1) := by decide +kernel
theorem d6_mismatch_6 : decode b6_mismatch 6 = .ok (.getfield 73, 3) := by decide +kernel
theorem d6_mismatch_9 : decode b6_mismatch 9 = .ok (.if_icmp .ge 12, 3) := by decide +kernel
theorem d6_mismatch_12 : decode b6_mismatch 12 = .ok (.aload_n 0, 1) := by decide +kernel
theorem d6_mismatch_13 : decode b6_mismatch 13 = .ok (.getfield 47, 3) := by decide +kernel
theorem d6_mismatch_16 : decode b6_mismatch 16 = .ok (.iload_n 1, 1) := by decide +kernel
theorem d6_mismatch_17 : decode b6_mismatch 17 = .ok (.iaload, 1) := by decide +kernel
theorem d6_mismatch_18 : decode b6_mismatch 18 = .ok (.goto 4, 3) := by decide +kernel
theorem d6_mismatch_21 : decode b6_mismatch 21 = .ok (.iconst (-1), 1) := by decide +kernel
theorem d6_mismatch_22 : decode b6_mismatch 22 = .ok (.ireturn, 1) := by decide +kernel
theorem d6_bin_0 : decode b6_bin 0 = .ok (.aload_n 0, 1) := by decide +kernel
theorem d6_bin_1 : decode b6_bin 1 = .ok (.iload_n 1, 1) := by decide +kernel
theorem d6_bin_2 : decode b6_bin 2 = .ok (.invokevirtual 230, 3) := by decide +kernel
theorem d6_bin_5 : decode b6_bin 5 = .ok (.ifCond .ne 5, 3) := by decide +kernel
theorem d6_bin_8 : decode b6_bin 8 = .ok (.iconst (-1), 1) := by decide +kernel
theorem d6_bin_9 : decode b6_bin 9 = .ok (.ireturn, 1) := by decide +kernel
theorem d6_bin_10 : decode b6_bin 10 = .ok (.aload_n 0, 1) := by decide +kernel
theorem d6_bin_11 : decode b6_bin 11 = .ok (.getfield 23, 3) := by decide +kernel
theorem d6_bin_14 : decode b6_bin 14 = .ok (.iload_n 1, 1) := by decide +kernel
theorem d6_bin_15 : decode b6_bin 15 = .ok (.aaload, 1) := by decide +kernel
theorem d6_bin_16 : decode b6_bin 16 = .ok (.astore_n 3, 1) := by decide +kernel
theorem d6_bin_17 : decode b6_bin 17 = .ok (.iload_n 2, 1) := by decide +kernel
theorem d6_bin_18 : decode b6_bin 18 = .ok (.tableswitch 84 0 5 #[38, 43, 48, 57, 62, 67], 38) := by decide +kernel
theorem d6_bin_56 : decode b6_bin 56 = .ok (.aload_n 3, 1) := by decide +kernel
theorem d6_bin_57 : decode b6_bin 57 = .ok (.getfield 155, 3) := by decide +kernel
theorem d6_bin_60 : decode b6_bin 60 = .ok (.ireturn, 1) := by decide +kernel
theorem d6_bin_61 : decode b6_bin 61 = .ok (.aload_n 3, 1) := by decide +kernel
theorem d6_bin_62 : decode b6_bin 62 = .ok (.invokevirtual 194, 3) := by decide +kernel
theorem d6_bin_65 : decode b6_bin 65 = .ok (.ireturn, 1) := by decide +kernel
theorem d6_bin_66 : decode b6_bin 66 = .ok (.aload_n 3, 1) := by decide +kernel
theorem d6_bin_67 : decode b6_bin 67 = .ok (.aload_n 0, 1) := by decide +kernel
theorem d6_bin_68 : decode b6_bin 68 = .ok (.getfield 54, 3) := by decide +kernel
theorem d6_bin_71 : decode b6_bin 71 = .ok (.invokevirtual 191, 3) := by decide +kernel
theorem d6_bin_74 : decode b6_bin 74 = .ok (.ireturn, 1) := by decide +kernel
theorem d6_bin_75 : decode b6_bin 75 = .ok (.aload_n 3, 1) := by decide +kernel
theorem d6_bin_76 : decode b6_bin 76 = .ok (.getfield 174, 3) := by decide +kernel
theorem d6_bin_79 : decode b6_bin 79 = .ok (.ireturn, 1) := by decide +kernel
theorem d6_bin_80 : decode b6_bin 80 = .ok (.aload_n 3, 1) := by decide +kernel
theorem d6_bin_81 : decode b6_bin 81 = .ok (.getfield 149, 3) := by decide +kernel
theorem d6_bin_84 : decode b6_bin 84 = .ok (.ireturn, 1) := by decide +kernel
theorem d6_bin_85 : decode b6_bin 85 = .ok (.aload_n 0, 1) := by decide +kernel
theorem d6_bin_86 : decode b6_bin 86 = .ok (.getfield 36, 3) := by decide +kernel
theorem d6_bin_89 : decode b6_bin 89 = .ok (.getfield 165, 3) := by decide +kernel
theorem d6_bin_92 : decode b6_bin 92 = .ok (.iload_n 1, 1) := by decide +kernel
theorem d6_bin_93 : decode b6_bin 93 = .ok (.if_icmp .ne 7, 3) := by decide +kernel
theorem d6_bin_96 : decode b6_bin 96 = .ok (.iconst 1, 1) := by decide +kernel
theorem d6_bin_97 : decode b6_bin 97 = .ok (.goto 4, 3) := by decide +kernel
theorem d6_bin_100 : decode b6_bin 100 = .ok (.iconst 0, 1) := by decide +kernel
theorem d6_bin_101 : decode b6_bin 101 = .ok (.ireturn, 1) := by decide +kernel
theorem d6_bin_102 : decode b6_bin 102 = .ok (.iconst (-1), 1) := by decide +kernel
theorem d6_bin_103 : decode b6_bin 103 = .ok (.ireturn, 1) := by decide +kernel
theorem d6_lot_0 : decode b6_lot 0 = .ok (.aload_n 0, 1) := by decide +kernel
theorem d6_lot_1 : decode b6_lot 1 = .ok (.iload_n 1, 1) := by decide +kernel
theorem d6_lot_2 : decode b6_lot 2 = .ok (.invokevirtual 230, 3) := by decide +kernel
theorem d6_lot_5 : decode b6_lot 5 = .ok (.ifCond .eq 20, 3) := by decide +kernel
theorem d6_lot_8 : decode b6_lot 8 = .ok (.iload_n 2, 1) := by decide +kernel
theorem d6_lot_9 : decode b6_lot 9 = .ok (.ifCond .lt 16, 3) := by decide +kernel
theorem d6_lot_12 : decode b6_lot 12 = .ok (.iload_n 2, 1) := by decide +kernel
theorem d6_lot_13 : decode b6_lot 13 = .ok (.aload_n 0, 1) := by decide +kernel
theorem d6_lot_14 : decode b6_lot 14 = .ok (.getfield 23, 3) := by decide +kernel
theorem d6_lot_17 : decode b6_lot 17 = .ok (.iload_n 1, 1) := by decide +kernel
theorem d6_lot_18 : decode b6_lot 18 = .ok (.aaload, 1) := by decide +kernel
theorem d6_lot_19 : decode b6_lot 19 = .ok (.getfield 149, 3) := by decide +kernel
theorem d6_lot_22 : decode b6_lot 22 = .ok (.if_icmp .lt 5, 3) := by decide +kernel
theorem d6_lot_25 : decode b6_lot 25 = .ok (.iconst (-1), 1) := by decide +kernel
theorem d6_lot_26 : decode b6_lot 26 = .ok (.ireturn, 1) := by decide +kernel
theorem d6_lot_27 : decode b6_lot 27 = .ok (.iload_n 3, 1) := by decide +kernel
theorem d6_lot_28 : decode b6_lot 28 = .ok (.ifCond .eq 17, 3) := by decide +kernel
theorem d6_lot_31 : decode b6_lot 31 = .ok (.aload_n 0, 1) := by decide +kernel
theorem d6_lot_32 : decode b6_lot 32 = .ok (.getfield 23, 3) := by decide +kernel
theorem d6_lot_35 : decode b6_lot 35 = .ok (.iload_n 1, 1) := by decide +kernel
theorem d6_lot_36 : decode b6_lot 36 = .ok (.aaload, 1) := by decide +kernel
theorem d6_lot_37 : decode b6_lot 37 = .ok (.getfield 233, 3) := by decide +kernel
theorem d6_lot_40 : decode b6_lot 40 = .ok (.iload_n 2, 1) := by decide +kernel
theorem d6_lot_41 : decode b6_lot 41 = .ok (.iaload, 1) := by decide +kernel
theorem d6_lot_42 : decode b6_lot 42 = .ok (.goto 14, 3) := by decide +kernel
theorem d6_lot_45 : decode b6_lot 45 = .ok (.aload_n 0, 1) := by decide +kernel
theorem d6_lot_46 : decode b6_lot 46 = .ok (.getfield 23, 3) := by decide +kernel
theorem d6_lot_49 : decode b6_lot 49 = .ok (.iload_n 1, 1) := by decide +kernel
theorem d6_lot_50 : decode b6_lot 50 = .ok (.aaload, 1) := by decide +kernel
theorem d6_lot_51 : decode b6_lot 51 = .ok (.getfield 236, 3) := by decide +kernel
theorem d6_lot_54 : decode b6_lot 54 = .ok (.iload_n 2, 1) := by decide +kernel
theorem d6_lot_55 : decode b6_lot 55 = .ok (.iaload, 1) := by decide +kernel
theorem d6_lot_56 : decode b6_lot 56 = .ok (.ireturn, 1) := by decide +kernel
theorem d6_stock_0 : decode b6_stock 0 = .ok (.aload_n 0, 1) := by decide +kernel
theorem d6_stock_1 : decode b6_stock 1 = .ok (.iload_n 1, 1) := by decide +kernel
theorem d6_stock_2 : decode b6_stock 2 = .ok (.invokevirtual 101, 3) := by decide +kernel
theorem d6_stock_5 : decode b6_stock 5 = .ok (.ifCond .ne 5, 3) := by decide +kernel
theorem d6_stock_8 : decode b6_stock 8 = .ok (.iconst (-1), 1) := by decide +kernel
theorem d6_stock_9 : decode b6_stock 9 = .ok (.ireturn, 1) := by decide +kernel
theorem d6_stock_10 : decode b6_stock 10 = .ok (.iload_n 2, 1) := by decide +kernel
theorem d6_stock_11 : decode b6_stock 11 = .ok (.tableswitch 47 0 2 #[25, 31, 37], 25) := by decide +kernel
theorem d6_stock_36 : decode b6_stock 36 = .ok (.aload_n 0, 1) := by decide +kernel
theorem d6_stock_37 : decode b6_stock 37 = .ok (.iload_n 1, 1) := by decide +kernel
theorem d6_stock_38 : decode b6_stock 38 = .ok (.invokevirtual 239, 3) := by decide +kernel
theorem d6_stock_41 : decode b6_stock 41 = .ok (.ireturn, 1) := by decide +kernel
theorem d6_stock_42 : decode b6_stock 42 = .ok (.aload_n 0, 1) := by decide +kernel
theorem d6_stock_43 : decode b6_stock 43 = .ok (.iload_n 1, 1) := by decide +kernel
theorem d6_stock_44 : decode b6_stock 44 = .ok (.invokevirtual 242, 3) := by decide +kernel
theorem d6_stock_47 : decode b6_stock 47 = .ok (.ireturn, 1) := by decide +kernel
theorem d6_stock_48 : decode b6_stock 48 = .ok (.aload_n 0, 1) := by decide +kernel
theorem d6_stock_49 : decode b6_stock 49 = .ok (.getfield 17, 3) := by decide +kernel
theorem d6_stock_52 : decode b6_stock 52 = .ok (.iload_n 1, 1) := by decide +kernel
theorem d6_stock_53 : decode b6_stock 53 = .ok (.aaload, 1) := by decide +kernel
theorem d6_stock_54 : decode b6_stock 54 = .ok (.getfield 222, 3) := by decide +kernel
theorem d6_stock_57 : decode b6_stock 57 = .ok (.ireturn, 1) := by decide +kernel
theorem d6_stock_58 : decode b6_stock 58 = .ok (.iconst (-1), 1) := by decide +kernel
theorem d6_stock_59 : decode b6_stock 59 = .ok (.ireturn, 1) := by decide +kernel
theorem d6_wanted_0 : decode b6_wanted 0 = .ok (.iconst 0, 1) := by decide +kernel
theorem d6_wanted_1 : decode b6_wanted 1 = .ok (.istore_n 2, 1) := by decide +kernel
theorem d6_wanted_2 : decode b6_wanted 2 = .ok (.iconst 0, 1) := by decide +kernel
theorem d6_wanted_3 : decode b6_wanted 3 = .ok (.istore_n 3, 1) := by decide +kernel
theorem d6_wanted_4 : decode b6_wanted 4 = .ok (.iload_n 3, 1) := by decide +kernel
theorem d6_wanted_5 : decode b6_wanted 5 = .ok (.bipush 32, 2) := by decide +kernel
theorem d6_wanted_7 : decode b6_wanted 7 = .ok (.if_icmp .ge 35, 3) := by decide +kernel
theorem d6_wanted_10 : decode b6_wanted 10 = .ok (.aload_n 0, 1) := by decide +kernel
theorem d6_wanted_11 : decode b6_wanted 11 = .ok (.iload_n 3, 1) := by decide +kernel
theorem d6_wanted_12 : decode b6_wanted 12 = .ok (.invokevirtual 101, 3) := by decide +kernel
theorem d6_wanted_15 : decode b6_wanted 15 = .ok (.ifCond .eq 21, 3) := by decide +kernel
theorem d6_wanted_18 : decode b6_wanted 18 = .ok (.aload_n 0, 1) := by decide +kernel
theorem d6_wanted_19 : decode b6_wanted 19 = .ok (.iload_n 3, 1) := by decide +kernel
theorem d6_wanted_20 : decode b6_wanted 20 = .ok (.invokevirtual 242, 3) := by decide +kernel
theorem d6_wanted_23 : decode b6_wanted 23 = .ok (.ifCond .le 13, 3) := by decide +kernel
theorem d6_wanted_26 : decode b6_wanted 26 = .ok (.iload_n 2, 1) := by decide +kernel
theorem d6_wanted_27 : decode b6_wanted 27 = .ok (.iload_n 1, 1) := by decide +kernel
theorem d6_wanted_28 : decode b6_wanted 28 = .ok (.if_icmp .ne 5, 3) := by decide +kernel
theorem d6_wanted_31 : decode b6_wanted 31 = .ok (.iload_n 3, 1) := by decide +kernel
theorem d6_wanted_32 : decode b6_wanted 32 = .ok (.ireturn, 1) := by decide +kernel
theorem d6_wanted_33 : decode b6_wanted 33 = .ok (.iinc 2 1, 3) := by decide +kernel
theorem d6_wanted_36 : decode b6_wanted 36 = .ok (.iinc 3 1, 3) := by decide +kernel
theorem d6_wanted_39 : decode b6_wanted 39 = .ok (.goto (-35), 3) := by decide +kernel
theorem d6_wanted_42 : decode b6_wanted 42 = .ok (.iconst (-1), 1) := by decide +kernel
theorem d6_wanted_43 : decode b6_wanted 43 = .ok (.ireturn, 1) := by decide +kernel
theorem d6_orderTold_0 : decode b6_orderTold 0 = .ok (.aload_n 0, 1) := by decide +kernel
theorem d6_orderTold_1 : decode b6_orderTold 1 = .ok (.iload_n 1, 1) := by decide +kernel
theorem d6_orderTold_2 : decode b6_orderTold 2 = .ok (.invokevirtual 111, 3) := by decide +kernel
theorem d6_orderTold_5 : decode b6_orderTold 5 = .ok (.ifCond .ne 5, 3) := by decide +kernel
theorem d6_orderTold_8 : decode b6_orderTold 8 = .ok (.iconst (-1), 1) := by decide +kernel
theorem d6_orderTold_9 : decode b6_orderTold 9 = .ok (.ireturn, 1) := by decide +kernel
theorem d6_orderTold_10 : decode b6_orderTold 10 = .ok (.iload_n 2, 1) := by decide +kernel
theorem d6_orderTold_11 : decode b6_orderTold 11 = .ok (.tableswitch 67 0 2 #[25, 35, 45], 25) := by decide +kernel
theorem d6_orderTold_36 : decode b6_orderTold 36 = .ok (.aload_n 0, 1) := by decide +kernel
theorem d6_orderTold_37 : decode b6_orderTold 37 = .ok (.getfield 29, 3) := by decide +kernel
theorem d6_orderTold_40 : decode b6_orderTold 40 = .ok (.iload_n 1, 1) := by decide +kernel
theorem d6_orderTold_41 : decode b6_orderTold 41 = .ok (.aaload, 1) := by decide +kernel
theorem d6_orderTold_42 : decode b6_orderTold 42 = .ok (.getfield 139, 3) := by decide +kernel
theorem d6_orderTold_45 : decode b6_orderTold 45 = .ok (.ireturn, 1) := by decide +kernel
theorem d6_orderTold_46 : decode b6_orderTold 46 = .ok (.aload_n 0, 1) := by decide +kernel
theorem d6_orderTold_47 : decode b6_orderTold 47 = .ok (.getfield 29, 3) := by decide +kernel
theorem d6_orderTold_50 : decode b6_orderTold 50 = .ok (.iload_n 1, 1) := by decide +kernel
theorem d6_orderTold_51 : decode b6_orderTold 51 = .ok (.aaload, 1) := by decide +kernel
theorem d6_orderTold_52 : decode b6_orderTold 52 = .ok (.getfield 123, 3) := by decide +kernel
theorem d6_orderTold_55 : decode b6_orderTold 55 = .ok (.ireturn, 1) := by decide +kernel
theorem d6_orderTold_56 : decode b6_orderTold 56 = .ok (.aload_n 0, 1) := by decide +kernel
theorem d6_orderTold_57 : decode b6_orderTold 57 = .ok (.getfield 29, 3) := by decide +kernel
theorem d6_orderTold_60 : decode b6_orderTold 60 = .ok (.iload_n 1, 1) := by decide +kernel
theorem d6_orderTold_61 : decode b6_orderTold 61 = .ok (.aaload, 1) := by decide +kernel
theorem d6_orderTold_62 : decode b6_orderTold 62 = .ok (.aload_n 0, 1) := by decide +kernel
theorem d6_orderTold_63 : decode b6_orderTold 63 = .ok (.getfield 54, 3) := by decide +kernel
theorem d6_orderTold_66 : decode b6_orderTold 66 = .ok (.invokevirtual 117, 3) := by decide +kernel
theorem d6_orderTold_69 : decode b6_orderTold 69 = .ok (.ifCond .eq 7, 3) := by decide +kernel
theorem d6_orderTold_72 : decode b6_orderTold 72 = .ok (.iconst 1, 1) := by decide +kernel
theorem d6_orderTold_73 : decode b6_orderTold 73 = .ok (.goto 4, 3) := by decide +kernel
theorem d6_orderTold_76 : decode b6_orderTold 76 = .ok (.iconst 0, 1) := by decide +kernel
theorem d6_orderTold_77 : decode b6_orderTold 77 = .ok (.ireturn, 1) := by decide +kernel
theorem d6_orderTold_78 : decode b6_orderTold 78 = .ok (.iconst (-1), 1) := by decide +kernel
theorem d6_orderTold_79 : decode b6_orderTold 79 = .ok (.ireturn, 1) := by decide +kernel
theorem d6_alarms_0 : decode b6_alarms 0 = .ok (.iconst 0, 1) := by decide +kernel
theorem d6_alarms_1 : decode b6_alarms 1 = .ok (.istore_n 1, 1) := by decide +kernel
theorem d6_alarms_2 : decode b6_alarms 2 = .ok (.aload_n 0, 1) := by decide +kernel
theorem d6_alarms_3 : decode b6_alarms 3 = .ok (.getfield 36, 3) := by decide +kernel
theorem d6_alarms_6 : decode b6_alarms 6 = .ok (.invokevirtual 87, 3) := by decide +kernel
theorem d6_alarms_9 : decode b6_alarms 9 = .ok (.ifCond .eq 24, 3) := by decide +kernel
theorem d6_alarms_12 : decode b6_alarms 12 = .ok (.aload_n 0, 1) := by decide +kernel
theorem d6_alarms_13 : decode b6_alarms 13 = .ok (.getfield 54, 3) := by decide +kernel
theorem d6_alarms_16 : decode b6_alarms 16 = .ok (.aload_n 0, 1) := by decide +kernel
theorem d6_alarms_17 : decode b6_alarms 17 = .ok (.getfield 36, 3) := by decide +kernel
theorem d6_alarms_20 : decode b6_alarms 20 = .ok (.getfield 212, 3) := by decide +kernel
theorem d6_alarms_23 : decode b6_alarms 23 = .ok (.isub, 1) := by decide +kernel
theorem d6_alarms_24 : decode b6_alarms 24 = .ok (.bipush 40, 2) := by decide +kernel
theorem d6_alarms_26 : decode b6_alarms 26 = .ok (.if_icmp .lt 7, 3) := by decide +kernel
theorem d6_alarms_29 : decode b6_alarms 29 = .ok (.iload_n 1, 1) := by decide +kernel
theorem d6_alarms_30 : decode b6_alarms 30 = .ok (.iconst 1, 1) := by decide +kernel
theorem d6_alarms_31 : decode b6_alarms 31 = .ok (.ior, 1) := by decide +kernel
theorem d6_alarms_32 : decode b6_alarms 32 = .ok (.istore_n 1, 1) := by decide +kernel
theorem d6_alarms_33 : decode b6_alarms 33 = .ok (.aload_n 0, 1) := by decide +kernel
theorem d6_alarms_34 : decode b6_alarms 34 = .ok (.invokevirtual 245, 3) := by decide +kernel
theorem d6_alarms_37 : decode b6_alarms 37 = .ok (.ifCond .eq 7, 3) := by decide +kernel
theorem d6_alarms_40 : decode b6_alarms 40 = .ok (.iload_n 1, 1) := by decide +kernel
theorem d6_alarms_41 : decode b6_alarms 41 = .ok (.iconst 2, 1) := by decide +kernel
theorem d6_alarms_42 : decode b6_alarms 42 = .ok (.ior, 1) := by decide +kernel
theorem d6_alarms_43 : decode b6_alarms 43 = .ok (.istore_n 1, 1) := by decide +kernel
theorem d6_alarms_44 : decode b6_alarms 44 = .ok (.aload_n 0, 1) := by decide +kernel
theorem d6_alarms_45 : decode b6_alarms 45 = .ok (.iconst 0, 1) := by decide +kernel
theorem d6_alarms_46 : decode b6_alarms 46 = .ok (.invokevirtual 248, 3) := by decide +kernel
theorem d6_alarms_49 : decode b6_alarms 49 = .ok (.iconst (-1), 1) := by decide +kernel
theorem d6_alarms_50 : decode b6_alarms 50 = .ok (.if_icmp .eq 7, 3) := by decide +kernel
theorem d6_alarms_53 : decode b6_alarms 53 = .ok (.iload_n 1, 1) := by decide +kernel
theorem d6_alarms_54 : decode b6_alarms 54 = .ok (.iconst 4, 1) := by decide +kernel
theorem d6_alarms_55 : decode b6_alarms 55 = .ok (.ior, 1) := by decide +kernel
theorem d6_alarms_56 : decode b6_alarms 56 = .ok (.istore_n 1, 1) := by decide +kernel
theorem d6_alarms_57 : decode b6_alarms 57 = .ok (.aload_n 0, 1) := by decide +kernel
theorem d6_alarms_58 : decode b6_alarms 58 = .ok (.getfield 43, 3) := by decide +kernel
theorem d6_alarms_61 : decode b6_alarms 61 = .ok (.invokevirtual 251, 3) := by decide +kernel
theorem d6_alarms_64 : decode b6_alarms 64 = .ok (.iconst 2, 1) := by decide +kernel
theorem d6_alarms_65 : decode b6_alarms 65 = .ok (.if_icmp .ge 8, 3) := by decide +kernel
theorem d6_alarms_68 : decode b6_alarms 68 = .ok (.iload_n 1, 1) := by decide +kernel
theorem d6_alarms_69 : decode b6_alarms 69 = .ok (.bipush 8, 2) := by decide +kernel
theorem d6_alarms_71 : decode b6_alarms 71 = .ok (.ior, 1) := by decide +kernel
theorem d6_alarms_72 : decode b6_alarms 72 = .ok (.istore_n 1, 1) := by decide +kernel
theorem d6_alarms_73 : decode b6_alarms 73 = .ok (.aload_n 0, 1) := by decide +kernel
theorem d6_alarms_74 : decode b6_alarms 74 = .ok (.invokevirtual 254, 3) := by decide +kernel
theorem d6_alarms_77 : decode b6_alarms 77 = .ok (.ifCond .eq 8, 3) := by decide +kernel
theorem d6_alarms_80 : decode b6_alarms 80 = .ok (.iload_n 1, 1) := by decide +kernel
theorem d6_alarms_81 : decode b6_alarms 81 = .ok (.bipush 16, 2) := by decide +kernel
theorem d6_alarms_83 : decode b6_alarms 83 = .ok (.ior, 1) := by decide +kernel
theorem d6_alarms_84 : decode b6_alarms 84 = .ok (.istore_n 1, 1) := by decide +kernel
theorem d6_alarms_85 : decode b6_alarms 85 = .ok (.iload_n 1, 1) := by decide +kernel
theorem d6_alarms_86 : decode b6_alarms 86 = .ok (.ireturn, 1) := by decide +kernel
theorem d6_told_0 : decode b6_told 0 = .ok (.iload_n 1, 1) := by decide +kernel
theorem d6_told_1 : decode b6_told 1 = .ok (.tableswitch 112 0 6 #[43, 48, 53, 58, 66, 74, 104], 43) := by decide +kernel
theorem d6_told_44 : decode b6_told 44 = .ok (.aload_n 0, 1) := by decide +kernel
theorem d6_told_45 : decode b6_told 45 = .ok (.getfield 54, 3) := by decide +kernel
theorem d6_told_48 : decode b6_told 48 = .ok (.ireturn, 1) := by decide +kernel
theorem d6_told_49 : decode b6_told 49 = .ok (.aload_n 0, 1) := by decide +kernel
theorem d6_told_50 : decode b6_told 50 = .ok (.getfield 58, 3) := by decide +kernel
theorem d6_told_53 : decode b6_told 53 = .ok (.ireturn, 1) := by decide +kernel
theorem d6_told_54 : decode b6_told 54 = .ok (.aload_n 0, 1) := by decide +kernel
theorem d6_told_55 : decode b6_told 55 = .ok (.getfield 64, 3) := by decide +kernel
theorem d6_told_58 : decode b6_told 58 = .ok (.ireturn, 1) := by decide +kernel
theorem d6_told_59 : decode b6_told 59 = .ok (.aload_n 0, 1) := by decide +kernel
theorem d6_told_60 : decode b6_told 60 = .ok (.getfield 36, 3) := by decide +kernel
theorem d6_told_63 : decode b6_told 63 = .ok (.getfield 188, 3) := by decide +kernel
theorem d6_told_66 : decode b6_told 66 = .ok (.ireturn, 1) := by decide +kernel
theorem d6_told_67 : decode b6_told 67 = .ok (.aload_n 0, 1) := by decide +kernel
theorem d6_told_68 : decode b6_told 68 = .ok (.getfield 36, 3) := by decide +kernel
theorem d6_told_71 : decode b6_told 71 = .ok (.getfield 165, 3) := by decide +kernel
theorem d6_told_74 : decode b6_told 74 = .ok (.ireturn, 1) := by decide +kernel
theorem d6_told_75 : decode b6_told 75 = .ok (.aload_n 0, 1) := by decide +kernel
theorem d6_told_76 : decode b6_told 76 = .ok (.getfield 36, 3) := by decide +kernel
theorem d6_told_79 : decode b6_told 79 = .ok (.invokevirtual 87, 3) := by decide +kernel
theorem d6_told_82 : decode b6_told 82 = .ok (.ifCond .ne 7, 3) := by decide +kernel
theorem d6_told_85 : decode b6_told 85 = .ok (.iconst (-1), 1) := by decide +kernel
theorem d6_told_86 : decode b6_told 86 = .ok (.goto 18, 3) := by decide +kernel
theorem d6_told_89 : decode b6_told 89 = .ok (.aload_n 0, 1) := by decide +kernel
theorem d6_told_90 : decode b6_told 90 = .ok (.getfield 36, 3) := by decide +kernel
theorem d6_told_93 : decode b6_told 93 = .ok (.getfield 159, 3) := by decide +kernel
theorem d6_told_96 : decode b6_told 96 = .ok (.ifCond .eq 7, 3) := by decide +kernel
theorem d6_told_99 : decode b6_told 99 = .ok (.iconst 1, 1) := by decide +kernel
theorem d6_told_100 : decode b6_told 100 = .ok (.goto 4, 3) := by decide +kernel
theorem d6_told_103 : decode b6_told 103 = .ok (.iconst 0, 1) := by decide +kernel
theorem d6_told_104 : decode b6_told 104 = .ok (.ireturn, 1) := by decide +kernel
theorem d6_told_105 : decode b6_told 105 = .ok (.aload_n 0, 1) := by decide +kernel
theorem d6_told_106 : decode b6_told 106 = .ok (.getfield 43, 3) := by decide +kernel
theorem d6_told_109 : decode b6_told 109 = .ok (.getfield 146, 3) := by decide +kernel
theorem d6_told_112 : decode b6_told 112 = .ok (.ireturn, 1) := by decide +kernel
theorem d6_told_113 : decode b6_told 113 = .ok (.iconst (-1), 1) := by decide +kernel
theorem d6_told_114 : decode b6_told 114 = .ok (.ireturn, 1) := by decide +kernel
theorem d6_entry_0 : decode b6_entry 0 = .ok (.iload_n 1, 1) := by decide +kernel
theorem d6_entry_1 : decode b6_entry 1 = .ok (.ifCond .lt 24, 3) := by decide +kernel
theorem d6_entry_4 : decode b6_entry 4 = .ok (.iload_n 1, 1) := by decide +kernel
theorem d6_entry_5 : decode b6_entry 5 = .ok (.aload_n 0, 1) := by decide +kernel
theorem d6_entry_6 : decode b6_entry 6 = .ok (.getfield 43, 3) := by decide +kernel
theorem d6_entry_9 : decode b6_entry 9 = .ok (.getfield 146, 3) := by decide +kernel
theorem d6_entry_12 : decode b6_entry 12 = .ok (.if_icmp .ge 13, 3) := by decide +kernel
theorem d6_entry_15 : decode b6_entry 15 = .ok (.iload_n 2, 1) := by decide +kernel
theorem d6_entry_16 : decode b6_entry 16 = .ok (.ifCond .lt 9, 3) := by decide +kernel
theorem d6_entry_19 : decode b6_entry 19 = .ok (.iload_n 2, 1) := by decide +kernel
theorem d6_entry_20 : decode b6_entry 20 = .ok (.bipush 6, 2) := by decide +kernel
theorem d6_entry_22 : decode b6_entry 22 = .ok (.if_icmp .lt 5, 3) := by decide +kernel
theorem d6_entry_25 : decode b6_entry 25 = .ok (.iconst (-1), 1) := by decide +kernel
theorem d6_entry_26 : decode b6_entry 26 = .ok (.ireturn, 1) := by decide +kernel
theorem d6_entry_27 : decode b6_entry 27 = .ok (.aload_n 0, 1) := by decide +kernel
theorem d6_entry_28 : decode b6_entry 28 = .ok (.getfield 43, 3) := by decide +kernel
theorem d6_entry_31 : decode b6_entry 31 = .ok (.invokevirtual 251, 3) := by decide +kernel
theorem d6_entry_34 : decode b6_entry 34 = .ok (.ifCond .ne 6, 3) := by decide +kernel
theorem d6_entry_37 : decode b6_entry 37 = .ok (.bipush (-8), 2) := by decide +kernel
theorem d6_entry_39 : decode b6_entry 39 = .ok (.ireturn, 1) := by decide +kernel
theorem d6_entry_40 : decode b6_entry 40 = .ok (.aload_n 0, 1) := by decide +kernel
theorem d6_entry_41 : decode b6_entry 41 = .ok (.getfield 43, 3) := by decide +kernel
theorem d6_entry_44 : decode b6_entry 44 = .ok (.iload_n 1, 1) := by decide +kernel
theorem d6_entry_45 : decode b6_entry 45 = .ok (.iload_n 2, 1) := by decide +kernel
theorem d6_entry_46 : decode b6_entry 46 = .ok (.invokevirtual 257, 3) := by decide +kernel
theorem d6_entry_49 : decode b6_entry 49 = .ok (.ireturn, 1) := by decide +kernel
theorem d6_lose_0 : decode b6_lose 0 = .ok (.iload_n 1, 1) := by decide +kernel
theorem d6_lose_1 : decode b6_lose 1 = .ok (.ifCond .lt 8, 3) := by decide +kernel
theorem d6_lose_4 : decode b6_lose 4 = .ok (.iload_n 1, 1) := by decide +kernel
theorem d6_lose_5 : decode b6_lose 5 = .ok (.iconst 2, 1) := by decide +kernel
theorem d6_lose_6 : decode b6_lose 6 = .ok (.if_icmp .lt 5, 3) := by decide +kernel
theorem d6_lose_9 : decode b6_lose 9 = .ok (.iconst (-1), 1) := by decide +kernel
theorem d6_lose_10 : decode b6_lose 10 = .ok (.ireturn, 1) := by decide +kernel
theorem d6_lose_11 : decode b6_lose 11 = .ok (.aload_n 0, 1) := by decide +kernel
theorem d6_lose_12 : decode b6_lose 12 = .ok (.getfield 43, 3) := by decide +kernel
theorem d6_lose_15 : decode b6_lose 15 = .ok (.getfield 261, 3) := by decide +kernel
theorem d6_lose_18 : decode b6_lose 18 = .ok (.iload_n 1, 1) := by decide +kernel
theorem d6_lose_19 : decode b6_lose 19 = .ok (.iconst 1, 1) := by decide +kernel
theorem d6_lose_20 : decode b6_lose 20 = .ok (.bastore, 1) := by decide +kernel
theorem d6_lose_21 : decode b6_lose 21 = .ok (.aload_n 0, 1) := by decide +kernel
theorem d6_lose_22 : decode b6_lose 22 = .ok (.getfield 43, 3) := by decide +kernel
theorem d6_lose_25 : decode b6_lose 25 = .ok (.invokevirtual 251, 3) := by decide +kernel
theorem d6_lose_28 : decode b6_lose 28 = .ok (.ireturn, 1) := by decide +kernel
theorem d6_repair_0 : decode b6_repair 0 = .ok (.aload_n 0, 1) := by decide +kernel
theorem d6_repair_1 : decode b6_repair 1 = .ok (.getfield 43, 3) := by decide +kernel
theorem d6_repair_4 : decode b6_repair 4 = .ok (.invokevirtual 251, 3) := by decide +kernel
theorem d6_repair_7 : decode b6_repair 7 = .ok (.ifCond .ne 6, 3) := by decide +kernel
theorem d6_repair_10 : decode b6_repair 10 = .ok (.bipush (-8), 2) := by decide +kernel
theorem d6_repair_12 : decode b6_repair 12 = .ok (.ireturn, 1) := by decide +kernel
theorem d6_repair_13 : decode b6_repair 13 = .ok (.aload_n 0, 1) := by decide +kernel
theorem d6_repair_14 : decode b6_repair 14 = .ok (.getfield 43, 3) := by decide +kernel
theorem d6_repair_17 : decode b6_repair 17 = .ok (.invokevirtual 265, 3) := by decide +kernel
theorem d6_repair_20 : decode b6_repair 20 = .ok (.aload_n 0, 1) := by decide +kernel
theorem d6_repair_21 : decode b6_repair 21 = .ok (.getfield 43, 3) := by decide +kernel
theorem d6_repair_24 : decode b6_repair 24 = .ok (.invokevirtual 251, 3) := by decide +kernel
theorem d6_repair_27 : decode b6_repair 27 = .ok (.ireturn, 1) := by decide +kernel
theorem d6_audit_0 : decode b6_audit 0 = .ok (.aload_n 0, 1) := by decide +kernel
theorem d6_audit_1 : decode b6_audit 1 = .ok (.getfield 43, 3) := by decide +kernel
theorem d6_audit_4 : decode b6_audit 4 = .ok (.invokevirtual 251, 3) := by decide +kernel
theorem d6_audit_7 : decode b6_audit 7 = .ok (.ifCond .ne 6, 3) := by decide +kernel
theorem d6_audit_10 : decode b6_audit 10 = .ok (.bipush (-8), 2) := by decide +kernel
theorem d6_audit_12 : decode b6_audit 12 = .ok (.ireturn, 1) := by decide +kernel
theorem d6_audit_13 : decode b6_audit 13 = .ok (.aload_n 0, 1) := by decide +kernel
theorem d6_audit_14 : decode b6_audit 14 = .ok (.getfield 43, 3) := by decide +kernel
theorem d6_audit_17 : decode b6_audit 17 = .ok (.aload_n 0, 1) := by decide +kernel
theorem d6_audit_18 : decode b6_audit 18 = .ok (.getfield 51, 3) := by decide +kernel
theorem d6_audit_21 : decode b6_audit 21 = .ok (.invokevirtual 268, 3) := by decide +kernel
theorem d6_audit_24 : decode b6_audit 24 = .ok (.iconst 0, 1) := by decide +kernel
theorem d6_audit_25 : decode b6_audit 25 = .ok (.istore_n 1, 1) := by decide +kernel
theorem d6_audit_26 : decode b6_audit 26 = .ok (.iconst 0, 1) := by decide +kernel
theorem d6_audit_27 : decode b6_audit 27 = .ok (.istore_n 2, 1) := by decide +kernel
theorem d6_audit_28 : decode b6_audit 28 = .ok (.iload_n 2, 1) := by decide +kernel
theorem d6_audit_29 : decode b6_audit 29 = .ok (.bipush 64, 2) := by decide +kernel
theorem d6_audit_31 : decode b6_audit 31 = .ok (.if_icmp .ge 30, 3) := by decide +kernel
theorem d6_audit_34 : decode b6_audit 34 = .ok (.aload_n 0, 1) := by decide +kernel
theorem d6_audit_35 : decode b6_audit 35 = .ok (.getfield 51, 3) := by decide +kernel
theorem d6_audit_38 : decode b6_audit 38 = .ok (.iload_n 2, 1) := by decide +kernel
theorem d6_audit_39 : decode b6_audit 39 = .ok (.iaload, 1) := by decide +kernel
theorem d6_audit_40 : decode b6_audit 40 = .ok (.aload_n 0, 1) := by decide +kernel
theorem d6_audit_41 : decode b6_audit 41 = .ok (.getfield 23, 3) := by decide +kernel
theorem d6_audit_44 : decode b6_audit 44 = .ok (.iload_n 2, 1) := by decide +kernel
theorem d6_audit_45 : decode b6_audit 45 = .ok (.aaload, 1) := by decide +kernel
theorem d6_audit_46 : decode b6_audit 46 = .ok (.invokevirtual 194, 3) := by decide +kernel
theorem d6_audit_49 : decode b6_audit 49 = .ok (.if_icmp .eq 6, 3) := by decide +kernel
theorem d6_audit_52 : decode b6_audit 52 = .ok (.iinc 1 1, 3) := by decide +kernel
theorem d6_audit_55 : decode b6_audit 55 = .ok (.iinc 2 1, 3) := by decide +kernel
theorem d6_audit_58 : decode b6_audit 58 = .ok (.goto (-30), 3) := by decide +kernel
theorem d6_audit_61 : decode b6_audit 61 = .ok (.iload_n 1, 1) := by decide +kernel
theorem d6_audit_62 : decode b6_audit 62 = .ok (.ireturn, 1) := by decide +kernel
theorem d6_isUser_0 : decode b6_isUser 0 = .ok (.iload_n 1, 1) := by decide +kernel
theorem d6_isUser_1 : decode b6_isUser 1 = .ok (.ifCond .lt 22, 3) := by decide +kernel
theorem d6_isUser_4 : decode b6_isUser 4 = .ok (.iload_n 1, 1) := by decide +kernel
theorem d6_isUser_5 : decode b6_isUser 5 = .ok (.bipush 16, 2) := by decide +kernel
theorem d6_isUser_7 : decode b6_isUser 7 = .ok (.if_icmp .ge 16, 3) := by decide +kernel
theorem d6_isUser_10 : decode b6_isUser 10 = .ok (.aload_n 0, 1) := by decide +kernel
theorem d6_isUser_11 : decode b6_isUser 11 = .ok (.getfield 11, 3) := by decide +kernel
theorem d6_isUser_14 : decode b6_isUser 14 = .ok (.iload_n 1, 1) := by decide +kernel
theorem d6_isUser_15 : decode b6_isUser 15 = .ok (.aaload, 1) := by decide +kernel
theorem d6_isUser_16 : decode b6_isUser 16 = .ok (.ifnull 7, 3) := by decide +kernel
theorem d6_isUser_19 : decode b6_isUser 19 = .ok (.iconst 1, 1) := by decide +kernel
theorem d6_isUser_20 : decode b6_isUser 20 = .ok (.goto 4, 3) := by decide +kernel
theorem d6_isUser_23 : decode b6_isUser 23 = .ok (.iconst 0, 1) := by decide +kernel
theorem d6_isUser_24 : decode b6_isUser 24 = .ok (.ireturn, 1) := by decide +kernel
theorem d6_isItem_0 : decode b6_isItem 0 = .ok (.iload_n 1, 1) := by decide +kernel
theorem d6_isItem_1 : decode b6_isItem 1 = .ok (.ifCond .lt 22, 3) := by decide +kernel
theorem d6_isItem_4 : decode b6_isItem 4 = .ok (.iload_n 1, 1) := by decide +kernel
theorem d6_isItem_5 : decode b6_isItem 5 = .ok (.bipush 32, 2) := by decide +kernel
theorem d6_isItem_7 : decode b6_isItem 7 = .ok (.if_icmp .ge 16, 3) := by decide +kernel
theorem d6_isItem_10 : decode b6_isItem 10 = .ok (.aload_n 0, 1) := by decide +kernel
theorem d6_isItem_11 : decode b6_isItem 11 = .ok (.getfield 17, 3) := by decide +kernel
theorem d6_isItem_14 : decode b6_isItem 14 = .ok (.iload_n 1, 1) := by decide +kernel
theorem d6_isItem_15 : decode b6_isItem 15 = .ok (.aaload, 1) := by decide +kernel
theorem d6_isItem_16 : decode b6_isItem 16 = .ok (.ifnull 7, 3) := by decide +kernel
theorem d6_isItem_19 : decode b6_isItem 19 = .ok (.iconst 1, 1) := by decide +kernel
theorem d6_isItem_20 : decode b6_isItem 20 = .ok (.goto 4, 3) := by decide +kernel
theorem d6_isItem_23 : decode b6_isItem 23 = .ok (.iconst 0, 1) := by decide +kernel
theorem d6_isItem_24 : decode b6_isItem 24 = .ok (.ireturn, 1) := by decide +kernel
theorem d6_isBin_0 : decode b6_isBin 0 = .ok (.iload_n 1, 1) := by decide +kernel
theorem d6_isBin_1 : decode b6_isBin 1 = .ok (.ifCond .lt 13, 3) := by decide +kernel
theorem d6_isBin_4 : decode b6_isBin 4 = .ok (.iload_n 1, 1) := by decide +kernel
theorem d6_isBin_5 : decode b6_isBin 5 = .ok (.bipush 64, 2) := by decide +kernel
theorem d6_isBin_7 : decode b6_isBin 7 = .ok (.if_icmp .ge 7, 3) := by decide +kernel
theorem d6_isBin_10 : decode b6_isBin 10 = .ok (.iconst 1, 1) := by decide +kernel
theorem d6_isBin_11 : decode b6_isBin 11 = .ok (.goto 4, 3) := by decide +kernel
theorem d6_isBin_14 : decode b6_isBin 14 = .ok (.iconst 0, 1) := by decide +kernel
theorem d6_isBin_15 : decode b6_isBin 15 = .ok (.ireturn, 1) := by decide +kernel
theorem d6_isOrder_0 : decode b6_isOrder 0 = .ok (.iload_n 1, 1) := by decide +kernel
theorem d6_isOrder_1 : decode b6_isOrder 1 = .ok (.ifCond .lt 15, 3) := by decide +kernel
theorem d6_isOrder_4 : decode b6_isOrder 4 = .ok (.iload_n 1, 1) := by decide +kernel
theorem d6_isOrder_5 : decode b6_isOrder 5 = .ok (.aload_n 0, 1) := by decide +kernel
theorem d6_isOrder_6 : decode b6_isOrder 6 = .ok (.getfield 70, 3) := by decide +kernel
theorem d6_isOrder_9 : decode b6_isOrder 9 = .ok (.if_icmp .ge 7, 3) := by decide +kernel
theorem d6_isOrder_12 : decode b6_isOrder 12 = .ok (.iconst 1, 1) := by decide +kernel
theorem d6_isOrder_13 : decode b6_isOrder 13 = .ok (.goto 4, 3) := by decide +kernel
theorem d6_isOrder_16 : decode b6_isOrder 16 = .ok (.iconst 0, 1) := by decide +kernel
theorem d6_isOrder_17 : decode b6_isOrder 17 = .ok (.ireturn, 1) := by decide +kernel
theorem d6_isControlled_0 : decode b6_isControlled 0 = .ok (.aload_n 0, 1) := by decide +kernel
theorem d6_isControlled_1 : decode b6_isControlled 1 = .ok (.iload_n 1, 1) := by decide +kernel
theorem d6_isControlled_2 : decode b6_isControlled 2 = .ok (.invokevirtual 101, 3) := by decide +kernel
theorem d6_isControlled_5 : decode b6_isControlled 5 = .ok (.ifCond .eq 19, 3) := by decide +kernel
theorem d6_isControlled_8 : decode b6_isControlled 8 = .ok (.aload_n 0, 1) := by decide +kernel
theorem d6_isControlled_9 : decode b6_isControlled 9 = .ok (.getfield 17, 3) := by decide +kernel
theorem d6_isControlled_12 : decode b6_isControlled 12 = .ok (.iload_n 1, 1) := by decide +kernel
theorem d6_isControlled_13 : decode b6_isControlled 13 = .ok (.aaload, 1) := by decide +kernel
theorem d6_isControlled_14 : decode b6_isControlled 14 = .ok (.getfield 272, 3) := by decide +kernel
theorem d6_isControlled_17 : decode b6_isControlled 17 = .ok (.ifCond .eq 7, 3) := by decide +kernel
theorem d6_isControlled_20 : decode b6_isControlled 20 = .ok (.iconst 1, 1) := by decide +kernel
theorem d6_isControlled_21 : decode b6_isControlled 21 = .ok (.goto 4, 3) := by decide +kernel
theorem d6_isControlled_24 : decode b6_isControlled 24 = .ok (.iconst 0, 1) := by decide +kernel
theorem d6_isControlled_25 : decode b6_isControlled 25 = .ok (.ireturn, 1) := by decide +kernel
theorem d6_isPharmacistIn_0 : decode b6_isPharmacistIn 0 = .ok (.aload_n 0, 1) := by decide +kernel
theorem d6_isPharmacistIn_1 : decode b6_isPharmacistIn 1 = .ok (.aload_n 0, 1) := by decide +kernel
theorem d6_isPharmacistIn_2 : decode b6_isPharmacistIn 2 = .ok (.getfield 58, 3) := by decide +kernel
theorem d6_isPharmacistIn_5 : decode b6_isPharmacistIn 5 = .ok (.invokevirtual 83, 3) := by decide +kernel
theorem d6_isPharmacistIn_8 : decode b6_isPharmacistIn 8 = .ok (.ifCond .eq 23, 3) := by decide +kernel
theorem d6_isPharmacistIn_11 : decode b6_isPharmacistIn 11 = .ok (.aload_n 0, 1) := by decide +kernel
theorem d6_isPharmacistIn_12 : decode b6_isPharmacistIn 12 = .ok (.getfield 11, 3) := by decide +kernel
theorem d6_isPharmacistIn_15 : decode b6_isPharmacistIn 15 = .ok (.aload_n 0, 1) := by decide +kernel
theorem d6_isPharmacistIn_16 : decode b6_isPharmacistIn 16 = .ok (.getfield 58, 3) := by decide +kernel
theorem d6_isPharmacistIn_19 : decode b6_isPharmacistIn 19 = .ok (.aaload, 1) := by decide +kernel
theorem d6_isPharmacistIn_20 : decode b6_isPharmacistIn 20 = .ok (.getfield 275, 3) := by decide +kernel
theorem d6_isPharmacistIn_23 : decode b6_isPharmacistIn 23 = .ok (.iconst 1, 1) := by decide +kernel
theorem d6_isPharmacistIn_24 : decode b6_isPharmacistIn 24 = .ok (.if_icmp .ne 7, 3) := by decide +kernel
theorem d6_isPharmacistIn_27 : decode b6_isPharmacistIn 27 = .ok (.iconst 1, 1) := by decide +kernel
theorem d6_isPharmacistIn_28 : decode b6_isPharmacistIn 28 = .ok (.goto 4, 3) := by decide +kernel
theorem d6_isPharmacistIn_31 : decode b6_isPharmacistIn 31 = .ok (.iconst 0, 1) := by decide +kernel
theorem d6_isPharmacistIn_32 : decode b6_isPharmacistIn 32 = .ok (.ireturn, 1) := by decide +kernel
theorem d6_isHandlerIn_0 : decode b6_isHandlerIn 0 = .ok (.aload_n 0, 1) := by decide +kernel
theorem d6_isHandlerIn_1 : decode b6_isHandlerIn 1 = .ok (.invokevirtual 105, 3) := by decide +kernel
theorem d6_isHandlerIn_4 : decode b6_isHandlerIn 4 = .ok (.ifCond .ne 29, 3) := by decide +kernel
theorem d6_isHandlerIn_7 : decode b6_isHandlerIn 7 = .ok (.aload_n 0, 1) := by decide +kernel
theorem d6_isHandlerIn_8 : decode b6_isHandlerIn 8 = .ok (.aload_n 0, 1) := by decide +kernel
theorem d6_isHandlerIn_9 : decode b6_isHandlerIn 9 = .ok (.getfield 58, 3) := by decide +kernel
theorem d6_isHandlerIn_12 : decode b6_isHandlerIn 12 = .ok (.invokevirtual 83, 3) := by decide +kernel
theorem d6_isHandlerIn_15 : decode b6_isHandlerIn 15 = .ok (.ifCond .eq 22, 3) := by decide +kernel
theorem d6_isHandlerIn_18 : decode b6_isHandlerIn 18 = .ok (.aload_n 0, 1) := by decide +kernel
theorem d6_isHandlerIn_19 : decode b6_isHandlerIn 19 = .ok (.getfield 11, 3) := by decide +kernel
theorem d6_isHandlerIn_22 : decode b6_isHandlerIn 22 = .ok (.aload_n 0, 1) := by decide +kernel
theorem d6_isHandlerIn_23 : decode b6_isHandlerIn 23 = .ok (.getfield 58, 3) := by decide +kernel
theorem d6_isHandlerIn_26 : decode b6_isHandlerIn 26 = .ok (.aaload, 1) := by decide +kernel
theorem d6_isHandlerIn_27 : decode b6_isHandlerIn 27 = .ok (.getfield 275, 3) := by decide +kernel
theorem d6_isHandlerIn_30 : decode b6_isHandlerIn 30 = .ok (.ifCond .ne 7, 3) := by decide +kernel
theorem d6_isHandlerIn_33 : decode b6_isHandlerIn 33 = .ok (.iconst 1, 1) := by decide +kernel
theorem d6_isHandlerIn_34 : decode b6_isHandlerIn 34 = .ok (.goto 4, 3) := by decide +kernel
theorem d6_isHandlerIn_37 : decode b6_isHandlerIn 37 = .ok (.iconst 0, 1) := by decide +kernel
theorem d6_isHandlerIn_38 : decode b6_isHandlerIn 38 = .ok (.ireturn, 1) := by decide +kernel
theorem d6_tryCode_0 : decode b6_tryCode 0 = .ok (.aload_n 1, 1) := by decide +kernel
theorem d6_tryCode_1 : decode b6_tryCode 1 = .ok (.aload_n 0, 1) := by decide +kernel
theorem d6_tryCode_2 : decode b6_tryCode 2 = .ok (.getfield 54, 3) := by decide +kernel
theorem d6_tryCode_5 : decode b6_tryCode 5 = .ok (.invokevirtual 278, 3) := by decide +kernel
theorem d6_tryCode_8 : decode b6_tryCode 8 = .ok (.ifCond .eq 6, 3) := by decide +kernel
theorem d6_tryCode_11 : decode b6_tryCode 11 = .ok (.bipush (-10), 2) := by decide +kernel
theorem d6_tryCode_13 : decode b6_tryCode 13 = .ok (.ireturn, 1) := by decide +kernel
theorem d6_tryCode_14 : decode b6_tryCode 14 = .ok (.iload_n 2, 1) := by decide +kernel
theorem d6_tryCode_15 : decode b6_tryCode 15 = .ok (.aload_n 1, 1) := by decide +kernel
theorem d6_tryCode_16 : decode b6_tryCode 16 = .ok (.getfield 281, 3) := by decide +kernel
theorem d6_tryCode_19 : decode b6_tryCode 19 = .ok (.if_icmp .ne 10, 3) := by decide +kernel
theorem d6_tryCode_22 : decode b6_tryCode 22 = .ok (.aload_n 1, 1) := by decide +kernel
theorem d6_tryCode_23 : decode b6_tryCode 23 = .ok (.iconst 0, 1) := by decide +kernel
theorem d6_tryCode_24 : decode b6_tryCode 24 = .ok (.putfield 284, 3) := by decide +kernel
theorem d6_tryCode_27 : decode b6_tryCode 27 = .ok (.iconst 0, 1) := by decide +kernel
theorem d6_tryCode_28 : decode b6_tryCode 28 = .ok (.ireturn, 1) := by decide +kernel
theorem d6_tryCode_29 : decode b6_tryCode 29 = .ok (.aload_n 1, 1) := by decide +kernel
theorem d6_tryCode_30 : decode b6_tryCode 30 = .ok (.dup, 1) := by decide +kernel
theorem d6_tryCode_31 : decode b6_tryCode 31 = .ok (.getfield 284, 3) := by decide +kernel
theorem d6_tryCode_34 : decode b6_tryCode 34 = .ok (.iconst 1, 1) := by decide +kernel
theorem d6_tryCode_35 : decode b6_tryCode 35 = .ok (.iadd, 1) := by decide +kernel
theorem d6_tryCode_36 : decode b6_tryCode 36 = .ok (.putfield 284, 3) := by decide +kernel
theorem d6_tryCode_39 : decode b6_tryCode 39 = .ok (.aload_n 1, 1) := by decide +kernel
theorem d6_tryCode_40 : decode b6_tryCode 40 = .ok (.getfield 284, 3) := by decide +kernel
theorem d6_tryCode_43 : decode b6_tryCode 43 = .ok (.iconst 3, 1) := by decide +kernel
theorem d6_tryCode_44 : decode b6_tryCode 44 = .ok (.if_icmp .lt 20, 3) := by decide +kernel
theorem d6_tryCode_47 : decode b6_tryCode 47 = .ok (.aload_n 1, 1) := by decide +kernel
theorem d6_tryCode_48 : decode b6_tryCode 48 = .ok (.iconst 0, 1) := by decide +kernel
theorem d6_tryCode_49 : decode b6_tryCode 49 = .ok (.putfield 284, 3) := by decide +kernel
theorem d6_tryCode_52 : decode b6_tryCode 52 = .ok (.aload_n 1, 1) := by decide +kernel
theorem d6_tryCode_53 : decode b6_tryCode 53 = .ok (.aload_n 0, 1) := by decide +kernel
theorem d6_tryCode_54 : decode b6_tryCode 54 = .ok (.getfield 54, 3) := by decide +kernel
theorem d6_tryCode_57 : decode b6_tryCode 57 = .ok (.sipush 300, 3) := by decide +kernel
theorem d6_tryCode_60 : decode b6_tryCode 60 = .ok (.iadd, 1) := by decide +kernel
theorem d6_tryCode_61 : decode b6_tryCode 61 = .ok (.putfield 287, 3) := by decide +kernel
theorem d6_tryCode_64 : decode b6_tryCode 64 = .ok (.bipush (-9), 2) := by decide +kernel
theorem d6_tryCode_66 : decode b6_tryCode 66 = .ok (.ireturn, 1) := by decide +kernel
theorem d6_accept_0 : decode b6_accept 0 = .ok (.aload_n 0, 1) := by decide +kernel
theorem d6_accept_1 : decode b6_accept 1 = .ok (.aload_n 0, 1) := by decide +kernel
theorem d6_accept_2 : decode b6_accept 2 = .ok (.getfield 54, 3) := by decide +kernel
theorem d6_accept_5 : decode b6_accept 5 = .ok (.putfield 61, 3) := by decide +kernel
theorem d6_accept_8 : decode b6_accept 8 = .ok (.return_, 1) := by decide +kernel
theorem d6_sendOut_0 : decode b6_sendOut 0 = .ok (.aload_n 0, 1) := by decide +kernel
theorem d6_sendOut_1 : decode b6_sendOut 1 = .ok (.iconst (-1), 1) := by decide +kernel
theorem d6_sendOut_2 : decode b6_sendOut 2 = .ok (.putfield 58, 3) := by decide +kernel
theorem d6_sendOut_5 : decode b6_sendOut 5 = .ok (.aload_n 0, 1) := by decide +kernel
theorem d6_sendOut_6 : decode b6_sendOut 6 = .ok (.iconst (-1), 1) := by decide +kernel
theorem d6_sendOut_7 : decode b6_sendOut 7 = .ok (.putfield 64, 3) := by decide +kernel
theorem d6_sendOut_10 : decode b6_sendOut 10 = .ok (.return_, 1) := by decide +kernel
theorem d6_isTarget_0 : decode b6_isTarget 0 = .ok (.iload_n 1, 1) := by decide +kernel
theorem d6_isTarget_1 : decode b6_isTarget 1 = .ok (.tableswitch 70 0 3 #[31, 37, 43, 43], 31) := by decide +kernel
theorem d6_isTarget_32 : decode b6_isTarget 32 = .ok (.aload_n 0, 1) := by decide +kernel
theorem d6_isTarget_33 : decode b6_isTarget 33 = .ok (.iload_n 2, 1) := by decide +kernel
theorem d6_isTarget_34 : decode b6_isTarget 34 = .ok (.invokevirtual 111, 3) := by decide +kernel
theorem d6_isTarget_37 : decode b6_isTarget 37 = .ok (.ireturn, 1) := by decide +kernel
theorem d6_isTarget_38 : decode b6_isTarget 38 = .ok (.aload_n 0, 1) := by decide +kernel
theorem d6_isTarget_39 : decode b6_isTarget 39 = .ok (.iload_n 2, 1) := by decide +kernel
theorem d6_isTarget_40 : decode b6_isTarget 40 = .ok (.invokevirtual 230, 3) := by decide +kernel
theorem d6_isTarget_43 : decode b6_isTarget 43 = .ok (.ireturn, 1) := by decide +kernel
theorem d6_isTarget_44 : decode b6_isTarget 44 = .ok (.aload_n 0, 1) := by decide +kernel
theorem d6_isTarget_45 : decode b6_isTarget 45 = .ok (.iload_n 2, 1) := by decide +kernel
theorem d6_isTarget_46 : decode b6_isTarget 46 = .ok (.invokevirtual 230, 3) := by decide +kernel
theorem d6_isTarget_49 : decode b6_isTarget 49 = .ok (.ifCond .eq 20, 3) := by decide +kernel
theorem d6_isTarget_52 : decode b6_isTarget 52 = .ok (.aload_n 0, 1) := by decide +kernel
theorem d6_isTarget_53 : decode b6_isTarget 53 = .ok (.getfield 23, 3) := by decide +kernel
theorem d6_isTarget_56 : decode b6_isTarget 56 = .ok (.iload_n 2, 1) := by decide +kernel
theorem d6_isTarget_57 : decode b6_isTarget 57 = .ok (.aaload, 1) := by decide +kernel
theorem d6_isTarget_58 : decode b6_isTarget 58 = .ok (.getfield 155, 3) := by decide +kernel
theorem d6_isTarget_61 : decode b6_isTarget 61 = .ok (.iconst (-1), 1) := by decide +kernel
theorem d6_isTarget_62 : decode b6_isTarget 62 = .ok (.if_icmp .eq 7, 3) := by decide +kernel
theorem d6_isTarget_65 : decode b6_isTarget 65 = .ok (.iconst 1, 1) := by decide +kernel
theorem d6_isTarget_66 : decode b6_isTarget 66 = .ok (.goto 4, 3) := by decide +kernel
theorem d6_isTarget_69 : decode b6_isTarget 69 = .ok (.iconst 0, 1) := by decide +kernel
theorem d6_isTarget_70 : decode b6_isTarget 70 = .ok (.ireturn, 1) := by decide +kernel
theorem d6_isTarget_71 : decode b6_isTarget 71 = .ok (.iconst 0, 1) := by decide +kernel
theorem d6_isTarget_72 : decode b6_isTarget 72 = .ok (.ireturn, 1) := by decide +kernel
theorem d6_wantsWitness_0 : decode b6_wantsWitness 0 = .ok (.iload_n 1, 1) := by decide +kernel
theorem d6_wantsWitness_1 : decode b6_wantsWitness 1 = .ok (.iconst 3, 1) := by decide +kernel
theorem d6_wantsWitness_2 : decode b6_wantsWitness 2 = .ok (.if_icmp .eq 23, 3) := by decide +kernel
theorem d6_wantsWitness_5 : decode b6_wantsWitness 5 = .ok (.iload_n 1, 1) := by decide +kernel
theorem d6_wantsWitness_6 : decode b6_wantsWitness 6 = .ok (.ifCond .ne 23, 3) := by decide +kernel
theorem d6_wantsWitness_9 : decode b6_wantsWitness 9 = .ok (.aload_n 0, 1) := by decide +kernel
theorem d6_wantsWitness_10 : decode b6_wantsWitness 10 = .ok (.aload_n 0, 1) := by decide +kernel
theorem d6_wantsWitness_11 : decode b6_wantsWitness 11 = .ok (.getfield 29, 3) := by decide +kernel
theorem d6_wantsWitness_14 : decode b6_wantsWitness 14 = .ok (.iload_n 2, 1) := by decide +kernel
theorem d6_wantsWitness_15 : decode b6_wantsWitness 15 = .ok (.aaload, 1) := by decide +kernel
theorem d6_wantsWitness_16 : decode b6_wantsWitness 16 = .ok (.getfield 139, 3) := by decide +kernel
theorem d6_wantsWitness_19 : decode b6_wantsWitness 19 = .ok (.invokevirtual 156, 3) := by decide +kernel
theorem d6_wantsWitness_22 : decode b6_wantsWitness 22 = .ok (.ifCond .eq 7, 3) := by decide +kernel
theorem d6_wantsWitness_25 : decode b6_wantsWitness 25 = .ok (.iconst 1, 1) := by decide +kernel
theorem d6_wantsWitness_26 : decode b6_wantsWitness 26 = .ok (.goto 4, 3) := by decide +kernel
theorem d6_wantsWitness_29 : decode b6_wantsWitness 29 = .ok (.iconst 0, 1) := by decide +kernel
theorem d6_wantsWitness_30 : decode b6_wantsWitness 30 = .ok (.ireturn, 1) := by decide +kernel
theorem d6_binToTakeFrom_0 : decode b6_binToTakeFrom 0 = .ok (.iconst (-1), 1) := by decide +kernel
theorem d6_binToTakeFrom_1 : decode b6_binToTakeFrom 1 = .ok (.istore_n 2, 1) := by decide +kernel
theorem d6_binToTakeFrom_2 : decode b6_binToTakeFrom 2 = .ok (.iconst 0, 1) := by decide +kernel
theorem d6_binToTakeFrom_3 : decode b6_binToTakeFrom 3 = .ok (.istore_n 3, 1) := by decide +kernel
theorem d6_binToTakeFrom_4 : decode b6_binToTakeFrom 4 = .ok (.iconst 0, 1) := by decide +kernel
theorem d6_binToTakeFrom_5 : decode b6_binToTakeFrom 5 = .ok (.istore 4, 2) := by decide +kernel
theorem d6_binToTakeFrom_7 : decode b6_binToTakeFrom 7 = .ok (.iload 4, 2) := by decide +kernel
theorem d6_binToTakeFrom_9 : decode b6_binToTakeFrom 9 = .ok (.bipush 64, 2) := by decide +kernel
theorem d6_binToTakeFrom_11 : decode b6_binToTakeFrom 11 = .ok (.if_icmp .ge 86, 3) := by decide +kernel
theorem d6_binToTakeFrom_14 : decode b6_binToTakeFrom 14 = .ok (.aload_n 0, 1) := by decide +kernel
theorem d6_binToTakeFrom_15 : decode b6_binToTakeFrom 15 = .ok (.getfield 23, 3) := by decide +kernel
theorem d6_binToTakeFrom_18 : decode b6_binToTakeFrom 18 = .ok (.iload 4, 2) := by decide +kernel
theorem d6_binToTakeFrom_20 : decode b6_binToTakeFrom 20 = .ok (.aaload, 1) := by decide +kernel
theorem d6_binToTakeFrom_21 : decode b6_binToTakeFrom 21 = .ok (.aload_n 0, 1) := by decide +kernel
theorem d6_binToTakeFrom_22 : decode b6_binToTakeFrom 22 = .ok (.getfield 54, 3) := by decide +kernel
theorem d6_binToTakeFrom_25 : decode b6_binToTakeFrom 25 = .ok (.invokevirtual 290, 3) := by decide +kernel
theorem d6_binToTakeFrom_28 : decode b6_binToTakeFrom 28 = .ok (.istore 5, 2) := by decide +kernel
theorem d6_binToTakeFrom_30 : decode b6_binToTakeFrom 30 = .ok (.aload_n 0, 1) := by decide +kernel
theorem d6_binToTakeFrom_31 : decode b6_binToTakeFrom 31 = .ok (.getfield 23, 3) := by decide +kernel
theorem d6_binToTakeFrom_34 : decode b6_binToTakeFrom 34 = .ok (.iload 4, 2) := by decide +kernel
theorem d6_binToTakeFrom_36 : decode b6_binToTakeFrom 36 = .ok (.aaload, 1) := by decide +kernel
theorem d6_binToTakeFrom_37 : decode b6_binToTakeFrom 37 = .ok (.getfield 155, 3) := by decide +kernel
theorem d6_binToTakeFrom_40 : decode b6_binToTakeFrom 40 = .ok (.iload_n 1, 1) := by decide +kernel
theorem d6_binToTakeFrom_41 : decode b6_binToTakeFrom 41 = .ok (.if_icmp .ne 50, 3) := by decide +kernel
theorem d6_binToTakeFrom_44 : decode b6_binToTakeFrom 44 = .ok (.iload 5, 2) := by decide +kernel
theorem d6_binToTakeFrom_46 : decode b6_binToTakeFrom 46 = .ok (.aload_n 0, 1) := by decide +kernel
theorem d6_binToTakeFrom_47 : decode b6_binToTakeFrom 47 = .ok (.getfield 23, 3) := by decide +kernel
theorem d6_binToTakeFrom_50 : decode b6_binToTakeFrom 50 = .ok (.iload 4, 2) := by decide +kernel
theorem d6_binToTakeFrom_52 : decode b6_binToTakeFrom 52 = .ok (.aaload, 1) := by decide +kernel
theorem d6_binToTakeFrom_53 : decode b6_binToTakeFrom 53 = .ok (.getfield 149, 3) := by decide +kernel
theorem d6_binToTakeFrom_56 : decode b6_binToTakeFrom 56 = .ok (.if_icmp .ge 35, 3) := by decide +kernel
theorem d6_binToTakeFrom_59 : decode b6_binToTakeFrom 59 = .ok (.aload_n 0, 1) := by decide +kernel
theorem d6_binToTakeFrom_60 : decode b6_binToTakeFrom 60 = .ok (.getfield 23, 3) := by decide +kernel
theorem d6_binToTakeFrom_63 : decode b6_binToTakeFrom 63 = .ok (.iload 4, 2) := by decide +kernel
theorem d6_binToTakeFrom_65 : decode b6_binToTakeFrom 65 = .ok (.aaload, 1) := by decide +kernel
theorem d6_binToTakeFrom_66 : decode b6_binToTakeFrom 66 = .ok (.getfield 233, 3) := by decide +kernel
theorem d6_binToTakeFrom_69 : decode b6_binToTakeFrom 69 = .ok (.iload 5, 2) := by decide +kernel
theorem d6_binToTakeFrom_71 : decode b6_binToTakeFrom 71 = .ok (.iaload, 1) := by decide +kernel
theorem d6_binToTakeFrom_72 : decode b6_binToTakeFrom 72 = .ok (.istore 6, 2) := by decide +kernel
theorem d6_binToTakeFrom_74 : decode b6_binToTakeFrom 74 = .ok (.iload_n 2, 1) := by decide +kernel
theorem d6_binToTakeFrom_75 : decode b6_binToTakeFrom 75 = .ok (.iconst (-1), 1) := by decide +kernel
theorem d6_binToTakeFrom_76 : decode b6_binToTakeFrom 76 = .ok (.if_icmp .eq 9, 3) := by decide +kernel
theorem d6_binToTakeFrom_79 : decode b6_binToTakeFrom 79 = .ok (.iload 6, 2) := by decide +kernel
theorem d6_binToTakeFrom_81 : decode b6_binToTakeFrom 81 = .ok (.iload_n 3, 1) := by decide +kernel
theorem d6_binToTakeFrom_82 : decode b6_binToTakeFrom 82 = .ok (.if_icmp .ge 9, 3) := by decide +kernel
theorem d6_binToTakeFrom_85 : decode b6_binToTakeFrom 85 = .ok (.iload 4, 2) := by decide +kernel
theorem d6_binToTakeFrom_87 : decode b6_binToTakeFrom 87 = .ok (.istore_n 2, 1) := by decide +kernel
theorem d6_binToTakeFrom_88 : decode b6_binToTakeFrom 88 = .ok (.iload 6, 2) := by decide +kernel
theorem d6_binToTakeFrom_90 : decode b6_binToTakeFrom 90 = .ok (.istore_n 3, 1) := by decide +kernel
theorem d6_binToTakeFrom_91 : decode b6_binToTakeFrom 91 = .ok (.iinc 4 1, 3) := by decide +kernel
theorem d6_binToTakeFrom_94 : decode b6_binToTakeFrom 94 = .ok (.goto (-87), 3) := by decide +kernel
theorem d6_binToTakeFrom_97 : decode b6_binToTakeFrom 97 = .ok (.iload_n 2, 1) := by decide +kernel
theorem d6_binToTakeFrom_98 : decode b6_binToTakeFrom 98 = .ok (.ireturn, 1) := by decide +kernel
theorem d6_isAmount_0 : decode b6_isAmount 0 = .ok (.iload_n 1, 1) := by decide +kernel
theorem d6_isAmount_1 : decode b6_isAmount 1 = .ok (.ifCond .lt 10, 3) := by decide +kernel
theorem d6_isAmount_4 : decode b6_isAmount 4 = .ok (.iload_n 1, 1) := by decide +kernel
theorem d6_isAmount_5 : decode b6_isAmount 5 = .ok (.sipush 1000, 3) := by decide +kernel
theorem d6_isAmount_8 : decode b6_isAmount 8 = .ok (.if_icmp .le 5, 3) := by decide +kernel
theorem d6_isAmount_11 : decode b6_isAmount 11 = .ok (.iconst 0, 1) := by decide +kernel
theorem d6_isAmount_12 : decode b6_isAmount 12 = .ok (.ireturn, 1) := by decide +kernel
theorem d6_isAmount_13 : decode b6_isAmount 13 = .ok (.aload_n 0, 1) := by decide +kernel
theorem d6_isAmount_14 : decode b6_isAmount 14 = .ok (.getfield 36, 3) := by decide +kernel
theorem d6_isAmount_17 : decode b6_isAmount 17 = .ok (.getfield 188, 3) := by decide +kernel
theorem d6_isAmount_20 : decode b6_isAmount 20 = .ok (.iconst 1, 1) := by decide +kernel
theorem d6_isAmount_21 : decode b6_isAmount 21 = .ok (.if_icmp .ne 42, 3) := by decide +kernel
theorem d6_isAmount_24 : decode b6_isAmount 24 = .ok (.iload_n 1, 1) := by decide +kernel
theorem d6_isAmount_25 : decode b6_isAmount 25 = .ok (.ifCond .le 42, 3) := by decide +kernel
theorem d6_isAmount_28 : decode b6_isAmount 28 = .ok (.iload_n 3, 1) := by decide +kernel
theorem d6_isAmount_29 : decode b6_isAmount 29 = .ok (.aload_n 0, 1) := by decide +kernel
theorem d6_isAmount_30 : decode b6_isAmount 30 = .ok (.getfield 54, 3) := by decide +kernel
theorem d6_isAmount_33 : decode b6_isAmount 33 = .ok (.if_icmp .le 34, 3) := by decide +kernel
theorem d6_isAmount_36 : decode b6_isAmount 36 = .ok (.aload_n 0, 1) := by decide +kernel
theorem d6_isAmount_37 : decode b6_isAmount 37 = .ok (.iload_n 2, 1) := by decide +kernel
theorem d6_isAmount_38 : decode b6_isAmount 38 = .ok (.invokevirtual 101, 3) := by decide +kernel
theorem d6_isAmount_41 : decode b6_isAmount 41 = .ok (.ifCond .eq 26, 3) := by decide +kernel
theorem d6_isAmount_44 : decode b6_isAmount 44 = .ok (.aload_n 0, 1) := by decide +kernel
theorem d6_isAmount_45 : decode b6_isAmount 45 = .ok (.getfield 23, 3) := by decide +kernel
theorem d6_isAmount_48 : decode b6_isAmount 48 = .ok (.aload_n 0, 1) := by decide +kernel
theorem d6_isAmount_49 : decode b6_isAmount 49 = .ok (.getfield 36, 3) := by decide +kernel
theorem d6_isAmount_52 : decode b6_isAmount 52 = .ok (.getfield 165, 3) := by decide +kernel
theorem d6_isAmount_55 : decode b6_isAmount 55 = .ok (.aaload, 1) := by decide +kernel
theorem d6_isAmount_56 : decode b6_isAmount 56 = .ok (.iload_n 2, 1) := by decide +kernel
theorem d6_isAmount_57 : decode b6_isAmount 57 = .ok (.invokevirtual 293, 3) := by decide +kernel
theorem d6_isAmount_60 : decode b6_isAmount 60 = .ok (.ifCond .eq 7, 3) := by decide +kernel
theorem d6_isAmount_63 : decode b6_isAmount 63 = .ok (.iconst 1, 1) := by decide +kernel
theorem d6_isAmount_64 : decode b6_isAmount 64 = .ok (.goto 4, 3) := by decide +kernel
theorem d6_isAmount_67 : decode b6_isAmount 67 = .ok (.iconst 0, 1) := by decide +kernel
theorem d6_isAmount_68 : decode b6_isAmount 68 = .ok (.ireturn, 1) := by decide +kernel
theorem d6_letIn_0 : decode b6_letIn 0 = .ok (.aload_n 1, 1) := by decide +kernel
theorem d6_letIn_1 : decode b6_letIn 1 = .ok (.iload_n 3, 1) := by decide +kernel
theorem d6_letIn_2 : decode b6_letIn 2 = .ok (.putfield 155, 3) := by decide +kernel
theorem d6_letIn_5 : decode b6_letIn 5 = .ok (.aload_n 1, 1) := by decide +kernel
theorem d6_letIn_6 : decode b6_letIn 6 = .ok (.iload_n 2, 1) := by decide +kernel
theorem d6_letIn_7 : decode b6_letIn 7 = .ok (.iload 4, 2) := by decide +kernel
theorem d6_letIn_9 : decode b6_letIn 9 = .ok (.invokevirtual 296, 3) := by decide +kernel
theorem d6_letIn_12 : decode b6_letIn 12 = .ok (.aload_n 0, 1) := by decide +kernel
theorem d6_letIn_13 : decode b6_letIn 13 = .ok (.getfield 43, 3) := by decide +kernel
theorem d6_letIn_16 : decode b6_letIn 16 = .ok (.iconst 1, 1) := by decide +kernel
theorem d6_letIn_17 : decode b6_letIn 17 = .ok (.aload_n 0, 1) := by decide +kernel
theorem d6_letIn_18 : decode b6_letIn 18 = .ok (.getfield 54, 3) := by decide +kernel
theorem d6_letIn_21 : decode b6_letIn 21 = .ok (.aload_n 0, 1) := by decide +kernel
theorem d6_letIn_22 : decode b6_letIn 22 = .ok (.getfield 58, 3) := by decide +kernel
theorem d6_letIn_25 : decode b6_letIn 25 = .ok (.aload_n 0, 1) := by decide +kernel
theorem d6_letIn_26 : decode b6_letIn 26 = .ok (.getfield 36, 3) := by decide +kernel
theorem d6_letIn_29 : decode b6_letIn 29 = .ok (.getfield 165, 3) := by decide +kernel
theorem d6_letIn_32 : decode b6_letIn 32 = .ok (.iload_n 2, 1) := by decide +kernel
theorem d6_letIn_33 : decode b6_letIn 33 = .ok (.iconst (-1), 1) := by decide +kernel
theorem d6_letIn_34 : decode b6_letIn 34 = .ok (.invokevirtual 177, 3) := by decide +kernel
theorem d6_letIn_37 : decode b6_letIn 37 = .ok (.return_, 1) := by decide +kernel
theorem d6_takeOut_0 : decode b6_takeOut 0 = .ok (.aload_n 1, 1) := by decide +kernel
theorem d6_takeOut_1 : decode b6_takeOut 1 = .ok (.iload_n 2, 1) := by decide +kernel
theorem d6_takeOut_2 : decode b6_takeOut 2 = .ok (.aload_n 1, 1) := by decide +kernel
theorem d6_takeOut_3 : decode b6_takeOut 3 = .ok (.aload_n 0, 1) := by decide +kernel
theorem d6_takeOut_4 : decode b6_takeOut 4 = .ok (.getfield 54, 3) := by decide +kernel
theorem d6_takeOut_7 : decode b6_takeOut 7 = .ok (.invokevirtual 290, 3) := by decide +kernel
theorem d6_takeOut_10 : decode b6_takeOut 10 = .ok (.invokevirtual 299, 3) := by decide +kernel
theorem d6_takeOut_13 : decode b6_takeOut 13 = .ok (.aload_n 0, 1) := by decide +kernel
theorem d6_takeOut_14 : decode b6_takeOut 14 = .ok (.getfield 29, 3) := by decide +kernel
theorem d6_takeOut_17 : decode b6_takeOut 17 = .ok (.aload_n 0, 1) := by decide +kernel
theorem d6_takeOut_18 : decode b6_takeOut 18 = .ok (.getfield 36, 3) := by decide +kernel
theorem d6_takeOut_21 : decode b6_takeOut 21 = .ok (.getfield 114, 3) := by decide +kernel
theorem d6_takeOut_24 : decode b6_takeOut 24 = .ok (.aaload, 1) := by decide +kernel
theorem d6_takeOut_25 : decode b6_takeOut 25 = .ok (.iload_n 2, 1) := by decide +kernel
theorem d6_takeOut_26 : decode b6_takeOut 26 = .ok (.aload_n 0, 1) := by decide +kernel
theorem d6_takeOut_27 : decode b6_takeOut 27 = .ok (.getfield 54, 3) := by decide +kernel
theorem d6_takeOut_30 : decode b6_takeOut 30 = .ok (.invokevirtual 302, 3) := by decide +kernel
theorem d6_takeOut_33 : decode b6_takeOut 33 = .ok (.aload_n 0, 1) := by decide +kernel
theorem d6_takeOut_34 : decode b6_takeOut 34 = .ok (.getfield 43, 3) := by decide +kernel
theorem d6_takeOut_37 : decode b6_takeOut 37 = .ok (.iconst 2, 1) := by decide +kernel
theorem d6_takeOut_38 : decode b6_takeOut 38 = .ok (.aload_n 0, 1) := by decide +kernel
theorem d6_takeOut_39 : decode b6_takeOut 39 = .ok (.getfield 54, 3) := by decide +kernel
theorem d6_takeOut_42 : decode b6_takeOut 42 = .ok (.aload_n 0, 1) := by decide +kernel
theorem d6_takeOut_43 : decode b6_takeOut 43 = .ok (.getfield 58, 3) := by decide +kernel
theorem d6_takeOut_46 : decode b6_takeOut 46 = .ok (.aload_n 0, 1) := by decide +kernel
theorem d6_takeOut_47 : decode b6_takeOut 47 = .ok (.getfield 36, 3) := by decide +kernel
theorem d6_takeOut_50 : decode b6_takeOut 50 = .ok (.getfield 165, 3) := by decide +kernel
theorem d6_takeOut_53 : decode b6_takeOut 53 = .ok (.iload_n 2, 1) := by decide +kernel
theorem d6_takeOut_54 : decode b6_takeOut 54 = .ok (.aload_n 0, 1) := by decide +kernel
theorem d6_takeOut_55 : decode b6_takeOut 55 = .ok (.getfield 36, 3) := by decide +kernel
theorem d6_takeOut_58 : decode b6_takeOut 58 = .ok (.getfield 114, 3) := by decide +kernel
theorem d6_takeOut_61 : decode b6_takeOut 61 = .ok (.invokevirtual 177, 3) := by decide +kernel
theorem d6_takeOut_64 : decode b6_takeOut 64 = .ok (.return_, 1) := by decide +kernel
theorem d6_wasteFrom_0 : decode b6_wasteFrom 0 = .ok (.aload_n 1, 1) := by decide +kernel
theorem d6_wasteFrom_1 : decode b6_wasteFrom 1 = .ok (.iload_n 2, 1) := by decide +kernel
theorem d6_wasteFrom_2 : decode b6_wasteFrom 2 = .ok (.iconst 0, 1) := by decide +kernel
theorem d6_wasteFrom_3 : decode b6_wasteFrom 3 = .ok (.invokevirtual 299, 3) := by decide +kernel
theorem d6_wasteFrom_6 : decode b6_wasteFrom 6 = .ok (.aload_n 0, 1) := by decide +kernel
theorem d6_wasteFrom_7 : decode b6_wasteFrom 7 = .ok (.getfield 43, 3) := by decide +kernel
theorem d6_wasteFrom_10 : decode b6_wasteFrom 10 = .ok (.iconst 4, 1) := by decide +kernel
theorem d6_wasteFrom_11 : decode b6_wasteFrom 11 = .ok (.aload_n 0, 1) := by decide +kernel
theorem d6_wasteFrom_12 : decode b6_wasteFrom 12 = .ok (.getfield 54, 3) := by decide +kernel
theorem d6_wasteFrom_15 : decode b6_wasteFrom 15 = .ok (.aload_n 0, 1) := by decide +kernel
theorem d6_wasteFrom_16 : decode b6_wasteFrom 16 = .ok (.getfield 58, 3) := by decide +kernel
theorem d6_wasteFrom_19 : decode b6_wasteFrom 19 = .ok (.aload_n 0, 1) := by decide +kernel
theorem d6_wasteFrom_20 : decode b6_wasteFrom 20 = .ok (.getfield 36, 3) := by decide +kernel
theorem d6_wasteFrom_23 : decode b6_wasteFrom 23 = .ok (.getfield 165, 3) := by decide +kernel
theorem d6_wasteFrom_26 : decode b6_wasteFrom 26 = .ok (.iload_n 2, 1) := by decide +kernel
theorem d6_wasteFrom_27 : decode b6_wasteFrom 27 = .ok (.iconst (-1), 1) := by decide +kernel
theorem d6_wasteFrom_28 : decode b6_wasteFrom 28 = .ok (.invokevirtual 177, 3) := by decide +kernel
theorem d6_wasteFrom_31 : decode b6_wasteFrom 31 = .ok (.return_, 1) := by decide +kernel
theorem d6_refusalWithoutStep_0 : decode b6_refusalWithoutStep 0 = .ok (.aload_n 0, 1) := by decide +kernel
theorem d6_refusalWithoutStep_1 : decode b6_refusalWithoutStep 1 = .ok (.getfield 58, 3) := by decide +kernel
theorem d6_refusalWithoutStep_4 : decode b6_refusalWithoutStep 4 = .ok (.iconst (-1), 1) := by decide +kernel
theorem d6_refusalWithoutStep_5 : decode b6_refusalWithoutStep 5 = .ok (.if_icmp .ne 6, 3) := by decide +kernel
theorem d6_refusalWithoutStep_8 : decode b6_refusalWithoutStep 8 = .ok (.bipush (-2), 2) := by decide +kernel
theorem d6_refusalWithoutStep_10 : decode b6_refusalWithoutStep 10 = .ok (.ireturn, 1) := by decide +kernel
theorem d6_refusalWithoutStep_11 : decode b6_refusalWithoutStep 11 = .ok (.aload_n 0, 1) := by decide +kernel
theorem d6_refusalWithoutStep_12 : decode b6_refusalWithoutStep 12 = .ok (.invokevirtual 130, 3) := by decide +kernel
theorem d6_refusalWithoutStep_15 : decode b6_refusalWithoutStep 15 = .ok (.ifCond .ne 6, 3) := by decide +kernel
theorem d6_refusalWithoutStep_18 : decode b6_refusalWithoutStep 18 = .ok (.bipush (-3), 2) := by decide +kernel
theorem d6_refusalWithoutStep_20 : decode b6_refusalWithoutStep 20 = .ok (.ireturn, 1) := by decide +kernel
theorem d6_refusalWithoutStep_21 : decode b6_refusalWithoutStep 21 = .ok (.aload_n 0, 1) := by decide +kernel
theorem d6_refusalWithoutStep_22 : decode b6_refusalWithoutStep 22 = .ok (.getfield 36, 3) := by decide +kernel
theorem d6_refusalWithoutStep_25 : decode b6_refusalWithoutStep 25 = .ok (.invokevirtual 87, 3) := by decide +kernel
theorem d6_refusalWithoutStep_28 : decode b6_refusalWithoutStep 28 = .ok (.ifCond .eq 6, 3) := by decide +kernel
theorem d6_refusalWithoutStep_31 : decode b6_refusalWithoutStep 31 = .ok (.bipush (-4), 2) := by decide +kernel
theorem d6_refusalWithoutStep_33 : decode b6_refusalWithoutStep 33 = .ok (.ireturn, 1) := by decide +kernel
theorem d6_refusalWithoutStep_34 : decode b6_refusalWithoutStep 34 = .ok (.iload_n 1, 1) := by decide +kernel
theorem d6_refusalWithoutStep_35 : decode b6_refusalWithoutStep 35 = .ok (.ifCond .eq 14, 3) := by decide +kernel
theorem d6_refusalWithoutStep_38 : decode b6_refusalWithoutStep 38 = .ok (.aload_n 0, 1) := by decide +kernel
theorem d6_refusalWithoutStep_39 : decode b6_refusalWithoutStep 39 = .ok (.getfield 64, 3) := by decide +kernel
theorem d6_refusalWithoutStep_42 : decode b6_refusalWithoutStep 42 = .ok (.iconst (-1), 1) := by decide +kernel
theorem d6_refusalWithoutStep_43 : decode b6_refusalWithoutStep 43 = .ok (.if_icmp .ne 6, 3) := by decide +kernel
theorem d6_refusalWithoutStep_46 : decode b6_refusalWithoutStep 46 = .ok (.bipush (-5), 2) := by decide +kernel
theorem d6_refusalWithoutStep_48 : decode b6_refusalWithoutStep 48 = .ok (.ireturn, 1) := by decide +kernel
theorem d6_refusalWithoutStep_49 : decode b6_refusalWithoutStep 49 = .ok (.aload_n 0, 1) := by decide +kernel
theorem d6_refusalWithoutStep_50 : decode b6_refusalWithoutStep 50 = .ok (.getfield 43, 3) := by decide +kernel
theorem d6_refusalWithoutStep_53 : decode b6_refusalWithoutStep 53 = .ok (.getfield 146, 3) := by decide +kernel
theorem d6_refusalWithoutStep_56 : decode b6_refusalWithoutStep 56 = .ok (.sipush 290, 3) := by decide +kernel
theorem d6_refusalWithoutStep_59 : decode b6_refusalWithoutStep 59 = .ok (.if_icmp .lt 8, 3) := by decide +kernel
theorem d6_refusalWithoutStep_62 : decode b6_refusalWithoutStep 62 = .ok (.bipush (-8), 2) := by decide +kernel
theorem d6_refusalWithoutStep_64 : decode b6_refusalWithoutStep 64 = .ok (.goto 4, 3) := by decide +kernel
theorem d6_refusalWithoutStep_67 : decode b6_refusalWithoutStep 67 = .ok (.iconst 0, 1) := by decide +kernel
theorem d6_refusalWithoutStep_68 : decode b6_refusalWithoutStep 68 = .ok (.ireturn, 1) := by decide +kernel
theorem d6_isMismatch_0 : decode b6_isMismatch 0 = .ok (.aload_n 1, 1) := by decide +kernel
theorem d6_isMismatch_1 : decode b6_isMismatch 1 = .ok (.getfield 174, 3) := by decide +kernel
theorem d6_isMismatch_4 : decode b6_isMismatch 4 = .ok (.ifCond .ne 21, 3) := by decide +kernel
theorem d6_isMismatch_7 : decode b6_isMismatch 7 = .ok (.aload_n 0, 1) := by decide +kernel
theorem d6_isMismatch_8 : decode b6_isMismatch 8 = .ok (.aload_n 1, 1) := by decide +kernel
theorem d6_isMismatch_9 : decode b6_isMismatch 9 = .ok (.getfield 155, 3) := by decide +kernel
theorem d6_isMismatch_12 : decode b6_isMismatch 12 = .ok (.invokevirtual 156, 3) := by decide +kernel
theorem d6_isMismatch_15 : decode b6_isMismatch 15 = .ok (.ifCond .eq 14, 3) := by decide +kernel
theorem d6_isMismatch_18 : decode b6_isMismatch 18 = .ok (.aload_n 1, 1) := by decide +kernel
theorem d6_isMismatch_19 : decode b6_isMismatch 19 = .ok (.getfield 229, 3) := by decide +kernel
theorem d6_isMismatch_22 : decode b6_isMismatch 22 = .ok (.ifCond .ne 7, 3) := by decide +kernel
theorem d6_isMismatch_25 : decode b6_isMismatch 25 = .ok (.iconst 1, 1) := by decide +kernel
theorem d6_isMismatch_26 : decode b6_isMismatch 26 = .ok (.goto 4, 3) := by decide +kernel
theorem d6_isMismatch_29 : decode b6_isMismatch 29 = .ok (.iconst 0, 1) := by decide +kernel
theorem d6_isMismatch_30 : decode b6_isMismatch 30 = .ok (.ireturn, 1) := by decide +kernel
theorem d6_givenOf_0 : decode b6_givenOf 0 = .ok (.iconst 0, 1) := by decide +kernel
theorem d6_givenOf_1 : decode b6_givenOf 1 = .ok (.istore_n 2, 1) := by decide +kernel
theorem d6_givenOf_2 : decode b6_givenOf 2 = .ok (.iconst 0, 1) := by decide +kernel
theorem d6_givenOf_3 : decode b6_givenOf 3 = .ok (.istore_n 3, 1) := by decide +kernel
theorem d6_givenOf_4 : decode b6_givenOf 4 = .ok (.iload_n 3, 1) := by decide +kernel
theorem d6_givenOf_5 : decode b6_givenOf 5 = .ok (.bipush 64, 2) := by decide +kernel
theorem d6_givenOf_7 : decode b6_givenOf 7 = .ok (.if_icmp .ge 38, 3) := by decide +kernel
theorem d6_givenOf_10 : decode b6_givenOf 10 = .ok (.aload_n 0, 1) := by decide +kernel
theorem d6_givenOf_11 : decode b6_givenOf 11 = .ok (.getfield 23, 3) := by decide +kernel
theorem d6_givenOf_14 : decode b6_givenOf 14 = .ok (.iload_n 3, 1) := by decide +kernel
theorem d6_givenOf_15 : decode b6_givenOf 15 = .ok (.aaload, 1) := by decide +kernel
theorem d6_givenOf_16 : decode b6_givenOf 16 = .ok (.getfield 155, 3) := by decide +kernel
theorem d6_givenOf_19 : decode b6_givenOf 19 = .ok (.iload_n 1, 1) := by decide +kernel
theorem d6_givenOf_20 : decode b6_givenOf 20 = .ok (.if_icmp .ne 19, 3) := by decide +kernel
theorem d6_givenOf_23 : decode b6_givenOf 23 = .ok (.iload_n 2, 1) := by decide +kernel
theorem d6_givenOf_24 : decode b6_givenOf 24 = .ok (.aload_n 0, 1) := by decide +kernel
theorem d6_givenOf_25 : decode b6_givenOf 25 = .ok (.getfield 23, 3) := by decide +kernel
theorem d6_givenOf_28 : decode b6_givenOf 28 = .ok (.iload_n 3, 1) := by decide +kernel
theorem d6_givenOf_29 : decode b6_givenOf 29 = .ok (.aaload, 1) := by decide +kernel
theorem d6_givenOf_30 : decode b6_givenOf 30 = .ok (.aload_n 0, 1) := by decide +kernel
theorem d6_givenOf_31 : decode b6_givenOf 31 = .ok (.getfield 54, 3) := by decide +kernel
theorem d6_givenOf_34 : decode b6_givenOf 34 = .ok (.invokevirtual 191, 3) := by decide +kernel
theorem d6_givenOf_37 : decode b6_givenOf 37 = .ok (.iadd, 1) := by decide +kernel
theorem d6_givenOf_38 : decode b6_givenOf 38 = .ok (.istore_n 2, 1) := by decide +kernel
theorem d6_givenOf_39 : decode b6_givenOf 39 = .ok (.iinc 3 1, 3) := by decide +kernel
theorem d6_givenOf_42 : decode b6_givenOf 42 = .ok (.goto (-38), 3) := by decide +kernel
theorem d6_givenOf_45 : decode b6_givenOf 45 = .ok (.iload_n 2, 1) := by decide +kernel
theorem d6_givenOf_46 : decode b6_givenOf 46 = .ok (.ireturn, 1) := by decide +kernel
theorem d6_belowPar_0 : decode b6_belowPar 0 = .ok (.iconst 0, 1) := by decide +kernel
theorem d6_belowPar_1 : decode b6_belowPar 1 = .ok (.aload_n 0, 1) := by decide +kernel
theorem d6_belowPar_2 : decode b6_belowPar 2 = .ok (.getfield 17, 3) := by decide +kernel
theorem d6_belowPar_5 : decode b6_belowPar 5 = .ok (.iload_n 1, 1) := by decide +kernel
theorem d6_belowPar_6 : decode b6_belowPar 6 = .ok (.aaload, 1) := by decide +kernel
theorem d6_belowPar_7 : decode b6_belowPar 7 = .ok (.getfield 305, 3) := by decide +kernel
theorem d6_belowPar_10 : decode b6_belowPar 10 = .ok (.aload_n 0, 1) := by decide +kernel
theorem d6_belowPar_11 : decode b6_belowPar 11 = .ok (.iload_n 1, 1) := by decide +kernel
theorem d6_belowPar_12 : decode b6_belowPar 12 = .ok (.invokevirtual 239, 3) := by decide +kernel
theorem d6_belowPar_15 : decode b6_belowPar 15 = .ok (.isub, 1) := by decide +kernel
theorem d6_belowPar_16 : decode b6_belowPar 16 = .ok (.invokestatic 308, 3) := by decide +kernel
theorem d6_belowPar_19 : decode b6_belowPar 19 = .ok (.ireturn, 1) := by decide +kernel
theorem d6_isAnyLocked_0 : decode b6_isAnyLocked 0 = .ok (.iconst 0, 1) := by decide +kernel
theorem d6_isAnyLocked_1 : decode b6_isAnyLocked 1 = .ok (.istore_n 1, 1) := by decide +kernel
theorem d6_isAnyLocked_2 : decode b6_isAnyLocked 2 = .ok (.iload_n 1, 1) := by decide +kernel
theorem d6_isAnyLocked_3 : decode b6_isAnyLocked 3 = .ok (.bipush 16, 2) := by decide +kernel
theorem d6_isAnyLocked_5 : decode b6_isAnyLocked 5 = .ok (.if_icmp .ge 35, 3) := by decide +kernel
theorem d6_isAnyLocked_8 : decode b6_isAnyLocked 8 = .ok (.aload_n 0, 1) := by decide +kernel
theorem d6_isAnyLocked_9 : decode b6_isAnyLocked 9 = .ok (.iload_n 1, 1) := by decide +kernel
theorem d6_isAnyLocked_10 : decode b6_isAnyLocked 10 = .ok (.invokevirtual 83, 3) := by decide +kernel
theorem d6_isAnyLocked_13 : decode b6_isAnyLocked 13 = .ok (.ifCond .eq 21, 3) := by decide +kernel
theorem d6_isAnyLocked_16 : decode b6_isAnyLocked 16 = .ok (.aload_n 0, 1) := by decide +kernel
theorem d6_isAnyLocked_17 : decode b6_isAnyLocked 17 = .ok (.getfield 11, 3) := by decide +kernel
theorem d6_isAnyLocked_20 : decode b6_isAnyLocked 20 = .ok (.iload_n 1, 1) := by decide +kernel
theorem d6_isAnyLocked_21 : decode b6_isAnyLocked 21 = .ok (.aaload, 1) := by decide +kernel
theorem d6_isAnyLocked_22 : decode b6_isAnyLocked 22 = .ok (.aload_n 0, 1) := by decide +kernel
theorem d6_isAnyLocked_23 : decode b6_isAnyLocked 23 = .ok (.getfield 54, 3) := by decide +kernel
theorem d6_isAnyLocked_26 : decode b6_isAnyLocked 26 = .ok (.invokevirtual 278, 3) := by decide +kernel
theorem d6_isAnyLocked_29 : decode b6_isAnyLocked 29 = .ok (.ifCond .eq 5, 3) := by decide +kernel
theorem d6_isAnyLocked_32 : decode b6_isAnyLocked 32 = .ok (.iconst 1, 1) := by decide +kernel
theorem d6_isAnyLocked_33 : decode b6_isAnyLocked 33 = .ok (.ireturn, 1) := by decide +kernel
theorem d6_isAnyLocked_34 : decode b6_isAnyLocked 34 = .ok (.iinc 1 1, 3) := by decide +kernel
theorem d6_isAnyLocked_37 : decode b6_isAnyLocked 37 = .ok (.goto (-35), 3) := by decide +kernel
theorem d6_isAnyLocked_40 : decode b6_isAnyLocked 40 = .ok (.iconst 0, 1) := by decide +kernel
theorem d6_isAnyLocked_41 : decode b6_isAnyLocked 41 = .ok (.ireturn, 1) := by decide +kernel
theorem d6_isAnyLotExpired_0 : decode b6_isAnyLotExpired 0 = .ok (.iconst 0, 1) := by decide +kernel
theorem d6_isAnyLotExpired_1 : decode b6_isAnyLotExpired 1 = .ok (.istore_n 1, 1) := by decide +kernel
theorem d6_isAnyLotExpired_2 : decode b6_isAnyLotExpired 2 = .ok (.iload_n 1, 1) := by decide +kernel
theorem d6_isAnyLotExpired_3 : decode b6_isAnyLotExpired 3 = .ok (.bipush 64, 2) := by decide +kernel
theorem d6_isAnyLotExpired_5 : decode b6_isAnyLotExpired 5 = .ok (.if_icmp .ge 27, 3) := by decide +kernel
theorem d6_isAnyLotExpired_8 : decode b6_isAnyLotExpired 8 = .ok (.aload_n 0, 1) := by decide +kernel
theorem d6_isAnyLotExpired_9 : decode b6_isAnyLotExpired 9 = .ok (.getfield 23, 3) := by decide +kernel
theorem d6_isAnyLotExpired_12 : decode b6_isAnyLotExpired 12 = .ok (.iload_n 1, 1) := by decide +kernel
theorem d6_isAnyLotExpired_13 : decode b6_isAnyLotExpired 13 = .ok (.aaload, 1) := by decide +kernel
theorem d6_isAnyLotExpired_14 : decode b6_isAnyLotExpired 14 = .ok (.aload_n 0, 1) := by decide +kernel
theorem d6_isAnyLotExpired_15 : decode b6_isAnyLotExpired 15 = .ok (.getfield 54, 3) := by decide +kernel
theorem d6_isAnyLotExpired_18 : decode b6_isAnyLotExpired 18 = .ok (.invokevirtual 290, 3) := by decide +kernel
theorem d6_isAnyLotExpired_21 : decode b6_isAnyLotExpired 21 = .ok (.ifCond .le 5, 3) := by decide +kernel
theorem d6_isAnyLotExpired_24 : decode b6_isAnyLotExpired 24 = .ok (.iconst 1, 1) := by decide +kernel
theorem d6_isAnyLotExpired_25 : decode b6_isAnyLotExpired 25 = .ok (.ireturn, 1) := by decide +kernel
theorem d6_isAnyLotExpired_26 : decode b6_isAnyLotExpired 26 = .ok (.iinc 1 1, 3) := by decide +kernel
theorem d6_isAnyLotExpired_29 : decode b6_isAnyLotExpired 29 = .ok (.goto (-27), 3) := by decide +kernel
theorem d6_isAnyLotExpired_32 : decode b6_isAnyLotExpired 32 = .ok (.iconst 0, 1) := by decide +kernel
theorem d6_isAnyLotExpired_33 : decode b6_isAnyLotExpired 33 = .ok (.ireturn, 1) := by decide +kernel
