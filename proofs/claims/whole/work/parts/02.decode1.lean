theorem dX0_init_0 : decode cX0_init 0 = .ok (.aload_n 0, 1) := by decide +kernel
theorem dX0_init_1 : decode cX0_init 1 = .ok (.invokespecial 3, 3) := by decide +kernel
theorem dX0_init_4 : decode cX0_init 4 = .ok (.aload_n 0, 1) := by decide +kernel
theorem dX0_init_5 : decode cX0_init 5 = .ok (.bipush 60, 2) := by decide +kernel
theorem dX0_init_7 : decode cX0_init 7 = .ok (.newarray .int, 2) := by decide +kernel
theorem dX0_init_9 : decode cX0_init 9 = .ok (.putfield 9, 3) := by decide +kernel
theorem dX0_init_12 : decode cX0_init 12 = .ok (.aload_n 0, 1) := by decide +kernel
theorem dX0_init_13 : decode cX0_init 13 = .ok (.bipush 60, 2) := by decide +kernel
theorem dX0_init_15 : decode cX0_init 15 = .ok (.newarray .int, 2) := by decide +kernel
theorem dX0_init_17 : decode cX0_init 17 = .ok (.putfield 15, 3) := by decide +kernel
theorem dX0_init_20 : decode cX0_init 20 = .ok (.aload_n 0, 1) := by decide +kernel
theorem dX0_init_21 : decode cX0_init 21 = .ok (.bipush 60, 2) := by decide +kernel
theorem dX0_init_23 : decode cX0_init 23 = .ok (.newarray .int, 2) := by decide +kernel
theorem dX0_init_25 : decode cX0_init 25 = .ok (.putfield 18, 3) := by decide +kernel
theorem dX0_init_28 : decode cX0_init 28 = .ok (.aload_n 0, 1) := by decide +kernel
theorem dX0_init_29 : decode cX0_init 29 = .ok (.bipush 60, 2) := by decide +kernel
theorem dX0_init_31 : decode cX0_init 31 = .ok (.newarray .int, 2) := by decide +kernel
theorem dX0_init_33 : decode cX0_init 33 = .ok (.putfield 21, 3) := by decide +kernel
theorem dX0_init_36 : decode cX0_init 36 = .ok (.aload_n 0, 1) := by decide +kernel
theorem dX0_init_37 : decode cX0_init 37 = .ok (.bipush 60, 2) := by decide +kernel
theorem dX0_init_39 : decode cX0_init 39 = .ok (.newarray .int, 2) := by decide +kernel
theorem dX0_init_41 : decode cX0_init 41 = .ok (.putfield 24, 3) := by decide +kernel
theorem dX0_init_44 : decode cX0_init 44 = .ok (.aload_n 0, 1) := by decide +kernel
theorem dX0_init_45 : decode cX0_init 45 = .ok (.bipush 60, 2) := by decide +kernel
theorem dX0_init_47 : decode cX0_init 47 = .ok (.newarray .int, 2) := by decide +kernel
theorem dX0_init_49 : decode cX0_init 49 = .ok (.putfield 27, 3) := by decide +kernel
theorem dX0_init_52 : decode cX0_init 52 = .ok (.return_, 1) := by decide +kernel
theorem dX0_numberBehind_0 : decode cX0_numberBehind 0 = .ok (.iconst 0, 1) := by decide +kernel
theorem dX0_numberBehind_1 : decode cX0_numberBehind 1 = .ok (.istore_n 2, 1) := by decide +kernel
theorem dX0_numberBehind_2 : decode cX0_numberBehind 2 = .ok (.iload_n 2, 1) := by decide +kernel
theorem dX0_numberBehind_3 : decode cX0_numberBehind 3 = .ok (.aload_n 0, 1) := by decide +kernel
theorem dX0_numberBehind_4 : decode cX0_numberBehind 4 = .ok (.getfield 30, 3) := by decide +kernel
theorem dX0_numberBehind_7 : decode cX0_numberBehind 7 = .ok (.if_icmp .ge 19, 3) := by decide +kernel
theorem dX0_numberBehind_10 : decode cX0_numberBehind 10 = .ok (.aload_n 0, 1) := by decide +kernel
theorem dX0_numberBehind_11 : decode cX0_numberBehind 11 = .ok (.getfield 9, 3) := by decide +kernel
theorem dX0_numberBehind_14 : decode cX0_numberBehind 14 = .ok (.iload_n 2, 1) := by decide +kernel
theorem dX0_numberBehind_15 : decode cX0_numberBehind 15 = .ok (.iaload, 1) := by decide +kernel
theorem dX0_numberBehind_16 : decode cX0_numberBehind 16 = .ok (.iload_n 1, 1) := by decide +kernel
theorem dX0_numberBehind_17 : decode cX0_numberBehind 17 = .ok (.if_icmp .gt 9, 3) := by decide +kernel
theorem dX0_numberBehind_20 : decode cX0_numberBehind 20 = .ok (.iinc 2 1, 3) := by decide +kernel
theorem dX0_numberBehind_23 : decode cX0_numberBehind 23 = .ok (.goto (-21), 3) := by decide +kernel
theorem dX0_numberBehind_26 : decode cX0_numberBehind 26 = .ok (.iload_n 2, 1) := by decide +kernel
theorem dX0_numberBehind_27 : decode cX0_numberBehind 27 = .ok (.ireturn, 1) := by decide +kernel
theorem dX0_insert_0 : decode cX0_insert 0 = .ok (.aload_n 0, 1) := by decide +kernel
theorem dX0_insert_1 : decode cX0_insert 1 = .ok (.aload_n 0, 1) := by decide +kernel
theorem dX0_insert_2 : decode cX0_insert 2 = .ok (.getfield 9, 3) := by decide +kernel
theorem dX0_insert_5 : decode cX0_insert 5 = .ok (.iload_n 1, 1) := by decide +kernel
theorem dX0_insert_6 : decode cX0_insert 6 = .ok (.invokevirtual 34, 3) := by decide +kernel
theorem dX0_insert_9 : decode cX0_insert 9 = .ok (.aload_n 0, 1) := by decide +kernel
theorem dX0_insert_10 : decode cX0_insert 10 = .ok (.aload_n 0, 1) := by decide +kernel
theorem dX0_insert_11 : decode cX0_insert 11 = .ok (.getfield 15, 3) := by decide +kernel
theorem dX0_insert_14 : decode cX0_insert 14 = .ok (.iload_n 1, 1) := by decide +kernel
theorem dX0_insert_15 : decode cX0_insert 15 = .ok (.invokevirtual 34, 3) := by decide +kernel
theorem dX0_insert_18 : decode cX0_insert 18 = .ok (.aload_n 0, 1) := by decide +kernel
theorem dX0_insert_19 : decode cX0_insert 19 = .ok (.aload_n 0, 1) := by decide +kernel
theorem dX0_insert_20 : decode cX0_insert 20 = .ok (.getfield 18, 3) := by decide +kernel
theorem dX0_insert_23 : decode cX0_insert 23 = .ok (.iload_n 1, 1) := by decide +kernel
theorem dX0_insert_24 : decode cX0_insert 24 = .ok (.invokevirtual 34, 3) := by decide +kernel
theorem dX0_insert_27 : decode cX0_insert 27 = .ok (.aload_n 0, 1) := by decide +kernel
theorem dX0_insert_28 : decode cX0_insert 28 = .ok (.aload_n 0, 1) := by decide +kernel
theorem dX0_insert_29 : decode cX0_insert 29 = .ok (.getfield 21, 3) := by decide +kernel
theorem dX0_insert_32 : decode cX0_insert 32 = .ok (.iload_n 1, 1) := by decide +kernel
theorem dX0_insert_33 : decode cX0_insert 33 = .ok (.invokevirtual 34, 3) := by decide +kernel
theorem dX0_insert_36 : decode cX0_insert 36 = .ok (.aload_n 0, 1) := by decide +kernel
theorem dX0_insert_37 : decode cX0_insert 37 = .ok (.aload_n 0, 1) := by decide +kernel
theorem dX0_insert_38 : decode cX0_insert 38 = .ok (.getfield 24, 3) := by decide +kernel
theorem dX0_insert_41 : decode cX0_insert 41 = .ok (.iload_n 1, 1) := by decide +kernel
theorem dX0_insert_42 : decode cX0_insert 42 = .ok (.invokevirtual 34, 3) := by decide +kernel
theorem dX0_insert_45 : decode cX0_insert 45 = .ok (.aload_n 0, 1) := by decide +kernel
theorem dX0_insert_46 : decode cX0_insert 46 = .ok (.dup, 1) := by decide +kernel
theorem dX0_insert_47 : decode cX0_insert 47 = .ok (.getfield 30, 3) := by decide +kernel
theorem dX0_insert_50 : decode cX0_insert 50 = .ok (.iconst 1, 1) := by decide +kernel
theorem dX0_insert_51 : decode cX0_insert 51 = .ok (.iadd, 1) := by decide +kernel
theorem dX0_insert_52 : decode cX0_insert 52 = .ok (.putfield 30, 3) := by decide +kernel
theorem dX0_insert_55 : decode cX0_insert 55 = .ok (.aload_n 0, 1) := by decide +kernel
theorem dX0_insert_56 : decode cX0_insert 56 = .ok (.getfield 9, 3) := by decide +kernel
theorem dX0_insert_59 : decode cX0_insert 59 = .ok (.iload_n 1, 1) := by decide +kernel
theorem dX0_insert_60 : decode cX0_insert 60 = .ok (.iload_n 2, 1) := by decide +kernel
theorem dX0_insert_61 : decode cX0_insert 61 = .ok (.iastore, 1) := by decide +kernel
theorem dX0_insert_62 : decode cX0_insert 62 = .ok (.aload_n 0, 1) := by decide +kernel
theorem dX0_insert_63 : decode cX0_insert 63 = .ok (.getfield 15, 3) := by decide +kernel
theorem dX0_insert_66 : decode cX0_insert 66 = .ok (.iload_n 1, 1) := by decide +kernel
theorem dX0_insert_67 : decode cX0_insert 67 = .ok (.iload_n 3, 1) := by decide +kernel
theorem dX0_insert_68 : decode cX0_insert 68 = .ok (.iastore, 1) := by decide +kernel
theorem dX0_insert_69 : decode cX0_insert 69 = .ok (.aload_n 0, 1) := by decide +kernel
theorem dX0_insert_70 : decode cX0_insert 70 = .ok (.getfield 18, 3) := by decide +kernel
theorem dX0_insert_73 : decode cX0_insert 73 = .ok (.iload_n 1, 1) := by decide +kernel
theorem dX0_insert_74 : decode cX0_insert 74 = .ok (.iconst 0, 1) := by decide +kernel
theorem dX0_insert_75 : decode cX0_insert 75 = .ok (.iastore, 1) := by decide +kernel
theorem dX0_insert_76 : decode cX0_insert 76 = .ok (.aload_n 0, 1) := by decide +kernel
theorem dX0_insert_77 : decode cX0_insert 77 = .ok (.getfield 21, 3) := by decide +kernel
theorem dX0_insert_80 : decode cX0_insert 80 = .ok (.iload_n 1, 1) := by decide +kernel
theorem dX0_insert_81 : decode cX0_insert 81 = .ok (.iload 4, 2) := by decide +kernel
theorem dX0_insert_83 : decode cX0_insert 83 = .ok (.iastore, 1) := by decide +kernel
theorem dX0_insert_84 : decode cX0_insert 84 = .ok (.aload_n 0, 1) := by decide +kernel
theorem dX0_insert_85 : decode cX0_insert 85 = .ok (.getfield 24, 3) := by decide +kernel
theorem dX0_insert_88 : decode cX0_insert 88 = .ok (.iload_n 1, 1) := by decide +kernel
theorem dX0_insert_89 : decode cX0_insert 89 = .ok (.iconst 0, 1) := by decide +kernel
theorem dX0_insert_90 : decode cX0_insert 90 = .ok (.iastore, 1) := by decide +kernel
theorem dX0_insert_91 : decode cX0_insert 91 = .ok (.return_, 1) := by decide +kernel
theorem dX0_openGap_0 : decode cX0_openGap 0 = .ok (.aload_n 1, 1) := by decide +kernel
theorem dX0_openGap_1 : decode cX0_openGap 1 = .ok (.iload_n 2, 1) := by decide +kernel
theorem dX0_openGap_2 : decode cX0_openGap 2 = .ok (.aload_n 1, 1) := by decide +kernel
theorem dX0_openGap_3 : decode cX0_openGap 3 = .ok (.iload_n 2, 1) := by decide +kernel
theorem dX0_openGap_4 : decode cX0_openGap 4 = .ok (.iconst 1, 1) := by decide +kernel
theorem dX0_openGap_5 : decode cX0_openGap 5 = .ok (.iadd, 1) := by decide +kernel
theorem dX0_openGap_6 : decode cX0_openGap 6 = .ok (.aload_n 0, 1) := by decide +kernel
theorem dX0_openGap_7 : decode cX0_openGap 7 = .ok (.getfield 30, 3) := by decide +kernel
theorem dX0_openGap_10 : decode cX0_openGap 10 = .ok (.iload_n 2, 1) := by decide +kernel
theorem dX0_openGap_11 : decode cX0_openGap 11 = .ok (.isub, 1) := by decide +kernel
theorem dX0_openGap_12 : decode cX0_openGap 12 = .ok (.invokestatic 38, 3) := by decide +kernel
theorem dX0_openGap_15 : decode cX0_openGap 15 = .ok (.return_, 1) := by decide +kernel
theorem dX0_remove_0 : decode cX0_remove 0 = .ok (.aload_n 0, 1) := by decide +kernel
theorem dX0_remove_1 : decode cX0_remove 1 = .ok (.dup, 1) := by decide +kernel
theorem dX0_remove_2 : decode cX0_remove 2 = .ok (.getfield 30, 3) := by decide +kernel
theorem dX0_remove_5 : decode cX0_remove 5 = .ok (.iconst 1, 1) := by decide +kernel
theorem dX0_remove_6 : decode cX0_remove 6 = .ok (.isub, 1) := by decide +kernel
theorem dX0_remove_7 : decode cX0_remove 7 = .ok (.putfield 30, 3) := by decide +kernel
theorem dX0_remove_10 : decode cX0_remove 10 = .ok (.aload_n 0, 1) := by decide +kernel
theorem dX0_remove_11 : decode cX0_remove 11 = .ok (.aload_n 0, 1) := by decide +kernel
theorem dX0_remove_12 : decode cX0_remove 12 = .ok (.getfield 9, 3) := by decide +kernel
theorem dX0_remove_15 : decode cX0_remove 15 = .ok (.iload_n 1, 1) := by decide +kernel
theorem dX0_remove_16 : decode cX0_remove 16 = .ok (.invokevirtual 44, 3) := by decide +kernel
theorem dX0_remove_19 : decode cX0_remove 19 = .ok (.aload_n 0, 1) := by decide +kernel
theorem dX0_remove_20 : decode cX0_remove 20 = .ok (.aload_n 0, 1) := by decide +kernel
theorem dX0_remove_21 : decode cX0_remove 21 = .ok (.getfield 15, 3) := by decide +kernel
theorem dX0_remove_24 : decode cX0_remove 24 = .ok (.iload_n 1, 1) := by decide +kernel
theorem dX0_remove_25 : decode cX0_remove 25 = .ok (.invokevirtual 44, 3) := by decide +kernel
theorem dX0_remove_28 : decode cX0_remove 28 = .ok (.aload_n 0, 1) := by decide +kernel
theorem dX0_remove_29 : decode cX0_remove 29 = .ok (.aload_n 0, 1) := by decide +kernel
theorem dX0_remove_30 : decode cX0_remove 30 = .ok (.getfield 18, 3) := by decide +kernel
theorem dX0_remove_33 : decode cX0_remove 33 = .ok (.iload_n 1, 1) := by decide +kernel
theorem dX0_remove_34 : decode cX0_remove 34 = .ok (.invokevirtual 44, 3) := by decide +kernel
theorem dX0_remove_37 : decode cX0_remove 37 = .ok (.aload_n 0, 1) := by decide +kernel
theorem dX0_remove_38 : decode cX0_remove 38 = .ok (.aload_n 0, 1) := by decide +kernel
theorem dX0_remove_39 : decode cX0_remove 39 = .ok (.getfield 21, 3) := by decide +kernel
theorem dX0_remove_42 : decode cX0_remove 42 = .ok (.iload_n 1, 1) := by decide +kernel
theorem dX0_remove_43 : decode cX0_remove 43 = .ok (.invokevirtual 44, 3) := by decide +kernel
theorem dX0_remove_46 : decode cX0_remove 46 = .ok (.aload_n 0, 1) := by decide +kernel
theorem dX0_remove_47 : decode cX0_remove 47 = .ok (.aload_n 0, 1) := by decide +kernel
theorem dX0_remove_48 : decode cX0_remove 48 = .ok (.getfield 24, 3) := by decide +kernel
theorem dX0_remove_51 : decode cX0_remove 51 = .ok (.iload_n 1, 1) := by decide +kernel
theorem dX0_remove_52 : decode cX0_remove 52 = .ok (.invokevirtual 44, 3) := by decide +kernel
theorem dX0_remove_55 : decode cX0_remove 55 = .ok (.return_, 1) := by decide +kernel
theorem dX0_closeGap_0 : decode cX0_closeGap 0 = .ok (.aload_n 1, 1) := by decide +kernel
theorem dX0_closeGap_1 : decode cX0_closeGap 1 = .ok (.iload_n 2, 1) := by decide +kernel
theorem dX0_closeGap_2 : decode cX0_closeGap 2 = .ok (.iconst 1, 1) := by decide +kernel
theorem dX0_closeGap_3 : decode cX0_closeGap 3 = .ok (.iadd, 1) := by decide +kernel
theorem dX0_closeGap_4 : decode cX0_closeGap 4 = .ok (.aload_n 1, 1) := by decide +kernel
theorem dX0_closeGap_5 : decode cX0_closeGap 5 = .ok (.iload_n 2, 1) := by decide +kernel
theorem dX0_closeGap_6 : decode cX0_closeGap 6 = .ok (.aload_n 0, 1) := by decide +kernel
theorem dX0_closeGap_7 : decode cX0_closeGap 7 = .ok (.getfield 30, 3) := by decide +kernel
theorem dX0_closeGap_10 : decode cX0_closeGap 10 = .ok (.iload_n 2, 1) := by decide +kernel
theorem dX0_closeGap_11 : decode cX0_closeGap 11 = .ok (.isub, 1) := by decide +kernel
theorem dX0_closeGap_12 : decode cX0_closeGap 12 = .ok (.invokestatic 38, 3) := by decide +kernel
theorem dX0_closeGap_15 : decode cX0_closeGap 15 = .ok (.return_, 1) := by decide +kernel
theorem dX0_carry_0 : decode cX0_carry 0 = .ok (.aload_n 0, 1) := by decide +kernel
theorem dX0_carry_1 : decode cX0_carry 1 = .ok (.getfield 21, 3) := by decide +kernel
theorem dX0_carry_4 : decode cX0_carry 4 = .ok (.iload_n 1, 1) := by decide +kernel
theorem dX0_carry_5 : decode cX0_carry 5 = .ok (.iload_n 2, 1) := by decide +kernel
theorem dX0_carry_6 : decode cX0_carry 6 = .ok (.iastore, 1) := by decide +kernel
theorem dX0_carry_7 : decode cX0_carry 7 = .ok (.aload_n 0, 1) := by decide +kernel
theorem dX0_carry_8 : decode cX0_carry 8 = .ok (.getfield 24, 3) := by decide +kernel
theorem dX0_carry_11 : decode cX0_carry 11 = .ok (.iload_n 1, 1) := by decide +kernel
theorem dX0_carry_12 : decode cX0_carry 12 = .ok (.dup2, 1) := by decide +kernel
theorem dX0_carry_13 : decode cX0_carry 13 = .ok (.iaload, 1) := by decide +kernel
theorem dX0_carry_14 : decode cX0_carry 14 = .ok (.iconst 1, 1) := by decide +kernel
theorem dX0_carry_15 : decode cX0_carry 15 = .ok (.iadd, 1) := by decide +kernel
theorem dX0_carry_16 : decode cX0_carry 16 = .ok (.iastore, 1) := by decide +kernel
theorem dX0_carry_17 : decode cX0_carry 17 = .ok (.aload_n 0, 1) := by decide +kernel
theorem dX0_carry_18 : decode cX0_carry 18 = .ok (.dup, 1) := by decide +kernel
theorem dX0_carry_19 : decode cX0_carry 19 = .ok (.getfield 47, 3) := by decide +kernel
theorem dX0_carry_22 : decode cX0_carry 22 = .ok (.iconst 1, 1) := by decide +kernel
theorem dX0_carry_23 : decode cX0_carry 23 = .ok (.iadd, 1) := by decide +kernel
theorem dX0_carry_24 : decode cX0_carry 24 = .ok (.putfield 47, 3) := by decide +kernel
theorem dX0_carry_27 : decode cX0_carry 27 = .ok (.return_, 1) := by decide +kernel
theorem dX0_shareGrowth_0 : decode cX0_shareGrowth 0 = .ok (.aload_n 0, 1) := by decide +kernel
theorem dX0_shareGrowth_1 : decode cX0_shareGrowth 1 = .ok (.iload_n 1, 1) := by decide +kernel
theorem dX0_shareGrowth_2 : decode cX0_shareGrowth 2 = .ok (.invokevirtual 50, 3) := by decide +kernel
theorem dX0_shareGrowth_5 : decode cX0_shareGrowth 5 = .ok (.istore_n 3, 1) := by decide +kernel
theorem dX0_shareGrowth_6 : decode cX0_shareGrowth 6 = .ok (.iload_n 3, 1) := by decide +kernel
theorem dX0_shareGrowth_7 : decode cX0_shareGrowth 7 = .ok (.ifCond .gt 4, 3) := by decide +kernel
theorem dX0_shareGrowth_10 : decode cX0_shareGrowth 10 = .ok (.return_, 1) := by decide +kernel
theorem dX0_shareGrowth_11 : decode cX0_shareGrowth 11 = .ok (.iload_n 2, 1) := by decide +kernel
theorem dX0_shareGrowth_12 : decode cX0_shareGrowth 12 = .ok (.istore 4, 2) := by decide +kernel
theorem dX0_shareGrowth_14 : decode cX0_shareGrowth 14 = .ok (.iconst 0, 1) := by decide +kernel
theorem dX0_shareGrowth_15 : decode cX0_shareGrowth 15 = .ok (.istore 5, 2) := by decide +kernel
theorem dX0_shareGrowth_17 : decode cX0_shareGrowth 17 = .ok (.iload 5, 2) := by decide +kernel
theorem dX0_shareGrowth_19 : decode cX0_shareGrowth 19 = .ok (.aload_n 0, 1) := by decide +kernel
theorem dX0_shareGrowth_20 : decode cX0_shareGrowth 20 = .ok (.getfield 30, 3) := by decide +kernel
theorem dX0_shareGrowth_23 : decode cX0_shareGrowth 23 = .ok (.if_icmp .ge 68, 3) := by decide +kernel
theorem dX0_shareGrowth_26 : decode cX0_shareGrowth 26 = .ok (.aload_n 0, 1) := by decide +kernel
theorem dX0_shareGrowth_27 : decode cX0_shareGrowth 27 = .ok (.getfield 9, 3) := by decide +kernel
theorem dX0_shareGrowth_30 : decode cX0_shareGrowth 30 = .ok (.iload 5, 2) := by decide +kernel
theorem dX0_shareGrowth_32 : decode cX0_shareGrowth 32 = .ok (.iaload, 1) := by decide +kernel
theorem dX0_shareGrowth_33 : decode cX0_shareGrowth 33 = .ok (.iload_n 1, 1) := by decide +kernel
theorem dX0_shareGrowth_34 : decode cX0_shareGrowth 34 = .ok (.if_icmp .ne 51, 3) := by decide +kernel
theorem dX0_shareGrowth_37 : decode cX0_shareGrowth 37 = .ok (.aload_n 0, 1) := by decide +kernel
theorem dX0_shareGrowth_38 : decode cX0_shareGrowth 38 = .ok (.getfield 18, 3) := by decide +kernel
theorem dX0_shareGrowth_41 : decode cX0_shareGrowth 41 = .ok (.iload 5, 2) := by decide +kernel
theorem dX0_shareGrowth_43 : decode cX0_shareGrowth 43 = .ok (.iload_n 2, 1) := by decide +kernel
theorem dX0_shareGrowth_44 : decode cX0_shareGrowth 44 = .ok (.aload_n 0, 1) := by decide +kernel
theorem dX0_shareGrowth_45 : decode cX0_shareGrowth 45 = .ok (.getfield 15, 3) := by decide +kernel
theorem dX0_shareGrowth_48 : decode cX0_shareGrowth 48 = .ok (.iload 5, 2) := by decide +kernel
theorem dX0_shareGrowth_50 : decode cX0_shareGrowth 50 = .ok (.iaload, 1) := by decide +kernel
theorem dX0_shareGrowth_51 : decode cX0_shareGrowth 51 = .ok (.imul, 1) := by decide +kernel
theorem dX0_shareGrowth_52 : decode cX0_shareGrowth 52 = .ok (.iload_n 3, 1) := by decide +kernel
theorem dX0_shareGrowth_53 : decode cX0_shareGrowth 53 = .ok (.idiv, 1) := by decide +kernel
theorem dX0_shareGrowth_54 : decode cX0_shareGrowth 54 = .ok (.iastore, 1) := by decide +kernel
theorem dX0_shareGrowth_55 : decode cX0_shareGrowth 55 = .ok (.aload_n 0, 1) := by decide +kernel
theorem dX0_shareGrowth_56 : decode cX0_shareGrowth 56 = .ok (.getfield 27, 3) := by decide +kernel
theorem dX0_shareGrowth_59 : decode cX0_shareGrowth 59 = .ok (.iload 5, 2) := by decide +kernel
theorem dX0_shareGrowth_61 : decode cX0_shareGrowth 61 = .ok (.iload_n 2, 1) := by decide +kernel
theorem dX0_shareGrowth_62 : decode cX0_shareGrowth 62 = .ok (.aload_n 0, 1) := by decide +kernel
theorem dX0_shareGrowth_63 : decode cX0_shareGrowth 63 = .ok (.getfield 15, 3) := by decide +kernel
theorem dX0_shareGrowth_66 : decode cX0_shareGrowth 66 = .ok (.iload 5, 2) := by decide +kernel
theorem dX0_shareGrowth_68 : decode cX0_shareGrowth 68 = .ok (.iaload, 1) := by decide +kernel
theorem dX0_shareGrowth_69 : decode cX0_shareGrowth 69 = .ok (.imul, 1) := by decide +kernel
theorem dX0_shareGrowth_70 : decode cX0_shareGrowth 70 = .ok (.iload_n 3, 1) := by decide +kernel
theorem dX0_shareGrowth_71 : decode cX0_shareGrowth 71 = .ok (.irem, 1) := by decide +kernel
theorem dX0_shareGrowth_72 : decode cX0_shareGrowth 72 = .ok (.iastore, 1) := by decide +kernel
theorem dX0_shareGrowth_73 : decode cX0_shareGrowth 73 = .ok (.iload 4, 2) := by decide +kernel
theorem dX0_shareGrowth_75 : decode cX0_shareGrowth 75 = .ok (.aload_n 0, 1) := by decide +kernel
theorem dX0_shareGrowth_76 : decode cX0_shareGrowth 76 = .ok (.getfield 18, 3) := by decide +kernel
theorem dX0_shareGrowth_79 : decode cX0_shareGrowth 79 = .ok (.iload 5, 2) := by decide +kernel
theorem dX0_shareGrowth_81 : decode cX0_shareGrowth 81 = .ok (.iaload, 1) := by decide +kernel
theorem dX0_shareGrowth_82 : decode cX0_shareGrowth 82 = .ok (.isub, 1) := by decide +kernel
theorem dX0_shareGrowth_83 : decode cX0_shareGrowth 83 = .ok (.istore 4, 2) := by decide +kernel
theorem dX0_shareGrowth_85 : decode cX0_shareGrowth 85 = .ok (.iinc 5 1, 3) := by decide +kernel
theorem dX0_shareGrowth_88 : decode cX0_shareGrowth 88 = .ok (.goto (-71), 3) := by decide +kernel
theorem dX0_shareGrowth_91 : decode cX0_shareGrowth 91 = .ok (.iconst 0, 1) := by decide +kernel
theorem dX0_shareGrowth_92 : decode cX0_shareGrowth 92 = .ok (.istore 5, 2) := by decide +kernel
theorem dX0_shareGrowth_94 : decode cX0_shareGrowth 94 = .ok (.iload 5, 2) := by decide +kernel
theorem dX0_shareGrowth_96 : decode cX0_shareGrowth 96 = .ok (.aload_n 0, 1) := by decide +kernel
theorem dX0_shareGrowth_97 : decode cX0_shareGrowth 97 = .ok (.getfield 30, 3) := by decide +kernel
theorem dX0_shareGrowth_100 : decode cX0_shareGrowth 100 = .ok (.if_icmp .ge 24, 3) := by decide +kernel
theorem dX0_shareGrowth_103 : decode cX0_shareGrowth 103 = .ok (.iload 4, 2) := by decide +kernel
theorem dX0_shareGrowth_105 : decode cX0_shareGrowth 105 = .ok (.ifCond .le 19, 3) := by decide +kernel
theorem dX0_shareGrowth_108 : decode cX0_shareGrowth 108 = .ok (.iload 4, 2) := by decide +kernel
theorem dX0_shareGrowth_110 : decode cX0_shareGrowth 110 = .ok (.aload_n 0, 1) := by decide +kernel
theorem dX0_shareGrowth_111 : decode cX0_shareGrowth 111 = .ok (.iload_n 1, 1) := by decide +kernel
theorem dX0_shareGrowth_112 : decode cX0_shareGrowth 112 = .ok (.invokevirtual 54, 3) := by decide +kernel
theorem dX0_shareGrowth_115 : decode cX0_shareGrowth 115 = .ok (.isub, 1) := by decide +kernel
theorem dX0_shareGrowth_116 : decode cX0_shareGrowth 116 = .ok (.istore 4, 2) := by decide +kernel
theorem dX0_shareGrowth_118 : decode cX0_shareGrowth 118 = .ok (.iinc 5 1, 3) := by decide +kernel
theorem dX0_shareGrowth_121 : decode cX0_shareGrowth 121 = .ok (.goto (-27), 3) := by decide +kernel
theorem dX0_shareGrowth_124 : decode cX0_shareGrowth 124 = .ok (.return_, 1) := by decide +kernel
theorem dX0_giveOneMore_0 : decode cX0_giveOneMore 0 = .ok (.iconst (-1), 1) := by decide +kernel
theorem dX0_giveOneMore_1 : decode cX0_giveOneMore 1 = .ok (.istore_n 2, 1) := by decide +kernel
theorem dX0_giveOneMore_2 : decode cX0_giveOneMore 2 = .ok (.iconst 0, 1) := by decide +kernel
theorem dX0_giveOneMore_3 : decode cX0_giveOneMore 3 = .ok (.istore_n 3, 1) := by decide +kernel
theorem dX0_giveOneMore_4 : decode cX0_giveOneMore 4 = .ok (.iload_n 3, 1) := by decide +kernel
theorem dX0_giveOneMore_5 : decode cX0_giveOneMore 5 = .ok (.aload_n 0, 1) := by decide +kernel
theorem dX0_giveOneMore_6 : decode cX0_giveOneMore 6 = .ok (.getfield 30, 3) := by decide +kernel
theorem dX0_giveOneMore_9 : decode cX0_giveOneMore 9 = .ok (.if_icmp .ge 41, 3) := by decide +kernel
theorem dX0_giveOneMore_12 : decode cX0_giveOneMore 12 = .ok (.aload_n 0, 1) := by decide +kernel
theorem dX0_giveOneMore_13 : decode cX0_giveOneMore 13 = .ok (.getfield 9, 3) := by decide +kernel
theorem dX0_giveOneMore_16 : decode cX0_giveOneMore 16 = .ok (.iload_n 3, 1) := by decide +kernel
theorem dX0_giveOneMore_17 : decode cX0_giveOneMore 17 = .ok (.iaload, 1) := by decide +kernel
theorem dX0_giveOneMore_18 : decode cX0_giveOneMore 18 = .ok (.iload_n 1, 1) := by decide +kernel
theorem dX0_giveOneMore_19 : decode cX0_giveOneMore 19 = .ok (.if_icmp .ne 25, 3) := by decide +kernel
theorem dX0_giveOneMore_22 : decode cX0_giveOneMore 22 = .ok (.iload_n 2, 1) := by decide +kernel
theorem dX0_giveOneMore_23 : decode cX0_giveOneMore 23 = .ok (.iconst (-1), 1) := by decide +kernel
theorem dX0_giveOneMore_24 : decode cX0_giveOneMore 24 = .ok (.if_icmp .eq 18, 3) := by decide +kernel
theorem dX0_giveOneMore_27 : decode cX0_giveOneMore 27 = .ok (.aload_n 0, 1) := by decide +kernel
theorem dX0_giveOneMore_28 : decode cX0_giveOneMore 28 = .ok (.getfield 27, 3) := by decide +kernel
theorem dX0_giveOneMore_31 : decode cX0_giveOneMore 31 = .ok (.iload_n 3, 1) := by decide +kernel
theorem dX0_giveOneMore_32 : decode cX0_giveOneMore 32 = .ok (.iaload, 1) := by decide +kernel
theorem dX0_giveOneMore_33 : decode cX0_giveOneMore 33 = .ok (.aload_n 0, 1) := by decide +kernel
theorem dX0_giveOneMore_34 : decode cX0_giveOneMore 34 = .ok (.getfield 27, 3) := by decide +kernel
theorem dX0_giveOneMore_37 : decode cX0_giveOneMore 37 = .ok (.iload_n 2, 1) := by decide +kernel
theorem dX0_giveOneMore_38 : decode cX0_giveOneMore 38 = .ok (.iaload, 1) := by decide +kernel
theorem dX0_giveOneMore_39 : decode cX0_giveOneMore 39 = .ok (.if_icmp .le 5, 3) := by decide +kernel
theorem dX0_giveOneMore_42 : decode cX0_giveOneMore 42 = .ok (.iload_n 3, 1) := by decide +kernel
theorem dX0_giveOneMore_43 : decode cX0_giveOneMore 43 = .ok (.istore_n 2, 1) := by decide +kernel
theorem dX0_giveOneMore_44 : decode cX0_giveOneMore 44 = .ok (.iinc 3 1, 3) := by decide +kernel
theorem dX0_giveOneMore_47 : decode cX0_giveOneMore 47 = .ok (.goto (-43), 3) := by decide +kernel
theorem dX0_giveOneMore_50 : decode cX0_giveOneMore 50 = .ok (.iload_n 2, 1) := by decide +kernel
theorem dX0_giveOneMore_51 : decode cX0_giveOneMore 51 = .ok (.iconst (-1), 1) := by decide +kernel
theorem dX0_giveOneMore_52 : decode cX0_giveOneMore 52 = .ok (.if_icmp .ne 5, 3) := by decide +kernel
theorem dX0_giveOneMore_55 : decode cX0_giveOneMore 55 = .ok (.iconst 0, 1) := by decide +kernel
theorem dX0_giveOneMore_56 : decode cX0_giveOneMore 56 = .ok (.ireturn, 1) := by decide +kernel
theorem dX0_giveOneMore_57 : decode cX0_giveOneMore 57 = .ok (.aload_n 0, 1) := by decide +kernel
theorem dX0_giveOneMore_58 : decode cX0_giveOneMore 58 = .ok (.getfield 18, 3) := by decide +kernel
theorem dX0_giveOneMore_61 : decode cX0_giveOneMore 61 = .ok (.iload_n 2, 1) := by decide +kernel
theorem dX0_giveOneMore_62 : decode cX0_giveOneMore 62 = .ok (.dup2, 1) := by decide +kernel
theorem dX0_giveOneMore_63 : decode cX0_giveOneMore 63 = .ok (.iaload, 1) := by decide +kernel
theorem dX0_giveOneMore_64 : decode cX0_giveOneMore 64 = .ok (.iconst 1, 1) := by decide +kernel
theorem dX0_giveOneMore_65 : decode cX0_giveOneMore 65 = .ok (.iadd, 1) := by decide +kernel
theorem dX0_giveOneMore_66 : decode cX0_giveOneMore 66 = .ok (.iastore, 1) := by decide +kernel
theorem dX0_giveOneMore_67 : decode cX0_giveOneMore 67 = .ok (.aload_n 0, 1) := by decide +kernel
theorem dX0_giveOneMore_68 : decode cX0_giveOneMore 68 = .ok (.getfield 27, 3) := by decide +kernel
theorem dX0_giveOneMore_71 : decode cX0_giveOneMore 71 = .ok (.iload_n 2, 1) := by decide +kernel
theorem dX0_giveOneMore_72 : decode cX0_giveOneMore 72 = .ok (.iconst (-1), 1) := by decide +kernel
theorem dX0_giveOneMore_73 : decode cX0_giveOneMore 73 = .ok (.iastore, 1) := by decide +kernel
theorem dX0_giveOneMore_74 : decode cX0_giveOneMore 74 = .ok (.iconst 1, 1) := by decide +kernel
theorem dX0_giveOneMore_75 : decode cX0_giveOneMore 75 = .ok (.ireturn, 1) := by decide +kernel
theorem dX0_allWidths_0 : decode cX0_allWidths 0 = .ok (.iconst 0, 1) := by decide +kernel
theorem dX0_allWidths_1 : decode cX0_allWidths 1 = .ok (.istore_n 1, 1) := by decide +kernel
theorem dX0_allWidths_2 : decode cX0_allWidths 2 = .ok (.iconst 0, 1) := by decide +kernel
theorem dX0_allWidths_3 : decode cX0_allWidths 3 = .ok (.istore_n 2, 1) := by decide +kernel
theorem dX0_allWidths_4 : decode cX0_allWidths 4 = .ok (.iload_n 2, 1) := by decide +kernel
theorem dX0_allWidths_5 : decode cX0_allWidths 5 = .ok (.aload_n 0, 1) := by decide +kernel
theorem dX0_allWidths_6 : decode cX0_allWidths 6 = .ok (.getfield 30, 3) := by decide +kernel
theorem dX0_allWidths_9 : decode cX0_allWidths 9 = .ok (.if_icmp .ge 18, 3) := by decide +kernel
theorem dX0_allWidths_12 : decode cX0_allWidths 12 = .ok (.iload_n 1, 1) := by decide +kernel
theorem dX0_allWidths_13 : decode cX0_allWidths 13 = .ok (.aload_n 0, 1) := by decide +kernel
theorem dX0_allWidths_14 : decode cX0_allWidths 14 = .ok (.getfield 15, 3) := by decide +kernel
theorem dX0_allWidths_17 : decode cX0_allWidths 17 = .ok (.iload_n 2, 1) := by decide +kernel
theorem dX0_allWidths_18 : decode cX0_allWidths 18 = .ok (.iaload, 1) := by decide +kernel
theorem dX0_allWidths_19 : decode cX0_allWidths 19 = .ok (.iadd, 1) := by decide +kernel
theorem dX0_allWidths_20 : decode cX0_allWidths 20 = .ok (.istore_n 1, 1) := by decide +kernel
theorem dX0_allWidths_21 : decode cX0_allWidths 21 = .ok (.iinc 2 1, 3) := by decide +kernel
theorem dX0_allWidths_24 : decode cX0_allWidths 24 = .ok (.goto (-20), 3) := by decide +kernel
theorem dX0_allWidths_27 : decode cX0_allWidths 27 = .ok (.iload_n 1, 1) := by decide +kernel
theorem dX0_allWidths_28 : decode cX0_allWidths 28 = .ok (.ireturn, 1) := by decide +kernel
theorem dX0_loadOn_0 : decode cX0_loadOn 0 = .ok (.aload_n 0, 1) := by decide +kernel
theorem dX0_loadOn_1 : decode cX0_loadOn 1 = .ok (.aload_n 0, 1) := by decide +kernel
theorem dX0_loadOn_2 : decode cX0_loadOn 2 = .ok (.getfield 21, 3) := by decide +kernel
theorem dX0_loadOn_5 : decode cX0_loadOn 5 = .ok (.iload_n 1, 1) := by decide +kernel
theorem dX0_loadOn_6 : decode cX0_loadOn 6 = .ok (.aload_n 0, 1) := by decide +kernel
theorem dX0_loadOn_7 : decode cX0_loadOn 7 = .ok (.getfield 15, 3) := by decide +kernel
theorem dX0_loadOn_10 : decode cX0_loadOn 10 = .ok (.invokevirtual 57, 3) := by decide +kernel
theorem dX0_loadOn_13 : decode cX0_loadOn 13 = .ok (.ireturn, 1) := by decide +kernel
theorem dX0_rateOn_0 : decode cX0_rateOn 0 = .ok (.aload_n 0, 1) := by decide +kernel
theorem dX0_rateOn_1 : decode cX0_rateOn 1 = .ok (.aload_n 0, 1) := by decide +kernel
theorem dX0_rateOn_2 : decode cX0_rateOn 2 = .ok (.getfield 21, 3) := by decide +kernel
theorem dX0_rateOn_5 : decode cX0_rateOn 5 = .ok (.iload_n 1, 1) := by decide +kernel
theorem dX0_rateOn_6 : decode cX0_rateOn 6 = .ok (.aload_n 0, 1) := by decide +kernel
theorem dX0_rateOn_7 : decode cX0_rateOn 7 = .ok (.getfield 18, 3) := by decide +kernel
theorem dX0_rateOn_10 : decode cX0_rateOn 10 = .ok (.invokevirtual 57, 3) := by decide +kernel
theorem dX0_rateOn_13 : decode cX0_rateOn 13 = .ok (.ireturn, 1) := by decide +kernel
theorem dX0_firstOn_0 : decode cX0_firstOn 0 = .ok (.aload_n 0, 1) := by decide +kernel
theorem dX0_firstOn_1 : decode cX0_firstOn 1 = .ok (.aload_n 0, 1) := by decide +kernel
theorem dX0_firstOn_2 : decode cX0_firstOn 2 = .ok (.getfield 21, 3) := by decide +kernel
theorem dX0_firstOn_5 : decode cX0_firstOn 5 = .ok (.iload_n 1, 1) := by decide +kernel
theorem dX0_firstOn_6 : decode cX0_firstOn 6 = .ok (.invokevirtual 61, 3) := by decide +kernel
theorem dX0_firstOn_9 : decode cX0_firstOn 9 = .ok (.ireturn, 1) := by decide +kernel
theorem dX0_countOn_0 : decode cX0_countOn 0 = .ok (.aload_n 0, 1) := by decide +kernel
theorem dX0_countOn_1 : decode cX0_countOn 1 = .ok (.aload_n 0, 1) := by decide +kernel
theorem dX0_countOn_2 : decode cX0_countOn 2 = .ok (.getfield 21, 3) := by decide +kernel
theorem dX0_countOn_5 : decode cX0_countOn 5 = .ok (.iload_n 1, 1) := by decide +kernel
theorem dX0_countOn_6 : decode cX0_countOn 6 = .ok (.invokevirtual 65, 3) := by decide +kernel
theorem dX0_countOn_9 : decode cX0_countOn 9 = .ok (.ireturn, 1) := by decide +kernel
theorem dX0_firstIn_0 : decode cX0_firstIn 0 = .ok (.aload_n 0, 1) := by decide +kernel
theorem dX0_firstIn_1 : decode cX0_firstIn 1 = .ok (.aload_n 0, 1) := by decide +kernel
theorem dX0_firstIn_2 : decode cX0_firstIn 2 = .ok (.getfield 9, 3) := by decide +kernel
theorem dX0_firstIn_5 : decode cX0_firstIn 5 = .ok (.iload_n 1, 1) := by decide +kernel
theorem dX0_firstIn_6 : decode cX0_firstIn 6 = .ok (.invokevirtual 61, 3) := by decide +kernel
theorem dX0_firstIn_9 : decode cX0_firstIn 9 = .ok (.ireturn, 1) := by decide +kernel
theorem dX0_countIn_0 : decode cX0_countIn 0 = .ok (.aload_n 0, 1) := by decide +kernel
theorem dX0_countIn_1 : decode cX0_countIn 1 = .ok (.aload_n 0, 1) := by decide +kernel
theorem dX0_countIn_2 : decode cX0_countIn 2 = .ok (.getfield 9, 3) := by decide +kernel
theorem dX0_countIn_5 : decode cX0_countIn 5 = .ok (.iload_n 1, 1) := by decide +kernel
theorem dX0_countIn_6 : decode cX0_countIn 6 = .ok (.invokevirtual 65, 3) := by decide +kernel
theorem dX0_countIn_9 : decode cX0_countIn 9 = .ok (.ireturn, 1) := by decide +kernel
theorem dX0_widthsIn_0 : decode cX0_widthsIn 0 = .ok (.aload_n 0, 1) := by decide +kernel
theorem dX0_widthsIn_1 : decode cX0_widthsIn 1 = .ok (.aload_n 0, 1) := by decide +kernel
theorem dX0_widthsIn_2 : decode cX0_widthsIn 2 = .ok (.getfield 9, 3) := by decide +kernel
theorem dX0_widthsIn_5 : decode cX0_widthsIn 5 = .ok (.iload_n 1, 1) := by decide +kernel
theorem dX0_widthsIn_6 : decode cX0_widthsIn 6 = .ok (.aload_n 0, 1) := by decide +kernel
theorem dX0_widthsIn_7 : decode cX0_widthsIn 7 = .ok (.getfield 15, 3) := by decide +kernel
theorem dX0_widthsIn_10 : decode cX0_widthsIn 10 = .ok (.invokevirtual 57, 3) := by decide +kernel
theorem dX0_widthsIn_13 : decode cX0_widthsIn 13 = .ok (.ireturn, 1) := by decide +kernel
theorem dX0_firstWith_0 : decode cX0_firstWith 0 = .ok (.iconst 0, 1) := by decide +kernel
theorem dX0_firstWith_1 : decode cX0_firstWith 1 = .ok (.istore_n 3, 1) := by decide +kernel
theorem dX0_firstWith_2 : decode cX0_firstWith 2 = .ok (.iload_n 3, 1) := by decide +kernel
theorem dX0_firstWith_3 : decode cX0_firstWith 3 = .ok (.aload_n 0, 1) := by decide +kernel
theorem dX0_firstWith_4 : decode cX0_firstWith 4 = .ok (.getfield 30, 3) := by decide +kernel
theorem dX0_firstWith_7 : decode cX0_firstWith 7 = .ok (.if_icmp .ge 18, 3) := by decide +kernel
theorem dX0_firstWith_10 : decode cX0_firstWith 10 = .ok (.aload_n 1, 1) := by decide +kernel
theorem dX0_firstWith_11 : decode cX0_firstWith 11 = .ok (.iload_n 3, 1) := by decide +kernel
theorem dX0_firstWith_12 : decode cX0_firstWith 12 = .ok (.iaload, 1) := by decide +kernel
theorem dX0_firstWith_13 : decode cX0_firstWith 13 = .ok (.iload_n 2, 1) := by decide +kernel
theorem dX0_firstWith_14 : decode cX0_firstWith 14 = .ok (.if_icmp .ne 5, 3) := by decide +kernel
theorem dX0_firstWith_17 : decode cX0_firstWith 17 = .ok (.iload_n 3, 1) := by decide +kernel
theorem dX0_firstWith_18 : decode cX0_firstWith 18 = .ok (.ireturn, 1) := by decide +kernel
theorem dX0_firstWith_19 : decode cX0_firstWith 19 = .ok (.iinc 3 1, 3) := by decide +kernel
theorem dX0_firstWith_22 : decode cX0_firstWith 22 = .ok (.goto (-20), 3) := by decide +kernel
theorem dX0_firstWith_25 : decode cX0_firstWith 25 = .ok (.iconst (-1), 1) := by decide +kernel
theorem dX0_firstWith_26 : decode cX0_firstWith 26 = .ok (.ireturn, 1) := by decide +kernel
theorem dX0_sumWith_0 : decode cX0_sumWith 0 = .ok (.iconst 0, 1) := by decide +kernel
theorem dX0_sumWith_1 : decode cX0_sumWith 1 = .ok (.istore 4, 2) := by decide +kernel
theorem dX0_sumWith_3 : decode cX0_sumWith 3 = .ok (.iconst 0, 1) := by decide +kernel
theorem dX0_sumWith_4 : decode cX0_sumWith 4 = .ok (.istore 5, 2) := by decide +kernel
theorem dX0_sumWith_6 : decode cX0_sumWith 6 = .ok (.iload 5, 2) := by decide +kernel
theorem dX0_sumWith_8 : decode cX0_sumWith 8 = .ok (.aload_n 0, 1) := by decide +kernel
theorem dX0_sumWith_9 : decode cX0_sumWith 9 = .ok (.getfield 30, 3) := by decide +kernel
theorem dX0_sumWith_12 : decode cX0_sumWith 12 = .ok (.if_icmp .ge 26, 3) := by decide +kernel
theorem dX0_sumWith_15 : decode cX0_sumWith 15 = .ok (.aload_n 1, 1) := by decide +kernel
theorem dX0_sumWith_16 : decode cX0_sumWith 16 = .ok (.iload 5, 2) := by decide +kernel
theorem dX0_sumWith_18 : decode cX0_sumWith 18 = .ok (.iaload, 1) := by decide +kernel
theorem dX0_sumWith_19 : decode cX0_sumWith 19 = .ok (.iload_n 2, 1) := by decide +kernel
theorem dX0_sumWith_20 : decode cX0_sumWith 20 = .ok (.if_icmp .ne 12, 3) := by decide +kernel
theorem dX0_sumWith_23 : decode cX0_sumWith 23 = .ok (.iload 4, 2) := by decide +kernel
theorem dX0_sumWith_25 : decode cX0_sumWith 25 = .ok (.aload_n 3, 1) := by decide +kernel
theorem dX0_sumWith_26 : decode cX0_sumWith 26 = .ok (.iload 5, 2) := by decide +kernel
theorem dX0_sumWith_28 : decode cX0_sumWith 28 = .ok (.iaload, 1) := by decide +kernel
theorem dX0_sumWith_29 : decode cX0_sumWith 29 = .ok (.iadd, 1) := by decide +kernel
theorem dX0_sumWith_30 : decode cX0_sumWith 30 = .ok (.istore 4, 2) := by decide +kernel
theorem dX0_sumWith_32 : decode cX0_sumWith 32 = .ok (.iinc 5 1, 3) := by decide +kernel
theorem dX0_sumWith_35 : decode cX0_sumWith 35 = .ok (.goto (-29), 3) := by decide +kernel
theorem dX0_sumWith_38 : decode cX0_sumWith 38 = .ok (.iload 4, 2) := by decide +kernel
theorem dX0_sumWith_40 : decode cX0_sumWith 40 = .ok (.ireturn, 1) := by decide +kernel
theorem dX0_countWith_0 : decode cX0_countWith 0 = .ok (.iconst 0, 1) := by decide +kernel
theorem dX0_countWith_1 : decode cX0_countWith 1 = .ok (.istore_n 3, 1) := by decide +kernel
theorem dX0_countWith_2 : decode cX0_countWith 2 = .ok (.iconst 0, 1) := by decide +kernel
theorem dX0_countWith_3 : decode cX0_countWith 3 = .ok (.istore 4, 2) := by decide +kernel
theorem dX0_countWith_5 : decode cX0_countWith 5 = .ok (.iload 4, 2) := by decide +kernel
theorem dX0_countWith_7 : decode cX0_countWith 7 = .ok (.aload_n 0, 1) := by decide +kernel
theorem dX0_countWith_8 : decode cX0_countWith 8 = .ok (.getfield 30, 3) := by decide +kernel
theorem dX0_countWith_11 : decode cX0_countWith 11 = .ok (.if_icmp .ge 20, 3) := by decide +kernel
theorem dX0_countWith_14 : decode cX0_countWith 14 = .ok (.aload_n 1, 1) := by decide +kernel
theorem dX0_countWith_15 : decode cX0_countWith 15 = .ok (.iload 4, 2) := by decide +kernel
theorem dX0_countWith_17 : decode cX0_countWith 17 = .ok (.iaload, 1) := by decide +kernel
theorem dX0_countWith_18 : decode cX0_countWith 18 = .ok (.iload_n 2, 1) := by decide +kernel
theorem dX0_countWith_19 : decode cX0_countWith 19 = .ok (.if_icmp .ne 6, 3) := by decide +kernel
theorem dX0_countWith_22 : decode cX0_countWith 22 = .ok (.iinc 3 1, 3) := by decide +kernel
theorem dX0_countWith_25 : decode cX0_countWith 25 = .ok (.iinc 4 1, 3) := by decide +kernel
theorem dX0_countWith_28 : decode cX0_countWith 28 = .ok (.goto (-23), 3) := by decide +kernel
theorem dX0_countWith_31 : decode cX0_countWith 31 = .ok (.iload_n 3, 1) := by decide +kernel
theorem dX0_countWith_32 : decode cX0_countWith 32 = .ok (.ireturn, 1) := by decide +kernel
theorem dX0_shelvesOf_0 : decode cX0_shelvesOf 0 = .ok (.iconst 0, 1) := by decide +kernel
theorem dX0_shelvesOf_1 : decode cX0_shelvesOf 1 = .ok (.istore_n 2, 1) := by decide +kernel
theorem dX0_shelvesOf_2 : decode cX0_shelvesOf 2 = .ok (.iconst (-1), 1) := by decide +kernel
theorem dX0_shelvesOf_3 : decode cX0_shelvesOf 3 = .ok (.istore_n 3, 1) := by decide +kernel
theorem dX0_shelvesOf_4 : decode cX0_shelvesOf 4 = .ok (.iconst 0, 1) := by decide +kernel
theorem dX0_shelvesOf_5 : decode cX0_shelvesOf 5 = .ok (.istore 4, 2) := by decide +kernel
theorem dX0_shelvesOf_7 : decode cX0_shelvesOf 7 = .ok (.iload 4, 2) := by decide +kernel
theorem dX0_shelvesOf_9 : decode cX0_shelvesOf 9 = .ok (.aload_n 0, 1) := by decide +kernel
theorem dX0_shelvesOf_10 : decode cX0_shelvesOf 10 = .ok (.getfield 30, 3) := by decide +kernel
theorem dX0_shelvesOf_13 : decode cX0_shelvesOf 13 = .ok (.if_icmp .ge 42, 3) := by decide +kernel
theorem dX0_shelvesOf_16 : decode cX0_shelvesOf 16 = .ok (.aload_n 0, 1) := by decide +kernel
theorem dX0_shelvesOf_17 : decode cX0_shelvesOf 17 = .ok (.getfield 9, 3) := by decide +kernel
theorem dX0_shelvesOf_20 : decode cX0_shelvesOf 20 = .ok (.iload 4, 2) := by decide +kernel
theorem dX0_shelvesOf_22 : decode cX0_shelvesOf 22 = .ok (.iaload, 1) := by decide +kernel
theorem dX0_shelvesOf_23 : decode cX0_shelvesOf 23 = .ok (.iload_n 1, 1) := by decide +kernel
theorem dX0_shelvesOf_24 : decode cX0_shelvesOf 24 = .ok (.if_icmp .ne 25, 3) := by decide +kernel
theorem dX0_shelvesOf_27 : decode cX0_shelvesOf 27 = .ok (.aload_n 0, 1) := by decide +kernel
theorem dX0_shelvesOf_28 : decode cX0_shelvesOf 28 = .ok (.getfield 21, 3) := by decide +kernel
theorem dX0_shelvesOf_31 : decode cX0_shelvesOf 31 = .ok (.iload 4, 2) := by decide +kernel
theorem dX0_shelvesOf_33 : decode cX0_shelvesOf 33 = .ok (.iaload, 1) := by decide +kernel
theorem dX0_shelvesOf_34 : decode cX0_shelvesOf 34 = .ok (.iload_n 3, 1) := by decide +kernel
theorem dX0_shelvesOf_35 : decode cX0_shelvesOf 35 = .ok (.if_icmp .eq 14, 3) := by decide +kernel
theorem dX0_shelvesOf_38 : decode cX0_shelvesOf 38 = .ok (.aload_n 0, 1) := by decide +kernel
theorem dX0_shelvesOf_39 : decode cX0_shelvesOf 39 = .ok (.getfield 21, 3) := by decide +kernel
theorem dX0_shelvesOf_42 : decode cX0_shelvesOf 42 = .ok (.iload 4, 2) := by decide +kernel
theorem dX0_shelvesOf_44 : decode cX0_shelvesOf 44 = .ok (.iaload, 1) := by decide +kernel
theorem dX0_shelvesOf_45 : decode cX0_shelvesOf 45 = .ok (.istore_n 3, 1) := by decide +kernel
theorem dX0_shelvesOf_46 : decode cX0_shelvesOf 46 = .ok (.iinc 2 1, 3) := by decide +kernel
theorem dX0_shelvesOf_49 : decode cX0_shelvesOf 49 = .ok (.iinc 4 1, 3) := by decide +kernel
theorem dX0_shelvesOf_52 : decode cX0_shelvesOf 52 = .ok (.goto (-45), 3) := by decide +kernel
theorem dX0_shelvesOf_55 : decode cX0_shelvesOf 55 = .ok (.iload_n 2, 1) := by decide +kernel
theorem dX0_shelvesOf_56 : decode cX0_shelvesOf 56 = .ok (.ireturn, 1) := by decide +kernel
theorem dX0_widthsAheadOf_0 : decode cX0_widthsAheadOf 0 = .ok (.iconst 0, 1) := by decide +kernel
theorem dX0_widthsAheadOf_1 : decode cX0_widthsAheadOf 1 = .ok (.istore_n 2, 1) := by decide +kernel
theorem dX0_widthsAheadOf_2 : decode cX0_widthsAheadOf 2 = .ok (.iconst 0, 1) := by decide +kernel
theorem dX0_widthsAheadOf_3 : decode cX0_widthsAheadOf 3 = .ok (.istore_n 3, 1) := by decide +kernel
theorem dX0_widthsAheadOf_4 : decode cX0_widthsAheadOf 4 = .ok (.iload_n 3, 1) := by decide +kernel
theorem dX0_widthsAheadOf_5 : decode cX0_widthsAheadOf 5 = .ok (.iload_n 1, 1) := by decide +kernel
theorem dX0_widthsAheadOf_6 : decode cX0_widthsAheadOf 6 = .ok (.if_icmp .ge 33, 3) := by decide +kernel
theorem dX0_widthsAheadOf_9 : decode cX0_widthsAheadOf 9 = .ok (.aload_n 0, 1) := by decide +kernel
theorem dX0_widthsAheadOf_10 : decode cX0_widthsAheadOf 10 = .ok (.getfield 21, 3) := by decide +kernel
theorem dX0_widthsAheadOf_13 : decode cX0_widthsAheadOf 13 = .ok (.iload_n 3, 1) := by decide +kernel
theorem dX0_widthsAheadOf_14 : decode cX0_widthsAheadOf 14 = .ok (.iaload, 1) := by decide +kernel
theorem dX0_widthsAheadOf_15 : decode cX0_widthsAheadOf 15 = .ok (.aload_n 0, 1) := by decide +kernel
theorem dX0_widthsAheadOf_16 : decode cX0_widthsAheadOf 16 = .ok (.getfield 21, 3) := by decide +kernel
theorem dX0_widthsAheadOf_19 : decode cX0_widthsAheadOf 19 = .ok (.iload_n 1, 1) := by decide +kernel
theorem dX0_widthsAheadOf_20 : decode cX0_widthsAheadOf 20 = .ok (.iaload, 1) := by decide +kernel
theorem dX0_widthsAheadOf_21 : decode cX0_widthsAheadOf 21 = .ok (.if_icmp .ne 12, 3) := by decide +kernel
theorem dX0_widthsAheadOf_24 : decode cX0_widthsAheadOf 24 = .ok (.iload_n 2, 1) := by decide +kernel
theorem dX0_widthsAheadOf_25 : decode cX0_widthsAheadOf 25 = .ok (.aload_n 0, 1) := by decide +kernel
theorem dX0_widthsAheadOf_26 : decode cX0_widthsAheadOf 26 = .ok (.getfield 15, 3) := by decide +kernel
theorem dX0_widthsAheadOf_29 : decode cX0_widthsAheadOf 29 = .ok (.iload_n 3, 1) := by decide +kernel
theorem dX0_widthsAheadOf_30 : decode cX0_widthsAheadOf 30 = .ok (.iaload, 1) := by decide +kernel
theorem dX0_widthsAheadOf_31 : decode cX0_widthsAheadOf 31 = .ok (.iadd, 1) := by decide +kernel
theorem dX0_widthsAheadOf_32 : decode cX0_widthsAheadOf 32 = .ok (.istore_n 2, 1) := by decide +kernel
theorem dX0_widthsAheadOf_33 : decode cX0_widthsAheadOf 33 = .ok (.iinc 3 1, 3) := by decide +kernel
theorem dX0_widthsAheadOf_36 : decode cX0_widthsAheadOf 36 = .ok (.goto (-32), 3) := by decide +kernel
theorem dX0_widthsAheadOf_39 : decode cX0_widthsAheadOf 39 = .ok (.iload_n 2, 1) := by decide +kernel
theorem dX0_widthsAheadOf_40 : decode cX0_widthsAheadOf 40 = .ok (.ireturn, 1) := by decide +kernel
theorem dX1_init_0 : decode cX1_init 0 = .ok (.aload_n 0, 1) := by decide +kernel
theorem dX1_init_1 : decode cX1_init 1 = .ok (.invokespecial 3, 3) := by decide +kernel
theorem dX1_init_4 : decode cX1_init 4 = .ok (.aload_n 0, 1) := by decide +kernel
theorem dX1_init_5 : decode cX1_init 5 = .ok (.bipush 60, 2) := by decide +kernel
theorem dX1_init_7 : decode cX1_init 7 = .ok (.newarray .int, 2) := by decide +kernel
theorem dX1_init_9 : decode cX1_init 9 = .ok (.putfield 9, 3) := by decide +kernel
theorem dX1_init_12 : decode cX1_init 12 = .ok (.aload_n 0, 1) := by decide +kernel
theorem dX1_init_13 : decode cX1_init 13 = .ok (.bipush 12, 2) := by decide +kernel
theorem dX1_init_15 : decode cX1_init 15 = .ok (.newarray .int, 2) := by decide +kernel
theorem dX1_init_17 : decode cX1_init 17 = .ok (.putfield 15, 3) := by decide +kernel
theorem dX1_init_20 : decode cX1_init 20 = .ok (.aload_n 0, 1) := by decide +kernel
theorem dX1_init_21 : decode cX1_init 21 = .ok (.bipush 12, 2) := by decide +kernel
theorem dX1_init_23 : decode cX1_init 23 = .ok (.newarray .int, 2) := by decide +kernel
theorem dX1_init_25 : decode cX1_init 25 = .ok (.putfield 18, 3) := by decide +kernel
theorem dX1_init_28 : decode cX1_init 28 = .ok (.aload_n 0, 1) := by decide +kernel
theorem dX1_init_29 : decode cX1_init 29 = .ok (.bipush 12, 2) := by decide +kernel
theorem dX1_init_31 : decode cX1_init 31 = .ok (.newarray .int, 2) := by decide +kernel
theorem dX1_init_33 : decode cX1_init 33 = .ok (.putfield 21, 3) := by decide +kernel
theorem dX1_init_36 : decode cX1_init 36 = .ok (.aload_n 0, 1) := by decide +kernel
theorem dX1_init_37 : decode cX1_init 37 = .ok (.bipush 60, 2) := by decide +kernel
theorem dX1_init_39 : decode cX1_init 39 = .ok (.newarray .int, 2) := by decide +kernel
theorem dX1_init_41 : decode cX1_init 41 = .ok (.putfield 24, 3) := by decide +kernel
theorem dX1_init_44 : decode cX1_init 44 = .ok (.aload_n 0, 1) := by decide +kernel
theorem dX1_init_45 : decode cX1_init 45 = .ok (.bipush 60, 2) := by decide +kernel
theorem dX1_init_47 : decode cX1_init 47 = .ok (.newarray .int, 2) := by decide +kernel
theorem dX1_init_49 : decode cX1_init 49 = .ok (.putfield 27, 3) := by decide +kernel
theorem dX1_init_52 : decode cX1_init 52 = .ok (.aload_n 0, 1) := by decide +kernel
theorem dX1_init_53 : decode cX1_init 53 = .ok (.bipush 60, 2) := by decide +kernel
theorem dX1_init_55 : decode cX1_init 55 = .ok (.newarray .int, 2) := by decide +kernel
theorem dX1_init_57 : decode cX1_init 57 = .ok (.putfield 30, 3) := by decide +kernel
theorem dX1_init_60 : decode cX1_init 60 = .ok (.aload_n 0, 1) := by decide +kernel
theorem dX1_init_61 : decode cX1_init 61 = .ok (.bipush 13, 2) := by decide +kernel
theorem dX1_init_63 : decode cX1_init 63 = .ok (.bipush 61, 2) := by decide +kernel
theorem dX1_init_65 : decode cX1_init 65 = .ok (.multianewarray 33 2, 4) := by decide +kernel
theorem dX1_init_69 : decode cX1_init 69 = .ok (.putfield 35, 3) := by decide +kernel
theorem dX1_init_72 : decode cX1_init 72 = .ok (.aload_n 0, 1) := by decide +kernel
theorem dX1_init_73 : decode cX1_init 73 = .ok (.bipush 12, 2) := by decide +kernel
theorem dX1_init_75 : decode cX1_init 75 = .ok (.bipush 61, 2) := by decide +kernel
theorem dX1_init_77 : decode cX1_init 77 = .ok (.multianewarray 33 2, 4) := by decide +kernel
theorem dX1_init_81 : decode cX1_init 81 = .ok (.putfield 38, 3) := by decide +kernel
theorem dX1_init_84 : decode cX1_init 84 = .ok (.return_, 1) := by decide +kernel
theorem dX1_load_0 : decode cX1_load 0 = .ok (.aload_n 0, 1) := by decide +kernel
theorem dX1_load_1 : decode cX1_load 1 = .ok (.aload_n 1, 1) := by decide +kernel
theorem dX1_load_2 : decode cX1_load 2 = .ok (.getfield 41, 3) := by decide +kernel
theorem dX1_load_5 : decode cX1_load 5 = .ok (.putfield 47, 3) := by decide +kernel
theorem dX1_load_8 : decode cX1_load 8 = .ok (.iconst 0, 1) := by decide +kernel
theorem dX1_load_9 : decode cX1_load 9 = .ok (.istore 4, 2) := by decide +kernel
theorem dX1_load_11 : decode cX1_load 11 = .ok (.iload 4, 2) := by decide +kernel
theorem dX1_load_13 : decode cX1_load 13 = .ok (.aload_n 0, 1) := by decide +kernel
theorem dX1_load_14 : decode cX1_load 14 = .ok (.getfield 47, 3) := by decide +kernel
theorem dX1_load_17 : decode cX1_load 17 = .ok (.if_icmp .ge 37, 3) := by decide +kernel
theorem dX1_load_20 : decode cX1_load 20 = .ok (.aload_n 0, 1) := by decide +kernel
theorem dX1_load_21 : decode cX1_load 21 = .ok (.getfield 18, 3) := by decide +kernel
theorem dX1_load_24 : decode cX1_load 24 = .ok (.iload 4, 2) := by decide +kernel
theorem dX1_load_26 : decode cX1_load 26 = .ok (.aload_n 1, 1) := by decide +kernel
theorem dX1_load_27 : decode cX1_load 27 = .ok (.getfield 50, 3) := by decide +kernel
theorem dX1_load_30 : decode cX1_load 30 = .ok (.iload 4, 2) := by decide +kernel
theorem dX1_load_32 : decode cX1_load 32 = .ok (.iaload, 1) := by decide +kernel
theorem dX1_load_33 : decode cX1_load 33 = .ok (.iastore, 1) := by decide +kernel
theorem dX1_load_34 : decode cX1_load 34 = .ok (.aload_n 0, 1) := by decide +kernel
theorem dX1_load_35 : decode cX1_load 35 = .ok (.getfield 21, 3) := by decide +kernel
theorem dX1_load_38 : decode cX1_load 38 = .ok (.iload 4, 2) := by decide +kernel
theorem dX1_load_40 : decode cX1_load 40 = .ok (.aload_n 1, 1) := by decide +kernel
theorem dX1_load_41 : decode cX1_load 41 = .ok (.getfield 51, 3) := by decide +kernel
theorem dX1_load_44 : decode cX1_load 44 = .ok (.iload 4, 2) := by decide +kernel
theorem dX1_load_46 : decode cX1_load 46 = .ok (.iaload, 1) := by decide +kernel
theorem dX1_load_47 : decode cX1_load 47 = .ok (.iastore, 1) := by decide +kernel
theorem dX1_load_48 : decode cX1_load 48 = .ok (.iinc 4 1, 3) := by decide +kernel
theorem dX1_load_51 : decode cX1_load 51 = .ok (.goto (-40), 3) := by decide +kernel
theorem dX1_load_54 : decode cX1_load 54 = .ok (.aload_n 0, 1) := by decide +kernel
theorem dX1_load_55 : decode cX1_load 55 = .ok (.aload_n 2, 1) := by decide +kernel
theorem dX1_load_56 : decode cX1_load 56 = .ok (.getfield 52, 3) := by decide +kernel
theorem dX1_load_59 : decode cX1_load 59 = .ok (.putfield 55, 3) := by decide +kernel
theorem dX1_load_62 : decode cX1_load 62 = .ok (.iconst 0, 1) := by decide +kernel
theorem dX1_load_63 : decode cX1_load 63 = .ok (.istore 4, 2) := by decide +kernel
theorem dX1_load_65 : decode cX1_load 65 = .ok (.iload 4, 2) := by decide +kernel
theorem dX1_load_67 : decode cX1_load 67 = .ok (.aload_n 0, 1) := by decide +kernel
theorem dX1_load_68 : decode cX1_load 68 = .ok (.getfield 55, 3) := by decide +kernel
theorem dX1_load_71 : decode cX1_load 71 = .ok (.if_icmp .ge 61, 3) := by decide +kernel
theorem dX1_load_74 : decode cX1_load 74 = .ok (.aload_n 0, 1) := by decide +kernel
theorem dX1_load_75 : decode cX1_load 75 = .ok (.getfield 24, 3) := by decide +kernel
theorem dX1_load_78 : decode cX1_load 78 = .ok (.iload 4, 2) := by decide +kernel
theorem dX1_load_80 : decode cX1_load 80 = .ok (.aload_n 2, 1) := by decide +kernel
theorem dX1_load_81 : decode cX1_load 81 = .ok (.getfield 56, 3) := by decide +kernel
theorem dX1_load_84 : decode cX1_load 84 = .ok (.iload 4, 2) := by decide +kernel
theorem dX1_load_86 : decode cX1_load 86 = .ok (.iaload, 1) := by decide +kernel
theorem dX1_load_87 : decode cX1_load 87 = .ok (.iastore, 1) := by decide +kernel
theorem dX1_load_88 : decode cX1_load 88 = .ok (.aload_n 0, 1) := by decide +kernel
theorem dX1_load_89 : decode cX1_load 89 = .ok (.getfield 27, 3) := by decide +kernel
theorem dX1_load_92 : decode cX1_load 92 = .ok (.iload 4, 2) := by decide +kernel
theorem dX1_load_94 : decode cX1_load 94 = .ok (.aload_n 2, 1) := by decide +kernel
theorem dX1_load_95 : decode cX1_load 95 = .ok (.getfield 56, 3) := by decide +kernel
theorem dX1_load_98 : decode cX1_load 98 = .ok (.iload 4, 2) := by decide +kernel
theorem dX1_load_100 : decode cX1_load 100 = .ok (.iaload, 1) := by decide +kernel
theorem dX1_load_101 : decode cX1_load 101 = .ok (.iload_n 3, 1) := by decide +kernel
theorem dX1_load_102 : decode cX1_load 102 = .ok (.aload_n 2, 1) := by decide +kernel
theorem dX1_load_103 : decode cX1_load 103 = .ok (.getfield 57, 3) := by decide +kernel
theorem dX1_load_106 : decode cX1_load 106 = .ok (.iload 4, 2) := by decide +kernel
theorem dX1_load_108 : decode cX1_load 108 = .ok (.iaload, 1) := by decide +kernel
theorem dX1_load_109 : decode cX1_load 109 = .ok (.imul, 1) := by decide +kernel
theorem dX1_load_110 : decode cX1_load 110 = .ok (.iadd, 1) := by decide +kernel
theorem dX1_load_111 : decode cX1_load 111 = .ok (.iastore, 1) := by decide +kernel
theorem dX1_load_112 : decode cX1_load 112 = .ok (.aload_n 0, 1) := by decide +kernel
theorem dX1_load_113 : decode cX1_load 113 = .ok (.getfield 30, 3) := by decide +kernel
theorem dX1_load_116 : decode cX1_load 116 = .ok (.iload 4, 2) := by decide +kernel
theorem dX1_load_118 : decode cX1_load 118 = .ok (.aload_n 2, 1) := by decide +kernel
theorem dX1_load_119 : decode cX1_load 119 = .ok (.getfield 60, 3) := by decide +kernel
theorem dX1_load_122 : decode cX1_load 122 = .ok (.iload 4, 2) := by decide +kernel
theorem dX1_load_124 : decode cX1_load 124 = .ok (.iaload, 1) := by decide +kernel
theorem dX1_load_125 : decode cX1_load 125 = .ok (.iastore, 1) := by decide +kernel
theorem dX1_load_126 : decode cX1_load 126 = .ok (.iinc 4 1, 3) := by decide +kernel
theorem dX1_load_129 : decode cX1_load 129 = .ok (.goto (-64), 3) := by decide +kernel
theorem dX1_load_132 : decode cX1_load 132 = .ok (.return_, 1) := by decide +kernel
theorem dX1_insert_0 : decode cX1_insert 0 = .ok (.aload_n 0, 1) := by decide +kernel
theorem dX1_insert_1 : decode cX1_insert 1 = .ok (.getfield 55, 3) := by decide +kernel
theorem dX1_insert_4 : decode cX1_insert 4 = .ok (.bipush 60, 2) := by decide +kernel
theorem dX1_insert_6 : decode cX1_insert 6 = .ok (.if_icmp .lt 4, 3) := by decide +kernel
theorem dX1_insert_9 : decode cX1_insert 9 = .ok (.return_, 1) := by decide +kernel
theorem dX1_insert_10 : decode cX1_insert 10 = .ok (.aload_n 0, 1) := by decide +kernel
theorem dX1_insert_11 : decode cX1_insert 11 = .ok (.getfield 24, 3) := by decide +kernel
theorem dX1_insert_14 : decode cX1_insert 14 = .ok (.iload_n 1, 1) := by decide +kernel
theorem dX1_insert_15 : decode cX1_insert 15 = .ok (.aload_n 0, 1) := by decide +kernel
theorem dX1_insert_16 : decode cX1_insert 16 = .ok (.getfield 24, 3) := by decide +kernel
theorem dX1_insert_19 : decode cX1_insert 19 = .ok (.iload_n 1, 1) := by decide +kernel
theorem dX1_insert_20 : decode cX1_insert 20 = .ok (.iconst 1, 1) := by decide +kernel
theorem dX1_insert_21 : decode cX1_insert 21 = .ok (.iadd, 1) := by decide +kernel
theorem dX1_insert_22 : decode cX1_insert 22 = .ok (.aload_n 0, 1) := by decide +kernel
theorem dX1_insert_23 : decode cX1_insert 23 = .ok (.getfield 55, 3) := by decide +kernel
theorem dX1_insert_26 : decode cX1_insert 26 = .ok (.iload_n 1, 1) := by decide +kernel
theorem dX1_insert_27 : decode cX1_insert 27 = .ok (.isub, 1) := by decide +kernel
theorem dX1_insert_28 : decode cX1_insert 28 = .ok (.invokestatic 63, 3) := by decide +kernel
theorem dX1_insert_31 : decode cX1_insert 31 = .ok (.aload_n 0, 1) := by decide +kernel
theorem dX1_insert_32 : decode cX1_insert 32 = .ok (.getfield 27, 3) := by decide +kernel
theorem dX1_insert_35 : decode cX1_insert 35 = .ok (.iload_n 1, 1) := by decide +kernel
theorem dX1_insert_36 : decode cX1_insert 36 = .ok (.aload_n 0, 1) := by decide +kernel
theorem dX1_insert_37 : decode cX1_insert 37 = .ok (.getfield 27, 3) := by decide +kernel
theorem dX1_insert_40 : decode cX1_insert 40 = .ok (.iload_n 1, 1) := by decide +kernel
theorem dX1_insert_41 : decode cX1_insert 41 = .ok (.iconst 1, 1) := by decide +kernel
theorem dX1_insert_42 : decode cX1_insert 42 = .ok (.iadd, 1) := by decide +kernel
theorem dX1_insert_43 : decode cX1_insert 43 = .ok (.aload_n 0, 1) := by decide +kernel
theorem dX1_insert_44 : decode cX1_insert 44 = .ok (.getfield 55, 3) := by decide +kernel
theorem dX1_insert_47 : decode cX1_insert 47 = .ok (.iload_n 1, 1) := by decide +kernel
theorem dX1_insert_48 : decode cX1_insert 48 = .ok (.isub, 1) := by decide +kernel
theorem dX1_insert_49 : decode cX1_insert 49 = .ok (.invokestatic 63, 3) := by decide +kernel
theorem dX1_insert_52 : decode cX1_insert 52 = .ok (.aload_n 0, 1) := by decide +kernel
theorem dX1_insert_53 : decode cX1_insert 53 = .ok (.getfield 30, 3) := by decide +kernel
theorem dX1_insert_56 : decode cX1_insert 56 = .ok (.iload_n 1, 1) := by decide +kernel
theorem dX1_insert_57 : decode cX1_insert 57 = .ok (.aload_n 0, 1) := by decide +kernel
theorem dX1_insert_58 : decode cX1_insert 58 = .ok (.getfield 30, 3) := by decide +kernel
theorem dX1_insert_61 : decode cX1_insert 61 = .ok (.iload_n 1, 1) := by decide +kernel
theorem dX1_insert_62 : decode cX1_insert 62 = .ok (.iconst 1, 1) := by decide +kernel
theorem dX1_insert_63 : decode cX1_insert 63 = .ok (.iadd, 1) := by decide +kernel
theorem dX1_insert_64 : decode cX1_insert 64 = .ok (.aload_n 0, 1) := by decide +kernel
theorem dX1_insert_65 : decode cX1_insert 65 = .ok (.getfield 55, 3) := by decide +kernel
theorem dX1_insert_68 : decode cX1_insert 68 = .ok (.iload_n 1, 1) := by decide +kernel
theorem dX1_insert_69 : decode cX1_insert 69 = .ok (.isub, 1) := by decide +kernel
theorem dX1_insert_70 : decode cX1_insert 70 = .ok (.invokestatic 63, 3) := by decide +kernel
theorem dX1_insert_73 : decode cX1_insert 73 = .ok (.aload_n 0, 1) := by decide +kernel
theorem dX1_insert_74 : decode cX1_insert 74 = .ok (.dup, 1) := by decide +kernel
theorem dX1_insert_75 : decode cX1_insert 75 = .ok (.getfield 55, 3) := by decide +kernel
theorem dX1_insert_78 : decode cX1_insert 78 = .ok (.iconst 1, 1) := by decide +kernel
theorem dX1_insert_79 : decode cX1_insert 79 = .ok (.iadd, 1) := by decide +kernel
theorem dX1_insert_80 : decode cX1_insert 80 = .ok (.putfield 55, 3) := by decide +kernel
theorem dX1_insert_83 : decode cX1_insert 83 = .ok (.aload_n 0, 1) := by decide +kernel
theorem dX1_insert_84 : decode cX1_insert 84 = .ok (.getfield 24, 3) := by decide +kernel
theorem dX1_insert_87 : decode cX1_insert 87 = .ok (.iload_n 1, 1) := by decide +kernel
theorem dX1_insert_88 : decode cX1_insert 88 = .ok (.iload_n 2, 1) := by decide +kernel
theorem dX1_insert_89 : decode cX1_insert 89 = .ok (.iastore, 1) := by decide +kernel
theorem dX1_insert_90 : decode cX1_insert 90 = .ok (.aload_n 0, 1) := by decide +kernel
theorem dX1_insert_91 : decode cX1_insert 91 = .ok (.getfield 27, 3) := by decide +kernel
theorem dX1_insert_94 : decode cX1_insert 94 = .ok (.iload_n 1, 1) := by decide +kernel
theorem dX1_insert_95 : decode cX1_insert 95 = .ok (.iload_n 2, 1) := by decide +kernel
theorem dX1_insert_96 : decode cX1_insert 96 = .ok (.iastore, 1) := by decide +kernel
theorem dX1_insert_97 : decode cX1_insert 97 = .ok (.aload_n 0, 1) := by decide +kernel
theorem dX1_insert_98 : decode cX1_insert 98 = .ok (.getfield 30, 3) := by decide +kernel
theorem dX1_insert_101 : decode cX1_insert 101 = .ok (.iload_n 1, 1) := by decide +kernel
theorem dX1_insert_102 : decode cX1_insert 102 = .ok (.iconst (-1), 1) := by decide +kernel
theorem dX1_insert_103 : decode cX1_insert 103 = .ok (.iastore, 1) := by decide +kernel
theorem dX1_insert_104 : decode cX1_insert 104 = .ok (.return_, 1) := by decide +kernel
theorem dX1_forget_0 : decode cX1_forget 0 = .ok (.aload_n 0, 1) := by decide +kernel
theorem dX1_forget_1 : decode cX1_forget 1 = .ok (.getfield 9, 3) := by decide +kernel
theorem dX1_forget_4 : decode cX1_forget 4 = .ok (.iload_n 1, 1) := by decide +kernel
theorem dX1_forget_5 : decode cX1_forget 5 = .ok (.iconst 1, 1) := by decide +kernel
theorem dX1_forget_6 : decode cX1_forget 6 = .ok (.iadd, 1) := by decide +kernel
theorem dX1_forget_7 : decode cX1_forget 7 = .ok (.aload_n 0, 1) := by decide +kernel
theorem dX1_forget_8 : decode cX1_forget 8 = .ok (.getfield 9, 3) := by decide +kernel
theorem dX1_forget_11 : decode cX1_forget 11 = .ok (.iload_n 1, 1) := by decide +kernel
theorem dX1_forget_12 : decode cX1_forget 12 = .ok (.aload_n 0, 1) := by decide +kernel
theorem dX1_forget_13 : decode cX1_forget 13 = .ok (.getfield 55, 3) := by decide +kernel
theorem dX1_forget_16 : decode cX1_forget 16 = .ok (.iload_n 1, 1) := by decide +kernel
theorem dX1_forget_17 : decode cX1_forget 17 = .ok (.isub, 1) := by decide +kernel
theorem dX1_forget_18 : decode cX1_forget 18 = .ok (.iconst 1, 1) := by decide +kernel
theorem dX1_forget_19 : decode cX1_forget 19 = .ok (.isub, 1) := by decide +kernel
theorem dX1_forget_20 : decode cX1_forget 20 = .ok (.invokestatic 63, 3) := by decide +kernel
theorem dX1_forget_23 : decode cX1_forget 23 = .ok (.aload_n 0, 1) := by decide +kernel
theorem dX1_forget_24 : decode cX1_forget 24 = .ok (.dup, 1) := by decide +kernel
theorem dX1_forget_25 : decode cX1_forget 25 = .ok (.getfield 55, 3) := by decide +kernel
theorem dX1_forget_28 : decode cX1_forget 28 = .ok (.iconst 1, 1) := by decide +kernel
theorem dX1_forget_29 : decode cX1_forget 29 = .ok (.isub, 1) := by decide +kernel
theorem dX1_forget_30 : decode cX1_forget 30 = .ok (.putfield 55, 3) := by decide +kernel
theorem dX1_forget_33 : decode cX1_forget 33 = .ok (.return_, 1) := by decide +kernel
theorem dX1_shelvesFilled_0 : decode cX1_shelvesFilled 0 = .ok (.iconst 0, 1) := by decide +kernel
theorem dX1_shelvesFilled_1 : decode cX1_shelvesFilled 1 = .ok (.istore_n 2, 1) := by decide +kernel
theorem dX1_shelvesFilled_2 : decode cX1_shelvesFilled 2 = .ok (.iconst 0, 1) := by decide +kernel
theorem dX1_shelvesFilled_3 : decode cX1_shelvesFilled 3 = .ok (.istore_n 3, 1) := by decide +kernel
theorem dX1_shelvesFilled_4 : decode cX1_shelvesFilled 4 = .ok (.iload_n 3, 1) := by decide +kernel
theorem dX1_shelvesFilled_5 : decode cX1_shelvesFilled 5 = .ok (.aload_n 0, 1) := by decide +kernel
theorem dX1_shelvesFilled_6 : decode cX1_shelvesFilled 6 = .ok (.getfield 47, 3) := by decide +kernel
theorem dX1_shelvesFilled_9 : decode cX1_shelvesFilled 9 = .ok (.if_icmp .ge 34, 3) := by decide +kernel
theorem dX1_shelvesFilled_12 : decode cX1_shelvesFilled 12 = .ok (.iload_n 2, 1) := by decide +kernel
theorem dX1_shelvesFilled_13 : decode cX1_shelvesFilled 13 = .ok (.aload_n 0, 1) := by decide +kernel
theorem dX1_shelvesFilled_14 : decode cX1_shelvesFilled 14 = .ok (.getfield 55, 3) := by decide +kernel
theorem dX1_shelvesFilled_17 : decode cX1_shelvesFilled 17 = .ok (.if_icmp .ge 26, 3) := by decide +kernel
theorem dX1_shelvesFilled_20 : decode cX1_shelvesFilled 20 = .ok (.aload_n 0, 1) := by decide +kernel
theorem dX1_shelvesFilled_21 : decode cX1_shelvesFilled 21 = .ok (.getfield 21, 3) := by decide +kernel
theorem dX1_shelvesFilled_24 : decode cX1_shelvesFilled 24 = .ok (.iload_n 3, 1) := by decide +kernel
theorem dX1_shelvesFilled_25 : decode cX1_shelvesFilled 25 = .ok (.iaload, 1) := by decide +kernel
theorem dX1_shelvesFilled_26 : decode cX1_shelvesFilled 26 = .ok (.iload_n 1, 1) := by decide +kernel
theorem dX1_shelvesFilled_27 : decode cX1_shelvesFilled 27 = .ok (.if_icmp .gt 10, 3) := by decide +kernel
theorem dX1_shelvesFilled_30 : decode cX1_shelvesFilled 30 = .ok (.aload_n 0, 1) := by decide +kernel
theorem dX1_shelvesFilled_31 : decode cX1_shelvesFilled 31 = .ok (.iload_n 2, 1) := by decide +kernel
theorem dX1_shelvesFilled_32 : decode cX1_shelvesFilled 32 = .ok (.iload_n 3, 1) := by decide +kernel
theorem dX1_shelvesFilled_33 : decode cX1_shelvesFilled 33 = .ok (.invokevirtual 69, 3) := by decide +kernel
theorem dX1_shelvesFilled_36 : decode cX1_shelvesFilled 36 = .ok (.istore_n 2, 1) := by decide +kernel
theorem dX1_shelvesFilled_37 : decode cX1_shelvesFilled 37 = .ok (.iinc 3 1, 3) := by decide +kernel
theorem dX1_shelvesFilled_40 : decode cX1_shelvesFilled 40 = .ok (.goto (-36), 3) := by decide +kernel
theorem dX1_shelvesFilled_43 : decode cX1_shelvesFilled 43 = .ok (.iload_n 2, 1) := by decide +kernel
theorem dX1_shelvesFilled_44 : decode cX1_shelvesFilled 44 = .ok (.aload_n 0, 1) := by decide +kernel
theorem dX1_shelvesFilled_45 : decode cX1_shelvesFilled 45 = .ok (.getfield 55, 3) := by decide +kernel
theorem dX1_shelvesFilled_48 : decode cX1_shelvesFilled 48 = .ok (.if_icmp .ne 7, 3) := by decide +kernel
theorem dX1_shelvesFilled_51 : decode cX1_shelvesFilled 51 = .ok (.iload_n 3, 1) := by decide +kernel
theorem dX1_shelvesFilled_52 : decode cX1_shelvesFilled 52 = .ok (.goto 4, 3) := by decide +kernel
theorem dX1_shelvesFilled_55 : decode cX1_shelvesFilled 55 = .ok (.iconst (-1), 1) := by decide +kernel
theorem dX1_shelvesFilled_56 : decode cX1_shelvesFilled 56 = .ok (.ireturn, 1) := by decide +kernel
theorem dX1_fill_0 : decode cX1_fill 0 = .ok (.aload_n 0, 1) := by decide +kernel
theorem dX1_fill_1 : decode cX1_fill 1 = .ok (.getfield 18, 3) := by decide +kernel
theorem dX1_fill_4 : decode cX1_fill 4 = .ok (.iload_n 2, 1) := by decide +kernel
theorem dX1_fill_5 : decode cX1_fill 5 = .ok (.iaload, 1) := by decide +kernel
theorem dX1_fill_6 : decode cX1_fill 6 = .ok (.istore_n 3, 1) := by decide +kernel
theorem dX1_fill_7 : decode cX1_fill 7 = .ok (.iload_n 1, 1) := by decide +kernel
theorem dX1_fill_8 : decode cX1_fill 8 = .ok (.istore 4, 2) := by decide +kernel
theorem dX1_fill_10 : decode cX1_fill 10 = .ok (.iload 4, 2) := by decide +kernel
theorem dX1_fill_12 : decode cX1_fill 12 = .ok (.aload_n 0, 1) := by decide +kernel
theorem dX1_fill_13 : decode cX1_fill 13 = .ok (.getfield 55, 3) := by decide +kernel
theorem dX1_fill_16 : decode cX1_fill 16 = .ok (.if_icmp .ge 30, 3) := by decide +kernel
theorem dX1_fill_19 : decode cX1_fill 19 = .ok (.aload_n 0, 1) := by decide +kernel
theorem dX1_fill_20 : decode cX1_fill 20 = .ok (.getfield 27, 3) := by decide +kernel
theorem dX1_fill_23 : decode cX1_fill 23 = .ok (.iload 4, 2) := by decide +kernel
theorem dX1_fill_25 : decode cX1_fill 25 = .ok (.iaload, 1) := by decide +kernel
theorem dX1_fill_26 : decode cX1_fill 26 = .ok (.iload_n 3, 1) := by decide +kernel
theorem dX1_fill_27 : decode cX1_fill 27 = .ok (.if_icmp .gt 19, 3) := by decide +kernel
theorem dX1_fill_30 : decode cX1_fill 30 = .ok (.iload_n 3, 1) := by decide +kernel
theorem dX1_fill_31 : decode cX1_fill 31 = .ok (.aload_n 0, 1) := by decide +kernel
theorem dX1_fill_32 : decode cX1_fill 32 = .ok (.getfield 27, 3) := by decide +kernel
theorem dX1_fill_35 : decode cX1_fill 35 = .ok (.iload 4, 2) := by decide +kernel
theorem dX1_fill_37 : decode cX1_fill 37 = .ok (.iaload, 1) := by decide +kernel
theorem dX1_fill_38 : decode cX1_fill 38 = .ok (.isub, 1) := by decide +kernel
theorem dX1_fill_39 : decode cX1_fill 39 = .ok (.istore_n 3, 1) := by decide +kernel
theorem dX1_fill_40 : decode cX1_fill 40 = .ok (.iinc 4 1, 3) := by decide +kernel
theorem dX1_fill_43 : decode cX1_fill 43 = .ok (.goto (-33), 3) := by decide +kernel
theorem dX1_fill_46 : decode cX1_fill 46 = .ok (.iload 4, 2) := by decide +kernel
theorem dX1_fill_48 : decode cX1_fill 48 = .ok (.ireturn, 1) := by decide +kernel
theorem dX1_findCuts_0 : decode cX1_findCuts 0 = .ok (.iconst 0, 1) := by decide +kernel
theorem dX1_findCuts_1 : decode cX1_findCuts 1 = .ok (.istore_n 1, 1) := by decide +kernel
theorem dX1_findCuts_2 : decode cX1_findCuts 2 = .ok (.iload_n 1, 1) := by decide +kernel
theorem dX1_findCuts_3 : decode cX1_findCuts 3 = .ok (.aload_n 0, 1) := by decide +kernel
theorem dX1_findCuts_4 : decode cX1_findCuts 4 = .ok (.getfield 55, 3) := by decide +kernel
theorem dX1_findCuts_7 : decode cX1_findCuts 7 = .ok (.if_icmp .ge 22, 3) := by decide +kernel
theorem dX1_findCuts_10 : decode cX1_findCuts 10 = .ok (.aload_n 0, 1) := by decide +kernel
theorem dX1_findCuts_11 : decode cX1_findCuts 11 = .ok (.getfield 35, 3) := by decide +kernel
theorem dX1_findCuts_14 : decode cX1_findCuts 14 = .ok (.aload_n 0, 1) := by decide +kernel
theorem dX1_findCuts_15 : decode cX1_findCuts 15 = .ok (.getfield 47, 3) := by decide +kernel
theorem dX1_findCuts_18 : decode cX1_findCuts 18 = .ok (.aaload, 1) := by decide +kernel
theorem dX1_findCuts_19 : decode cX1_findCuts 19 = .ok (.iload_n 1, 1) := by decide +kernel
theorem dX1_findCuts_20 : decode cX1_findCuts 20 = .ok (.ldc 73, 2) := by decide +kernel
theorem dX1_findCuts_22 : decode cX1_findCuts 22 = .ok (.iastore, 1) := by decide +kernel
theorem dX1_findCuts_23 : decode cX1_findCuts 23 = .ok (.iinc 1 1, 3) := by decide +kernel
theorem dX1_findCuts_26 : decode cX1_findCuts 26 = .ok (.goto (-24), 3) := by decide +kernel
theorem dX1_findCuts_29 : decode cX1_findCuts 29 = .ok (.aload_n 0, 1) := by decide +kernel
theorem dX1_findCuts_30 : decode cX1_findCuts 30 = .ok (.getfield 35, 3) := by decide +kernel
theorem dX1_findCuts_33 : decode cX1_findCuts 33 = .ok (.aload_n 0, 1) := by decide +kernel
theorem dX1_findCuts_34 : decode cX1_findCuts 34 = .ok (.getfield 47, 3) := by decide +kernel
theorem dX1_findCuts_37 : decode cX1_findCuts 37 = .ok (.aaload, 1) := by decide +kernel
theorem dX1_findCuts_38 : decode cX1_findCuts 38 = .ok (.aload_n 0, 1) := by decide +kernel
theorem dX1_findCuts_39 : decode cX1_findCuts 39 = .ok (.getfield 55, 3) := by decide +kernel
theorem dX1_findCuts_42 : decode cX1_findCuts 42 = .ok (.iconst 0, 1) := by decide +kernel
theorem dX1_findCuts_43 : decode cX1_findCuts 43 = .ok (.iastore, 1) := by decide +kernel
theorem dX1_findCuts_44 : decode cX1_findCuts 44 = .ok (.aload_n 0, 1) := by decide +kernel
theorem dX1_findCuts_45 : decode cX1_findCuts 45 = .ok (.getfield 47, 3) := by decide +kernel
theorem dX1_findCuts_48 : decode cX1_findCuts 48 = .ok (.iconst 1, 1) := by decide +kernel
theorem dX1_findCuts_49 : decode cX1_findCuts 49 = .ok (.isub, 1) := by decide +kernel
theorem dX1_findCuts_50 : decode cX1_findCuts 50 = .ok (.istore_n 1, 1) := by decide +kernel
theorem dX1_findCuts_51 : decode cX1_findCuts 51 = .ok (.iload_n 1, 1) := by decide +kernel
theorem dX1_findCuts_52 : decode cX1_findCuts 52 = .ok (.ifCond .lt 31, 3) := by decide +kernel
theorem dX1_findCuts_55 : decode cX1_findCuts 55 = .ok (.iconst 0, 1) := by decide +kernel
theorem dX1_findCuts_56 : decode cX1_findCuts 56 = .ok (.istore_n 2, 1) := by decide +kernel
theorem dX1_findCuts_57 : decode cX1_findCuts 57 = .ok (.iload_n 2, 1) := by decide +kernel
theorem dX1_findCuts_58 : decode cX1_findCuts 58 = .ok (.aload_n 0, 1) := by decide +kernel
theorem dX1_findCuts_59 : decode cX1_findCuts 59 = .ok (.getfield 55, 3) := by decide +kernel
theorem dX1_findCuts_62 : decode cX1_findCuts 62 = .ok (.if_icmp .gt 15, 3) := by decide +kernel
theorem dX1_findCuts_65 : decode cX1_findCuts 65 = .ok (.aload_n 0, 1) := by decide +kernel
theorem dX1_findCuts_66 : decode cX1_findCuts 66 = .ok (.iload_n 1, 1) := by decide +kernel
theorem dX1_findCuts_67 : decode cX1_findCuts 67 = .ok (.iload_n 2, 1) := by decide +kernel
theorem dX1_findCuts_68 : decode cX1_findCuts 68 = .ok (.invokevirtual 74, 3) := by decide +kernel
theorem dX1_findCuts_71 : decode cX1_findCuts 71 = .ok (.iinc 2 1, 3) := by decide +kernel
theorem dX1_findCuts_74 : decode cX1_findCuts 74 = .ok (.goto (-17), 3) := by decide +kernel
theorem dX1_findCuts_77 : decode cX1_findCuts 77 = .ok (.iinc 1 (-1), 3) := by decide +kernel
theorem dX1_findCuts_80 : decode cX1_findCuts 80 = .ok (.goto (-29), 3) := by decide +kernel
theorem dX1_findCuts_83 : decode cX1_findCuts 83 = .ok (.aload_n 0, 1) := by decide +kernel
theorem dX1_findCuts_84 : decode cX1_findCuts 84 = .ok (.aload_n 0, 1) := by decide +kernel
theorem dX1_findCuts_85 : decode cX1_findCuts 85 = .ok (.getfield 35, 3) := by decide +kernel
theorem dX1_findCuts_88 : decode cX1_findCuts 88 = .ok (.iconst 0, 1) := by decide +kernel
theorem dX1_findCuts_89 : decode cX1_findCuts 89 = .ok (.aaload, 1) := by decide +kernel
theorem dX1_findCuts_90 : decode cX1_findCuts 90 = .ok (.iconst 0, 1) := by decide +kernel
theorem dX1_findCuts_91 : decode cX1_findCuts 91 = .ok (.iaload, 1) := by decide +kernel
theorem dX1_findCuts_92 : decode cX1_findCuts 92 = .ok (.putfield 78, 3) := by decide +kernel
theorem dX1_findCuts_95 : decode cX1_findCuts 95 = .ok (.aload_n 0, 1) := by decide +kernel
theorem dX1_findCuts_96 : decode cX1_findCuts 96 = .ok (.getfield 78, 3) := by decide +kernel
theorem dX1_findCuts_99 : decode cX1_findCuts 99 = .ok (.ldc 73, 2) := by decide +kernel
theorem dX1_findCuts_101 : decode cX1_findCuts 101 = .ok (.if_icmp .lt 5, 3) := by decide +kernel
theorem dX1_findCuts_104 : decode cX1_findCuts 104 = .ok (.iconst 0, 1) := by decide +kernel
theorem dX1_findCuts_105 : decode cX1_findCuts 105 = .ok (.ireturn, 1) := by decide +kernel
theorem dX1_findCuts_106 : decode cX1_findCuts 106 = .ok (.aload_n 0, 1) := by decide +kernel
theorem dX1_findCuts_107 : decode cX1_findCuts 107 = .ok (.invokevirtual 81, 3) := by decide +kernel
theorem dX1_findCuts_110 : decode cX1_findCuts 110 = .ok (.iconst 1, 1) := by decide +kernel
theorem dX1_findCuts_111 : decode cX1_findCuts 111 = .ok (.ireturn, 1) := by decide +kernel
theorem dX1_chooseMost_0 : decode cX1_chooseMost 0 = .ok (.aload_n 0, 1) := by decide +kernel
theorem dX1_chooseMost_1 : decode cX1_chooseMost 1 = .ok (.getfield 35, 3) := by decide +kernel
theorem dX1_chooseMost_4 : decode cX1_chooseMost 4 = .ok (.iload_n 1, 1) := by decide +kernel
theorem dX1_chooseMost_5 : decode cX1_chooseMost 5 = .ok (.iconst 1, 1) := by decide +kernel
theorem dX1_chooseMost_6 : decode cX1_chooseMost 6 = .ok (.iadd, 1) := by decide +kernel
theorem dX1_chooseMost_7 : decode cX1_chooseMost 7 = .ok (.aaload, 1) := by decide +kernel
theorem dX1_chooseMost_8 : decode cX1_chooseMost 8 = .ok (.astore_n 3, 1) := by decide +kernel
theorem dX1_chooseMost_9 : decode cX1_chooseMost 9 = .ok (.aload_n 3, 1) := by decide +kernel
theorem dX1_chooseMost_10 : decode cX1_chooseMost 10 = .ok (.iload_n 2, 1) := by decide +kernel
theorem dX1_chooseMost_11 : decode cX1_chooseMost 11 = .ok (.iaload, 1) := by decide +kernel
theorem dX1_chooseMost_12 : decode cX1_chooseMost 12 = .ok (.istore 4, 2) := by decide +kernel
theorem dX1_chooseMost_14 : decode cX1_chooseMost 14 = .ok (.iconst 0, 1) := by decide +kernel
theorem dX1_chooseMost_15 : decode cX1_chooseMost 15 = .ok (.istore 5, 2) := by decide +kernel
theorem dX1_chooseMost_17 : decode cX1_chooseMost 17 = .ok (.aload_n 0, 1) := by decide +kernel
theorem dX1_chooseMost_18 : decode cX1_chooseMost 18 = .ok (.getfield 21, 3) := by decide +kernel
theorem dX1_chooseMost_21 : decode cX1_chooseMost 21 = .ok (.iload_n 1, 1) := by decide +kernel
theorem dX1_chooseMost_22 : decode cX1_chooseMost 22 = .ok (.iaload, 1) := by decide +kernel
theorem dX1_chooseMost_23 : decode cX1_chooseMost 23 = .ok (.iconst 1, 1) := by decide +kernel
theorem dX1_chooseMost_24 : decode cX1_chooseMost 24 = .ok (.if_icmp .ne 8, 3) := by decide +kernel
theorem dX1_chooseMost_27 : decode cX1_chooseMost 27 = .ok (.ldc 84, 2) := by decide +kernel
theorem dX1_chooseMost_29 : decode cX1_chooseMost 29 = .ok (.goto 4, 3) := by decide +kernel
theorem dX1_chooseMost_32 : decode cX1_chooseMost 32 = .ok (.iconst 0, 1) := by decide +kernel
theorem dX1_chooseMost_33 : decode cX1_chooseMost 33 = .ok (.istore 6, 2) := by decide +kernel
theorem dX1_chooseMost_35 : decode cX1_chooseMost 35 = .ok (.aload_n 0, 1) := by decide +kernel
theorem dX1_chooseMost_36 : decode cX1_chooseMost 36 = .ok (.getfield 21, 3) := by decide +kernel
theorem dX1_chooseMost_39 : decode cX1_chooseMost 39 = .ok (.iload_n 1, 1) := by decide +kernel
theorem dX1_chooseMost_40 : decode cX1_chooseMost 40 = .ok (.iaload, 1) := by decide +kernel
theorem dX1_chooseMost_41 : decode cX1_chooseMost 41 = .ok (.iconst 2, 1) := by decide +kernel
theorem dX1_chooseMost_42 : decode cX1_chooseMost 42 = .ok (.if_icmp .ne 7, 3) := by decide +kernel
theorem dX1_chooseMost_45 : decode cX1_chooseMost 45 = .ok (.iconst 0, 1) := by decide +kernel
theorem dX1_chooseMost_46 : decode cX1_chooseMost 46 = .ok (.goto 9, 3) := by decide +kernel
theorem dX1_chooseMost_49 : decode cX1_chooseMost 49 = .ok (.aload_n 0, 1) := by decide +kernel
theorem dX1_chooseMost_50 : decode cX1_chooseMost 50 = .ok (.getfield 18, 3) := by decide +kernel
theorem dX1_chooseMost_53 : decode cX1_chooseMost 53 = .ok (.iload_n 1, 1) := by decide +kernel
theorem dX1_chooseMost_54 : decode cX1_chooseMost 54 = .ok (.iaload, 1) := by decide +kernel
theorem dX1_chooseMost_55 : decode cX1_chooseMost 55 = .ok (.istore 7, 2) := by decide +kernel
theorem dX1_chooseMost_57 : decode cX1_chooseMost 57 = .ok (.iload_n 2, 1) := by decide +kernel
theorem dX1_chooseMost_58 : decode cX1_chooseMost 58 = .ok (.istore 8, 2) := by decide +kernel
theorem dX1_chooseMost_60 : decode cX1_chooseMost 60 = .ok (.iload 8, 2) := by decide +kernel
theorem dX1_chooseMost_62 : decode cX1_chooseMost 62 = .ok (.aload_n 0, 1) := by decide +kernel
theorem dX1_chooseMost_63 : decode cX1_chooseMost 63 = .ok (.getfield 55, 3) := by decide +kernel
theorem dX1_chooseMost_66 : decode cX1_chooseMost 66 = .ok (.if_icmp .ge 78, 3) := by decide +kernel
theorem dX1_chooseMost_69 : decode cX1_chooseMost 69 = .ok (.aload_n 0, 1) := by decide +kernel
theorem dX1_chooseMost_70 : decode cX1_chooseMost 70 = .ok (.getfield 27, 3) := by decide +kernel
theorem dX1_chooseMost_73 : decode cX1_chooseMost 73 = .ok (.iload 8, 2) := by decide +kernel
theorem dX1_chooseMost_75 : decode cX1_chooseMost 75 = .ok (.iaload, 1) := by decide +kernel
theorem dX1_chooseMost_76 : decode cX1_chooseMost 76 = .ok (.iload 7, 2) := by decide +kernel
theorem dX1_chooseMost_78 : decode cX1_chooseMost 78 = .ok (.if_icmp .gt 66, 3) := by decide +kernel
theorem dX1_chooseMost_81 : decode cX1_chooseMost 81 = .ok (.iload 7, 2) := by decide +kernel
theorem dX1_chooseMost_83 : decode cX1_chooseMost 83 = .ok (.aload_n 0, 1) := by decide +kernel
theorem dX1_chooseMost_84 : decode cX1_chooseMost 84 = .ok (.getfield 27, 3) := by decide +kernel
theorem dX1_chooseMost_87 : decode cX1_chooseMost 87 = .ok (.iload 8, 2) := by decide +kernel
theorem dX1_chooseMost_89 : decode cX1_chooseMost 89 = .ok (.iaload, 1) := by decide +kernel
theorem dX1_chooseMost_90 : decode cX1_chooseMost 90 = .ok (.isub, 1) := by decide +kernel
theorem dX1_chooseMost_91 : decode cX1_chooseMost 91 = .ok (.istore 7, 2) := by decide +kernel
theorem dX1_chooseMost_93 : decode cX1_chooseMost 93 = .ok (.iload 6, 2) := by decide +kernel
theorem dX1_chooseMost_95 : decode cX1_chooseMost 95 = .ok (.aload_n 0, 1) := by decide +kernel
theorem dX1_chooseMost_96 : decode cX1_chooseMost 96 = .ok (.iload 8, 2) := by decide +kernel
theorem dX1_chooseMost_98 : decode cX1_chooseMost 98 = .ok (.iload_n 1, 1) := by decide +kernel
theorem dX1_chooseMost_99 : decode cX1_chooseMost 99 = .ok (.invokevirtual 85, 3) := by decide +kernel
theorem dX1_chooseMost_102 : decode cX1_chooseMost 102 = .ok (.iadd, 1) := by decide +kernel
theorem dX1_chooseMost_103 : decode cX1_chooseMost 103 = .ok (.istore 6, 2) := by decide +kernel
theorem dX1_chooseMost_105 : decode cX1_chooseMost 105 = .ok (.iload 6, 2) := by decide +kernel
theorem dX1_chooseMost_107 : decode cX1_chooseMost 107 = .ok (.aload_n 3, 1) := by decide +kernel
theorem dX1_chooseMost_108 : decode cX1_chooseMost 108 = .ok (.iload 8, 2) := by decide +kernel
theorem dX1_chooseMost_110 : decode cX1_chooseMost 110 = .ok (.iconst 1, 1) := by decide +kernel
theorem dX1_chooseMost_111 : decode cX1_chooseMost 111 = .ok (.iadd, 1) := by decide +kernel
theorem dX1_chooseMost_112 : decode cX1_chooseMost 112 = .ok (.iaload, 1) := by decide +kernel
theorem dX1_chooseMost_113 : decode cX1_chooseMost 113 = .ok (.iadd, 1) := by decide +kernel
theorem dX1_chooseMost_114 : decode cX1_chooseMost 114 = .ok (.iload 4, 2) := by decide +kernel
theorem dX1_chooseMost_116 : decode cX1_chooseMost 116 = .ok (.if_icmp .gt 22, 3) := by decide +kernel
theorem dX1_chooseMost_119 : decode cX1_chooseMost 119 = .ok (.iload 6, 2) := by decide +kernel
theorem dX1_chooseMost_121 : decode cX1_chooseMost 121 = .ok (.aload_n 3, 1) := by decide +kernel
theorem dX1_chooseMost_122 : decode cX1_chooseMost 122 = .ok (.iload 8, 2) := by decide +kernel
theorem dX1_chooseMost_124 : decode cX1_chooseMost 124 = .ok (.iconst 1, 1) := by decide +kernel
theorem dX1_chooseMost_125 : decode cX1_chooseMost 125 = .ok (.iadd, 1) := by decide +kernel
theorem dX1_chooseMost_126 : decode cX1_chooseMost 126 = .ok (.iaload, 1) := by decide +kernel
theorem dX1_chooseMost_127 : decode cX1_chooseMost 127 = .ok (.iadd, 1) := by decide +kernel
theorem dX1_chooseMost_128 : decode cX1_chooseMost 128 = .ok (.istore 4, 2) := by decide +kernel
theorem dX1_chooseMost_130 : decode cX1_chooseMost 130 = .ok (.iload 8, 2) := by decide +kernel
theorem dX1_chooseMost_132 : decode cX1_chooseMost 132 = .ok (.iconst 1, 1) := by decide +kernel
theorem dX1_chooseMost_133 : decode cX1_chooseMost 133 = .ok (.iadd, 1) := by decide +kernel
theorem dX1_chooseMost_134 : decode cX1_chooseMost 134 = .ok (.iload_n 2, 1) := by decide +kernel
theorem dX1_chooseMost_135 : decode cX1_chooseMost 135 = .ok (.isub, 1) := by decide +kernel
theorem dX1_chooseMost_136 : decode cX1_chooseMost 136 = .ok (.istore 5, 2) := by decide +kernel
theorem dX1_chooseMost_138 : decode cX1_chooseMost 138 = .ok (.iinc 8 1, 3) := by decide +kernel
theorem dX1_chooseMost_141 : decode cX1_chooseMost 141 = .ok (.goto (-81), 3) := by decide +kernel
theorem dX1_chooseMost_144 : decode cX1_chooseMost 144 = .ok (.aload_n 0, 1) := by decide +kernel
theorem dX1_chooseMost_145 : decode cX1_chooseMost 145 = .ok (.getfield 35, 3) := by decide +kernel
theorem dX1_chooseMost_148 : decode cX1_chooseMost 148 = .ok (.iload_n 1, 1) := by decide +kernel
theorem dX1_chooseMost_149 : decode cX1_chooseMost 149 = .ok (.aaload, 1) := by decide +kernel
theorem dX1_chooseMost_150 : decode cX1_chooseMost 150 = .ok (.iload_n 2, 1) := by decide +kernel
theorem dX1_chooseMost_151 : decode cX1_chooseMost 151 = .ok (.iload 4, 2) := by decide +kernel
theorem dX1_chooseMost_153 : decode cX1_chooseMost 153 = .ok (.iastore, 1) := by decide +kernel
theorem dX1_chooseMost_154 : decode cX1_chooseMost 154 = .ok (.aload_n 0, 1) := by decide +kernel
theorem dX1_chooseMost_155 : decode cX1_chooseMost 155 = .ok (.getfield 38, 3) := by decide +kernel
theorem dX1_chooseMost_158 : decode cX1_chooseMost 158 = .ok (.iload_n 1, 1) := by decide +kernel
theorem dX1_chooseMost_159 : decode cX1_chooseMost 159 = .ok (.aaload, 1) := by decide +kernel
theorem dX1_chooseMost_160 : decode cX1_chooseMost 160 = .ok (.iload_n 2, 1) := by decide +kernel
theorem dX1_chooseMost_161 : decode cX1_chooseMost 161 = .ok (.iload 5, 2) := by decide +kernel
theorem dX1_chooseMost_163 : decode cX1_chooseMost 163 = .ok (.iastore, 1) := by decide +kernel
theorem dX1_chooseMost_164 : decode cX1_chooseMost 164 = .ok (.return_, 1) := by decide +kernel
theorem dX1_priceOfMove_0 : decode cX1_priceOfMove 0 = .ok (.aload_n 0, 1) := by decide +kernel
theorem dX1_priceOfMove_1 : decode cX1_priceOfMove 1 = .ok (.getfield 30, 3) := by decide +kernel
theorem dX1_priceOfMove_4 : decode cX1_priceOfMove 4 = .ok (.iload_n 1, 1) := by decide +kernel
theorem dX1_priceOfMove_5 : decode cX1_priceOfMove 5 = .ok (.iaload, 1) := by decide +kernel
theorem dX1_priceOfMove_6 : decode cX1_priceOfMove 6 = .ok (.iload_n 2, 1) := by decide +kernel
theorem dX1_priceOfMove_7 : decode cX1_priceOfMove 7 = .ok (.if_icmp .eq 13, 3) := by decide +kernel
theorem dX1_priceOfMove_10 : decode cX1_priceOfMove 10 = .ok (.aload_n 0, 1) := by decide +kernel
theorem dX1_priceOfMove_11 : decode cX1_priceOfMove 11 = .ok (.getfield 30, 3) := by decide +kernel
theorem dX1_priceOfMove_14 : decode cX1_priceOfMove 14 = .ok (.iload_n 1, 1) := by decide +kernel
theorem dX1_priceOfMove_15 : decode cX1_priceOfMove 15 = .ok (.iaload, 1) := by decide +kernel
theorem dX1_priceOfMove_16 : decode cX1_priceOfMove 16 = .ok (.iconst (-1), 1) := by decide +kernel
theorem dX1_priceOfMove_17 : decode cX1_priceOfMove 17 = .ok (.if_icmp .ne 7, 3) := by decide +kernel
theorem dX1_priceOfMove_20 : decode cX1_priceOfMove 20 = .ok (.iconst 1, 1) := by decide +kernel
theorem dX1_priceOfMove_21 : decode cX1_priceOfMove 21 = .ok (.goto 4, 3) := by decide +kernel
theorem dX1_priceOfMove_24 : decode cX1_priceOfMove 24 = .ok (.iconst 0, 1) := by decide +kernel
theorem dX1_priceOfMove_25 : decode cX1_priceOfMove 25 = .ok (.istore_n 3, 1) := by decide +kernel
theorem dX1_priceOfMove_26 : decode cX1_priceOfMove 26 = .ok (.iload_n 3, 1) := by decide +kernel
theorem dX1_priceOfMove_27 : decode cX1_priceOfMove 27 = .ok (.ifCond .eq 7, 3) := by decide +kernel
theorem dX1_priceOfMove_30 : decode cX1_priceOfMove 30 = .ok (.iconst 0, 1) := by decide +kernel
theorem dX1_priceOfMove_31 : decode cX1_priceOfMove 31 = .ok (.goto 14, 3) := by decide +kernel
theorem dX1_priceOfMove_34 : decode cX1_priceOfMove 34 = .ok (.bipush 100, 2) := by decide +kernel
theorem dX1_priceOfMove_36 : decode cX1_priceOfMove 36 = .ok (.aload_n 0, 1) := by decide +kernel
theorem dX1_priceOfMove_37 : decode cX1_priceOfMove 37 = .ok (.getfield 24, 3) := by decide +kernel
theorem dX1_priceOfMove_40 : decode cX1_priceOfMove 40 = .ok (.iload_n 1, 1) := by decide +kernel
theorem dX1_priceOfMove_41 : decode cX1_priceOfMove 41 = .ok (.iaload, 1) := by decide +kernel
theorem dX1_priceOfMove_42 : decode cX1_priceOfMove 42 = .ok (.imul, 1) := by decide +kernel
theorem dX1_priceOfMove_43 : decode cX1_priceOfMove 43 = .ok (.iconst 1, 1) := by decide +kernel
theorem dX1_priceOfMove_44 : decode cX1_priceOfMove 44 = .ok (.iadd, 1) := by decide +kernel
theorem dX1_priceOfMove_45 : decode cX1_priceOfMove 45 = .ok (.ireturn, 1) := by decide +kernel
theorem dX1_follow_0 : decode cX1_follow 0 = .ok (.iconst 0, 1) := by decide +kernel
theorem dX1_follow_1 : decode cX1_follow 1 = .ok (.istore_n 1, 1) := by decide +kernel
theorem dX1_follow_2 : decode cX1_follow 2 = .ok (.iconst 0, 1) := by decide +kernel
theorem dX1_follow_3 : decode cX1_follow 3 = .ok (.istore_n 2, 1) := by decide +kernel
theorem dX1_follow_4 : decode cX1_follow 4 = .ok (.iload_n 2, 1) := by decide +kernel
theorem dX1_follow_5 : decode cX1_follow 5 = .ok (.aload_n 0, 1) := by decide +kernel
theorem dX1_follow_6 : decode cX1_follow 6 = .ok (.getfield 47, 3) := by decide +kernel
theorem dX1_follow_9 : decode cX1_follow 9 = .ok (.if_icmp .ge 57, 3) := by decide +kernel
theorem dX1_follow_12 : decode cX1_follow 12 = .ok (.aload_n 0, 1) := by decide +kernel
theorem dX1_follow_13 : decode cX1_follow 13 = .ok (.getfield 15, 3) := by decide +kernel
theorem dX1_follow_16 : decode cX1_follow 16 = .ok (.iload_n 2, 1) := by decide +kernel
theorem dX1_follow_17 : decode cX1_follow 17 = .ok (.aload_n 0, 1) := by decide +kernel
theorem dX1_follow_18 : decode cX1_follow 18 = .ok (.getfield 38, 3) := by decide +kernel
theorem dX1_follow_21 : decode cX1_follow 21 = .ok (.iload_n 2, 1) := by decide +kernel
theorem dX1_follow_22 : decode cX1_follow 22 = .ok (.aaload, 1) := by decide +kernel
theorem dX1_follow_23 : decode cX1_follow 23 = .ok (.iload_n 1, 1) := by decide +kernel
theorem dX1_follow_24 : decode cX1_follow 24 = .ok (.iaload, 1) := by decide +kernel
theorem dX1_follow_25 : decode cX1_follow 25 = .ok (.iastore, 1) := by decide +kernel
theorem dX1_follow_26 : decode cX1_follow 26 = .ok (.iload_n 1, 1) := by decide +kernel
theorem dX1_follow_27 : decode cX1_follow 27 = .ok (.aload_n 0, 1) := by decide +kernel
theorem dX1_follow_28 : decode cX1_follow 28 = .ok (.getfield 15, 3) := by decide +kernel
theorem dX1_follow_31 : decode cX1_follow 31 = .ok (.iload_n 2, 1) := by decide +kernel
theorem dX1_follow_32 : decode cX1_follow 32 = .ok (.iaload, 1) := by decide +kernel
theorem dX1_follow_33 : decode cX1_follow 33 = .ok (.iadd, 1) := by decide +kernel
theorem dX1_follow_34 : decode cX1_follow 34 = .ok (.istore_n 3, 1) := by decide +kernel
theorem dX1_follow_35 : decode cX1_follow 35 = .ok (.iload_n 1, 1) := by decide +kernel
theorem dX1_follow_36 : decode cX1_follow 36 = .ok (.istore 4, 2) := by decide +kernel
theorem dX1_follow_38 : decode cX1_follow 38 = .ok (.iload 4, 2) := by decide +kernel
theorem dX1_follow_40 : decode cX1_follow 40 = .ok (.iload_n 3, 1) := by decide +kernel
theorem dX1_follow_41 : decode cX1_follow 41 = .ok (.if_icmp .ge 17, 3) := by decide +kernel
theorem dX1_follow_44 : decode cX1_follow 44 = .ok (.aload_n 0, 1) := by decide +kernel
theorem dX1_follow_45 : decode cX1_follow 45 = .ok (.getfield 9, 3) := by decide +kernel
theorem dX1_follow_48 : decode cX1_follow 48 = .ok (.iload 4, 2) := by decide +kernel
theorem dX1_follow_50 : decode cX1_follow 50 = .ok (.iload_n 2, 1) := by decide +kernel
theorem dX1_follow_51 : decode cX1_follow 51 = .ok (.iastore, 1) := by decide +kernel
theorem dX1_follow_52 : decode cX1_follow 52 = .ok (.iinc 4 1, 3) := by decide +kernel
theorem dX1_follow_55 : decode cX1_follow 55 = .ok (.goto (-17), 3) := by decide +kernel
theorem dX1_follow_58 : decode cX1_follow 58 = .ok (.iload_n 3, 1) := by decide +kernel
theorem dX1_follow_59 : decode cX1_follow 59 = .ok (.istore_n 1, 1) := by decide +kernel
theorem dX1_follow_60 : decode cX1_follow 60 = .ok (.iinc 2 1, 3) := by decide +kernel
theorem dX1_follow_63 : decode cX1_follow 63 = .ok (.goto (-59), 3) := by decide +kernel
theorem dX1_follow_66 : decode cX1_follow 66 = .ok (.return_, 1) := by decide +kernel
theorem dX1_partOfPrice_0 : decode cX1_partOfPrice 0 = .ok (.iload_n 1, 1) := by decide +kernel
theorem dX1_partOfPrice_1 : decode cX1_partOfPrice 1 = .ok (.lookupswitch 46 #[(0, 27), (1, 35)], 27) := by decide +kernel
theorem dX1_partOfPrice_28 : decode cX1_partOfPrice 28 = .ok (.aload_n 0, 1) := by decide +kernel
theorem dX1_partOfPrice_29 : decode cX1_partOfPrice 29 = .ok (.getfield 78, 3) := by decide +kernel
theorem dX1_partOfPrice_32 : decode cX1_partOfPrice 32 = .ok (.ldc 84, 2) := by decide +kernel
theorem dX1_partOfPrice_34 : decode cX1_partOfPrice 34 = .ok (.idiv, 1) := by decide +kernel
theorem dX1_partOfPrice_35 : decode cX1_partOfPrice 35 = .ok (.ireturn, 1) := by decide +kernel
theorem dX1_partOfPrice_36 : decode cX1_partOfPrice 36 = .ok (.aload_n 0, 1) := by decide +kernel
theorem dX1_partOfPrice_37 : decode cX1_partOfPrice 37 = .ok (.getfield 78, 3) := by decide +kernel
theorem dX1_partOfPrice_40 : decode cX1_partOfPrice 40 = .ok (.ldc 84, 2) := by decide +kernel
theorem dX1_partOfPrice_42 : decode cX1_partOfPrice 42 = .ok (.irem, 1) := by decide +kernel
theorem dX1_partOfPrice_43 : decode cX1_partOfPrice 43 = .ok (.bipush 100, 2) := by decide +kernel
theorem dX1_partOfPrice_45 : decode cX1_partOfPrice 45 = .ok (.idiv, 1) := by decide +kernel
theorem dX1_partOfPrice_46 : decode cX1_partOfPrice 46 = .ok (.ireturn, 1) := by decide +kernel
theorem dX1_partOfPrice_47 : decode cX1_partOfPrice 47 = .ok (.aload_n 0, 1) := by decide +kernel
theorem dX1_partOfPrice_48 : decode cX1_partOfPrice 48 = .ok (.getfield 78, 3) := by decide +kernel
theorem dX1_partOfPrice_51 : decode cX1_partOfPrice 51 = .ok (.bipush 100, 2) := by decide +kernel
theorem dX1_partOfPrice_53 : decode cX1_partOfPrice 53 = .ok (.irem, 1) := by decide +kernel
theorem dX1_partOfPrice_54 : decode cX1_partOfPrice 54 = .ok (.ireturn, 1) := by decide +kernel
theorem dX2_init_0 : decode cX2_init 0 = .ok (.aload_n 0, 1) := by decide +kernel
theorem dX2_init_1 : decode cX2_init 1 = .ok (.invokespecial 3, 3) := by decide +kernel
theorem dX2_init_4 : decode cX2_init 4 = .ok (.aload_n 0, 1) := by decide +kernel
theorem dX2_init_5 : decode cX2_init 5 = .ok (.bipush 8, 2) := by decide +kernel
theorem dX2_init_7 : decode cX2_init 7 = .ok (.newarray .int, 2) := by decide +kernel
theorem dX2_init_9 : decode cX2_init 9 = .ok (.putfield 9, 3) := by decide +kernel
theorem dX2_init_12 : decode cX2_init 12 = .ok (.return_, 1) := by decide +kernel
theorem dX2_add_0 : decode cX2_add 0 = .ok (.aload_n 0, 1) := by decide +kernel
theorem dX2_add_1 : decode cX2_add 1 = .ok (.getfield 15, 3) := by decide +kernel
theorem dX2_add_4 : decode cX2_add 4 = .ok (.istore_n 2, 1) := by decide +kernel
theorem dX2_add_5 : decode cX2_add 5 = .ok (.aload_n 0, 1) := by decide +kernel
theorem dX2_add_6 : decode cX2_add 6 = .ok (.getfield 9, 3) := by decide +kernel
theorem dX2_add_9 : decode cX2_add 9 = .ok (.iload_n 2, 1) := by decide +kernel
theorem dX2_add_10 : decode cX2_add 10 = .ok (.iload_n 1, 1) := by decide +kernel
theorem dX2_add_11 : decode cX2_add 11 = .ok (.iastore, 1) := by decide +kernel
theorem dX2_add_12 : decode cX2_add 12 = .ok (.aload_n 0, 1) := by decide +kernel
theorem dX2_add_13 : decode cX2_add 13 = .ok (.dup, 1) := by decide +kernel
theorem dX2_add_14 : decode cX2_add 14 = .ok (.getfield 15, 3) := by decide +kernel
theorem dX2_add_17 : decode cX2_add 17 = .ok (.iconst 1, 1) := by decide +kernel
theorem dX2_add_18 : decode cX2_add 18 = .ok (.iadd, 1) := by decide +kernel
theorem dX2_add_19 : decode cX2_add 19 = .ok (.putfield 15, 3) := by decide +kernel
theorem dX2_add_22 : decode cX2_add 22 = .ok (.iload_n 2, 1) := by decide +kernel
theorem dX2_add_23 : decode cX2_add 23 = .ok (.ireturn, 1) := by decide +kernel
theorem dX3_init_0 : decode cX3_init 0 = .ok (.aload_n 0, 1) := by decide +kernel
theorem dX3_init_1 : decode cX3_init 1 = .ok (.invokespecial 3, 3) := by decide +kernel
theorem dX3_init_4 : decode cX3_init 4 = .ok (.aload_n 0, 1) := by decide +kernel
theorem dX3_init_5 : decode cX3_init 5 = .ok (.sipush 200, 3) := by decide +kernel
theorem dX3_init_8 : decode cX3_init 8 = .ok (.newarray .int, 2) := by decide +kernel
theorem dX3_init_10 : decode cX3_init 10 = .ok (.putfield 11, 3) := by decide +kernel
theorem dX3_init_13 : decode cX3_init 13 = .ok (.return_, 1) := by decide +kernel
theorem dX3_write_0 : decode cX3_write 0 = .ok (.aload_n 0, 1) := by decide +kernel
theorem dX3_write_1 : decode cX3_write 1 = .ok (.getfield 15, 3) := by decide +kernel
theorem dX3_write_4 : decode cX3_write 4 = .ok (.iconst 5, 1) := by decide +kernel
theorem dX3_write_5 : decode cX3_write 5 = .ok (.imul, 1) := by decide +kernel
theorem dX3_write_6 : decode cX3_write 6 = .ok (.istore 6, 2) := by decide +kernel
theorem dX3_write_8 : decode cX3_write 8 = .ok (.aload_n 0, 1) := by decide +kernel
theorem dX3_write_9 : decode cX3_write 9 = .ok (.getfield 11, 3) := by decide +kernel
theorem dX3_write_12 : decode cX3_write 12 = .ok (.iload 6, 2) := by decide +kernel
theorem dX3_write_14 : decode cX3_write 14 = .ok (.iload_n 1, 1) := by decide +kernel
theorem dX3_write_15 : decode cX3_write 15 = .ok (.iastore, 1) := by decide +kernel
theorem dX3_write_16 : decode cX3_write 16 = .ok (.aload_n 0, 1) := by decide +kernel
theorem dX3_write_17 : decode cX3_write 17 = .ok (.getfield 11, 3) := by decide +kernel
theorem dX3_write_20 : decode cX3_write 20 = .ok (.iload 6, 2) := by decide +kernel
theorem dX3_write_22 : decode cX3_write 22 = .ok (.iconst 1, 1) := by decide +kernel
theorem dX3_write_23 : decode cX3_write 23 = .ok (.iadd, 1) := by decide +kernel
theorem dX3_write_24 : decode cX3_write 24 = .ok (.iload_n 2, 1) := by decide +kernel
theorem dX3_write_25 : decode cX3_write 25 = .ok (.iastore, 1) := by decide +kernel
theorem dX3_write_26 : decode cX3_write 26 = .ok (.aload_n 0, 1) := by decide +kernel
theorem dX3_write_27 : decode cX3_write 27 = .ok (.getfield 11, 3) := by decide +kernel
theorem dX3_write_30 : decode cX3_write 30 = .ok (.iload 6, 2) := by decide +kernel
theorem dX3_write_32 : decode cX3_write 32 = .ok (.iconst 2, 1) := by decide +kernel
theorem dX3_write_33 : decode cX3_write 33 = .ok (.iadd, 1) := by decide +kernel
theorem dX3_write_34 : decode cX3_write 34 = .ok (.iload_n 3, 1) := by decide +kernel
theorem dX3_write_35 : decode cX3_write 35 = .ok (.iastore, 1) := by decide +kernel
theorem dX3_write_36 : decode cX3_write 36 = .ok (.aload_n 0, 1) := by decide +kernel
theorem dX3_write_37 : decode cX3_write 37 = .ok (.getfield 11, 3) := by decide +kernel
theorem dX3_write_40 : decode cX3_write 40 = .ok (.iload 6, 2) := by decide +kernel
theorem dX3_write_42 : decode cX3_write 42 = .ok (.iconst 3, 1) := by decide +kernel
theorem dX3_write_43 : decode cX3_write 43 = .ok (.iadd, 1) := by decide +kernel
theorem dX3_write_44 : decode cX3_write 44 = .ok (.iload 4, 2) := by decide +kernel
theorem dX3_write_46 : decode cX3_write 46 = .ok (.iastore, 1) := by decide +kernel
theorem dX3_write_47 : decode cX3_write 47 = .ok (.aload_n 0, 1) := by decide +kernel
theorem dX3_write_48 : decode cX3_write 48 = .ok (.getfield 11, 3) := by decide +kernel
theorem dX3_write_51 : decode cX3_write 51 = .ok (.iload 6, 2) := by decide +kernel
theorem dX3_write_53 : decode cX3_write 53 = .ok (.iconst 4, 1) := by decide +kernel
theorem dX3_write_54 : decode cX3_write 54 = .ok (.iadd, 1) := by decide +kernel
theorem dX3_write_55 : decode cX3_write 55 = .ok (.iload 5, 2) := by decide +kernel
theorem dX3_write_57 : decode cX3_write 57 = .ok (.iastore, 1) := by decide +kernel
theorem dX3_write_58 : decode cX3_write 58 = .ok (.aload_n 0, 1) := by decide +kernel
theorem dX3_write_59 : decode cX3_write 59 = .ok (.aload_n 0, 1) := by decide +kernel
theorem dX3_write_60 : decode cX3_write 60 = .ok (.getfield 15, 3) := by decide +kernel
theorem dX3_write_63 : decode cX3_write 63 = .ok (.iconst 1, 1) := by decide +kernel
theorem dX3_write_64 : decode cX3_write 64 = .ok (.iadd, 1) := by decide +kernel
theorem dX3_write_65 : decode cX3_write 65 = .ok (.bipush 40, 2) := by decide +kernel
theorem dX3_write_67 : decode cX3_write 67 = .ok (.irem, 1) := by decide +kernel
theorem dX3_write_68 : decode cX3_write 68 = .ok (.putfield 15, 3) := by decide +kernel
theorem dX3_write_71 : decode cX3_write 71 = .ok (.aload_n 0, 1) := by decide +kernel
theorem dX3_write_72 : decode cX3_write 72 = .ok (.aload_n 0, 1) := by decide +kernel
theorem dX3_write_73 : decode cX3_write 73 = .ok (.getfield 19, 3) := by decide +kernel
theorem dX3_write_76 : decode cX3_write 76 = .ok (.iconst 1, 1) := by decide +kernel
theorem dX3_write_77 : decode cX3_write 77 = .ok (.iadd, 1) := by decide +kernel
theorem dX3_write_78 : decode cX3_write 78 = .ok (.bipush 40, 2) := by decide +kernel
theorem dX3_write_80 : decode cX3_write 80 = .ok (.invokestatic 22, 3) := by decide +kernel
theorem dX3_write_83 : decode cX3_write 83 = .ok (.putfield 19, 3) := by decide +kernel
theorem dX3_write_86 : decode cX3_write 86 = .ok (.return_, 1) := by decide +kernel
theorem dX3_read_0 : decode cX3_read 0 = .ok (.iload_n 1, 1) := by decide +kernel
theorem dX3_read_1 : decode cX3_read 1 = .ok (.ifCond .lt 20, 3) := by decide +kernel
theorem dX3_read_4 : decode cX3_read 4 = .ok (.iload_n 1, 1) := by decide +kernel
theorem dX3_read_5 : decode cX3_read 5 = .ok (.aload_n 0, 1) := by decide +kernel
theorem dX3_read_6 : decode cX3_read 6 = .ok (.getfield 19, 3) := by decide +kernel
theorem dX3_read_9 : decode cX3_read 9 = .ok (.if_icmp .ge 12, 3) := by decide +kernel
theorem dX3_read_12 : decode cX3_read 12 = .ok (.iload_n 2, 1) := by decide +kernel
theorem dX3_read_13 : decode cX3_read 13 = .ok (.ifCond .lt 8, 3) := by decide +kernel
theorem dX3_read_16 : decode cX3_read 16 = .ok (.iload_n 2, 1) := by decide +kernel
theorem dX3_read_17 : decode cX3_read 17 = .ok (.iconst 5, 1) := by decide +kernel
theorem dX3_read_18 : decode cX3_read 18 = .ok (.if_icmp .lt 5, 3) := by decide +kernel
theorem dX3_read_21 : decode cX3_read 21 = .ok (.iconst (-1), 1) := by decide +kernel
theorem dX3_read_22 : decode cX3_read 22 = .ok (.ireturn, 1) := by decide +kernel
theorem dX3_read_23 : decode cX3_read 23 = .ok (.aload_n 0, 1) := by decide +kernel
theorem dX3_read_24 : decode cX3_read 24 = .ok (.getfield 15, 3) := by decide +kernel
theorem dX3_read_27 : decode cX3_read 27 = .ok (.bipush 40, 2) := by decide +kernel
theorem dX3_read_29 : decode cX3_read 29 = .ok (.iadd, 1) := by decide +kernel
theorem dX3_read_30 : decode cX3_read 30 = .ok (.iconst 1, 1) := by decide +kernel
theorem dX3_read_31 : decode cX3_read 31 = .ok (.isub, 1) := by decide +kernel
theorem dX3_read_32 : decode cX3_read 32 = .ok (.iload_n 1, 1) := by decide +kernel
theorem dX3_read_33 : decode cX3_read 33 = .ok (.isub, 1) := by decide +kernel
theorem dX3_read_34 : decode cX3_read 34 = .ok (.bipush 40, 2) := by decide +kernel
theorem dX3_read_36 : decode cX3_read 36 = .ok (.irem, 1) := by decide +kernel
theorem dX3_read_37 : decode cX3_read 37 = .ok (.istore_n 3, 1) := by decide +kernel
theorem dX3_read_38 : decode cX3_read 38 = .ok (.aload_n 0, 1) := by decide +kernel
theorem dX3_read_39 : decode cX3_read 39 = .ok (.getfield 11, 3) := by decide +kernel
theorem dX3_read_42 : decode cX3_read 42 = .ok (.iload_n 3, 1) := by decide +kernel
theorem dX3_read_43 : decode cX3_read 43 = .ok (.iconst 5, 1) := by decide +kernel
theorem dX3_read_44 : decode cX3_read 44 = .ok (.imul, 1) := by decide +kernel
theorem dX3_read_45 : decode cX3_read 45 = .ok (.iload_n 2, 1) := by decide +kernel
theorem dX3_read_46 : decode cX3_read 46 = .ok (.iadd, 1) := by decide +kernel
theorem dX3_read_47 : decode cX3_read 47 = .ok (.iaload, 1) := by decide +kernel
theorem dX3_read_48 : decode cX3_read 48 = .ok (.ireturn, 1) := by decide +kernel
theorem dX4_init_0 : decode cX4_init 0 = .ok (.aload_n 0, 1) := by decide +kernel
theorem dX4_init_1 : decode cX4_init 1 = .ok (.invokespecial 3, 3) := by decide +kernel
theorem dX4_init_4 : decode cX4_init 4 = .ok (.aload_n 0, 1) := by decide +kernel
theorem dX4_init_5 : decode cX4_init 5 = .ok (.bipush 60, 2) := by decide +kernel
theorem dX4_init_7 : decode cX4_init 7 = .ok (.newarray .int, 2) := by decide +kernel
theorem dX4_init_9 : decode cX4_init 9 = .ok (.putfield 9, 3) := by decide +kernel
theorem dX4_init_12 : decode cX4_init 12 = .ok (.aload_n 0, 1) := by decide +kernel
theorem dX4_init_13 : decode cX4_init 13 = .ok (.bipush 60, 2) := by decide +kernel
theorem dX4_init_15 : decode cX4_init 15 = .ok (.newarray .int, 2) := by decide +kernel
theorem dX4_init_17 : decode cX4_init 17 = .ok (.putfield 15, 3) := by decide +kernel
theorem dX4_init_20 : decode cX4_init 20 = .ok (.aload_n 0, 1) := by decide +kernel
theorem dX4_init_21 : decode cX4_init 21 = .ok (.bipush 60, 2) := by decide +kernel
theorem dX4_init_23 : decode cX4_init 23 = .ok (.newarray .int, 2) := by decide +kernel
theorem dX4_init_25 : decode cX4_init 25 = .ok (.putfield 18, 3) := by decide +kernel
theorem dX4_init_28 : decode cX4_init 28 = .ok (.aload_n 0, 1) := by decide +kernel
theorem dX4_init_29 : decode cX4_init 29 = .ok (.bipush 60, 2) := by decide +kernel
theorem dX4_init_31 : decode cX4_init 31 = .ok (.newarray .int, 2) := by decide +kernel
theorem dX4_init_33 : decode cX4_init 33 = .ok (.putfield 21, 3) := by decide +kernel
theorem dX4_init_36 : decode cX4_init 36 = .ok (.aload_n 0, 1) := by decide +kernel
theorem dX4_init_37 : decode cX4_init 37 = .ok (.bipush 60, 2) := by decide +kernel
theorem dX4_init_39 : decode cX4_init 39 = .ok (.newarray .int, 2) := by decide +kernel
theorem dX4_init_41 : decode cX4_init 41 = .ok (.putfield 24, 3) := by decide +kernel
theorem dX4_init_44 : decode cX4_init 44 = .ok (.return_, 1) := by decide +kernel
theorem dX4_exists_0 : decode cX4_exists 0 = .ok (.aload_n 0, 1) := by decide +kernel
theorem dX4_exists_1 : decode cX4_exists 1 = .ok (.getfield 27, 3) := by decide +kernel
theorem dX4_exists_4 : decode cX4_exists 4 = .ok (.aload_n 0, 1) := by decide +kernel
theorem dX4_exists_5 : decode cX4_exists 5 = .ok (.getfield 31, 3) := by decide +kernel
theorem dX4_exists_8 : decode cX4_exists 8 = .ok (.if_icmp .ge 7, 3) := by decide +kernel
theorem dX4_exists_11 : decode cX4_exists 11 = .ok (.iconst 1, 1) := by decide +kernel
theorem dX4_exists_12 : decode cX4_exists 12 = .ok (.goto 4, 3) := by decide +kernel
theorem dX4_exists_15 : decode cX4_exists 15 = .ok (.iconst 0, 1) := by decide +kernel
theorem dX4_exists_16 : decode cX4_exists 16 = .ok (.ireturn, 1) := by decide +kernel
theorem dX4_end_0 : decode cX4_end 0 = .ok (.aload_n 0, 1) := by decide +kernel
theorem dX4_end_1 : decode cX4_end 1 = .ok (.iconst 0, 1) := by decide +kernel
theorem dX4_end_2 : decode cX4_end 2 = .ok (.putfield 31, 3) := by decide +kernel
theorem dX4_end_5 : decode cX4_end 5 = .ok (.aload_n 0, 1) := by decide +kernel
theorem dX4_end_6 : decode cX4_end 6 = .ok (.iconst 0, 1) := by decide +kernel
theorem dX4_end_7 : decode cX4_end 7 = .ok (.putfield 27, 3) := by decide +kernel
theorem dX4_end_10 : decode cX4_end 10 = .ok (.return_, 1) := by decide +kernel
theorem dX4_make_0 : decode cX4_make 0 = .ok (.aload_n 0, 1) := by decide +kernel
theorem dX4_make_1 : decode cX4_make 1 = .ok (.invokevirtual 34, 3) := by decide +kernel
theorem dX4_make_4 : decode cX4_make 4 = .ok (.aload_n 0, 1) := by decide +kernel
theorem dX4_make_5 : decode cX4_make 5 = .ok (.iload_n 3, 1) := by decide +kernel
theorem dX4_make_6 : decode cX4_make 6 = .ok (.putfield 37, 3) := by decide +kernel
theorem dX4_make_9 : decode cX4_make 9 = .ok (.aload_n 2, 1) := by decide +kernel
theorem dX4_make_10 : decode cX4_make 10 = .ok (.iconst 0, 1) := by decide +kernel
theorem dX4_make_11 : decode cX4_make 11 = .ok (.aload_n 0, 1) := by decide +kernel
theorem dX4_make_12 : decode cX4_make 12 = .ok (.getfield 9, 3) := by decide +kernel
theorem dX4_make_15 : decode cX4_make 15 = .ok (.iconst 0, 1) := by decide +kernel
theorem dX4_make_16 : decode cX4_make 16 = .ok (.aload_n 1, 1) := by decide +kernel
theorem dX4_make_17 : decode cX4_make 17 = .ok (.getfield 40, 3) := by decide +kernel
theorem dX4_make_20 : decode cX4_make 20 = .ok (.invokestatic 45, 3) := by decide +kernel
theorem dX4_make_23 : decode cX4_make 23 = .ok (.aload_n 1, 1) := by decide +kernel
theorem dX4_make_24 : decode cX4_make 24 = .ok (.getfield 40, 3) := by decide +kernel
theorem dX4_make_27 : decode cX4_make 27 = .ok (.iconst 1, 1) := by decide +kernel
theorem dX4_make_28 : decode cX4_make 28 = .ok (.isub, 1) := by decide +kernel
theorem dX4_make_29 : decode cX4_make 29 = .ok (.istore 4, 2) := by decide +kernel
theorem dX4_make_31 : decode cX4_make 31 = .ok (.iload 4, 2) := by decide +kernel
theorem dX4_make_33 : decode cX4_make 33 = .ok (.ifCond .lt 33, 3) := by decide +kernel
theorem dX4_make_36 : decode cX4_make 36 = .ok (.aload_n 0, 1) := by decide +kernel
theorem dX4_make_37 : decode cX4_make 37 = .ok (.getfield 9, 3) := by decide +kernel
theorem dX4_make_40 : decode cX4_make 40 = .ok (.iload 4, 2) := by decide +kernel
theorem dX4_make_42 : decode cX4_make 42 = .ok (.iaload, 1) := by decide +kernel
theorem dX4_make_43 : decode cX4_make 43 = .ok (.aload_n 1, 1) := by decide +kernel
theorem dX4_make_44 : decode cX4_make 44 = .ok (.getfield 51, 3) := by decide +kernel
theorem dX4_make_47 : decode cX4_make 47 = .ok (.iload 4, 2) := by decide +kernel
theorem dX4_make_49 : decode cX4_make 49 = .ok (.iaload, 1) := by decide +kernel
theorem dX4_make_50 : decode cX4_make 50 = .ok (.if_icmp .le 10, 3) := by decide +kernel
theorem dX4_make_53 : decode cX4_make 53 = .ok (.aload_n 0, 1) := by decide +kernel
theorem dX4_make_54 : decode cX4_make 54 = .ok (.aload_n 1, 1) := by decide +kernel
theorem dX4_make_55 : decode cX4_make 55 = .ok (.iload 4, 2) := by decide +kernel
theorem dX4_make_57 : decode cX4_make 57 = .ok (.invokevirtual 54, 3) := by decide +kernel
theorem dX4_make_60 : decode cX4_make 60 = .ok (.iinc 4 (-1), 3) := by decide +kernel
theorem dX4_make_63 : decode cX4_make 63 = .ok (.goto (-32), 3) := by decide +kernel
theorem dX4_make_66 : decode cX4_make 66 = .ok (.iconst 0, 1) := by decide +kernel
theorem dX4_make_67 : decode cX4_make 67 = .ok (.istore 4, 2) := by decide +kernel
theorem dX4_make_69 : decode cX4_make 69 = .ok (.iload 4, 2) := by decide +kernel
theorem dX4_make_71 : decode cX4_make 71 = .ok (.aload_n 1, 1) := by decide +kernel
theorem dX4_make_72 : decode cX4_make 72 = .ok (.getfield 40, 3) := by decide +kernel
theorem dX4_make_75 : decode cX4_make 75 = .ok (.if_icmp .ge 33, 3) := by decide +kernel
theorem dX4_make_78 : decode cX4_make 78 = .ok (.aload_n 0, 1) := by decide +kernel
theorem dX4_make_79 : decode cX4_make 79 = .ok (.getfield 9, 3) := by decide +kernel
theorem dX4_make_82 : decode cX4_make 82 = .ok (.iload 4, 2) := by decide +kernel
theorem dX4_make_84 : decode cX4_make 84 = .ok (.iaload, 1) := by decide +kernel
theorem dX4_make_85 : decode cX4_make 85 = .ok (.aload_n 1, 1) := by decide +kernel
theorem dX4_make_86 : decode cX4_make 86 = .ok (.getfield 51, 3) := by decide +kernel
theorem dX4_make_89 : decode cX4_make 89 = .ok (.iload 4, 2) := by decide +kernel
theorem dX4_make_91 : decode cX4_make 91 = .ok (.iaload, 1) := by decide +kernel
theorem dX4_make_92 : decode cX4_make 92 = .ok (.if_icmp .ge 10, 3) := by decide +kernel
theorem dX4_make_95 : decode cX4_make 95 = .ok (.aload_n 0, 1) := by decide +kernel
theorem dX4_make_96 : decode cX4_make 96 = .ok (.aload_n 1, 1) := by decide +kernel
theorem dX4_make_97 : decode cX4_make 97 = .ok (.iload 4, 2) := by decide +kernel
theorem dX4_make_99 : decode cX4_make 99 = .ok (.invokevirtual 54, 3) := by decide +kernel
theorem dX4_make_102 : decode cX4_make 102 = .ok (.iinc 4 1, 3) := by decide +kernel
theorem dX4_make_105 : decode cX4_make 105 = .ok (.goto (-36), 3) := by decide +kernel
theorem dX4_make_108 : decode cX4_make 108 = .ok (.return_, 1) := by decide +kernel
theorem dX4_add_0 : decode cX4_add 0 = .ok (.aload_n 0, 1) := by decide +kernel
theorem dX4_add_1 : decode cX4_add 1 = .ok (.getfield 31, 3) := by decide +kernel
theorem dX4_add_4 : decode cX4_add 4 = .ok (.bipush 60, 2) := by decide +kernel
theorem dX4_add_6 : decode cX4_add 6 = .ok (.if_icmp .lt 4, 3) := by decide +kernel
theorem dX4_add_9 : decode cX4_add 9 = .ok (.return_, 1) := by decide +kernel
theorem dX4_add_10 : decode cX4_add 10 = .ok (.aload_n 0, 1) := by decide +kernel
theorem dX4_add_11 : decode cX4_add 11 = .ok (.getfield 15, 3) := by decide +kernel
theorem dX4_add_14 : decode cX4_add 14 = .ok (.aload_n 0, 1) := by decide +kernel
theorem dX4_add_15 : decode cX4_add 15 = .ok (.getfield 31, 3) := by decide +kernel
theorem dX4_add_18 : decode cX4_add 18 = .ok (.iload_n 2, 1) := by decide +kernel
theorem dX4_add_19 : decode cX4_add 19 = .ok (.iastore, 1) := by decide +kernel
theorem dX4_add_20 : decode cX4_add 20 = .ok (.aload_n 0, 1) := by decide +kernel
theorem dX4_add_21 : decode cX4_add 21 = .ok (.getfield 18, 3) := by decide +kernel
theorem dX4_add_24 : decode cX4_add 24 = .ok (.aload_n 0, 1) := by decide +kernel
theorem dX4_add_25 : decode cX4_add 25 = .ok (.getfield 31, 3) := by decide +kernel
theorem dX4_add_28 : decode cX4_add 28 = .ok (.aload_n 1, 1) := by decide +kernel
theorem dX4_add_29 : decode cX4_add 29 = .ok (.getfield 58, 3) := by decide +kernel
theorem dX4_add_32 : decode cX4_add 32 = .ok (.iload_n 2, 1) := by decide +kernel
theorem dX4_add_33 : decode cX4_add 33 = .ok (.iaload, 1) := by decide +kernel
theorem dX4_add_34 : decode cX4_add 34 = .ok (.iastore, 1) := by decide +kernel
theorem dX4_add_35 : decode cX4_add 35 = .ok (.aload_n 0, 1) := by decide +kernel
theorem dX4_add_36 : decode cX4_add 36 = .ok (.getfield 21, 3) := by decide +kernel
theorem dX4_add_39 : decode cX4_add 39 = .ok (.aload_n 0, 1) := by decide +kernel
theorem dX4_add_40 : decode cX4_add 40 = .ok (.getfield 31, 3) := by decide +kernel
theorem dX4_add_43 : decode cX4_add 43 = .ok (.aload_n 1, 1) := by decide +kernel
theorem dX4_add_44 : decode cX4_add 44 = .ok (.getfield 51, 3) := by decide +kernel
theorem dX4_add_47 : decode cX4_add 47 = .ok (.iload_n 2, 1) := by decide +kernel
theorem dX4_add_48 : decode cX4_add 48 = .ok (.iaload, 1) := by decide +kernel
theorem dX4_add_49 : decode cX4_add 49 = .ok (.iastore, 1) := by decide +kernel
theorem dX4_add_50 : decode cX4_add 50 = .ok (.aload_n 0, 1) := by decide +kernel
theorem dX4_add_51 : decode cX4_add 51 = .ok (.getfield 24, 3) := by decide +kernel
theorem dX4_add_54 : decode cX4_add 54 = .ok (.aload_n 0, 1) := by decide +kernel
theorem dX4_add_55 : decode cX4_add 55 = .ok (.getfield 31, 3) := by decide +kernel
theorem dX4_add_58 : decode cX4_add 58 = .ok (.aload_n 0, 1) := by decide +kernel
theorem dX4_add_59 : decode cX4_add 59 = .ok (.getfield 9, 3) := by decide +kernel
theorem dX4_add_62 : decode cX4_add 62 = .ok (.iload_n 2, 1) := by decide +kernel
theorem dX4_add_63 : decode cX4_add 63 = .ok (.iaload, 1) := by decide +kernel
theorem dX4_add_64 : decode cX4_add 64 = .ok (.iastore, 1) := by decide +kernel
theorem dX4_add_65 : decode cX4_add 65 = .ok (.aload_n 0, 1) := by decide +kernel
theorem dX4_add_66 : decode cX4_add 66 = .ok (.dup, 1) := by decide +kernel
theorem dX4_add_67 : decode cX4_add 67 = .ok (.getfield 31, 3) := by decide +kernel
theorem dX4_add_70 : decode cX4_add 70 = .ok (.iconst 1, 1) := by decide +kernel
theorem dX4_add_71 : decode cX4_add 71 = .ok (.iadd, 1) := by decide +kernel
theorem dX4_add_72 : decode cX4_add 72 = .ok (.putfield 31, 3) := by decide +kernel
theorem dX4_add_75 : decode cX4_add 75 = .ok (.return_, 1) := by decide +kernel
theorem dX4_stepOn_0 : decode cX4_stepOn 0 = .ok (.aload_n 0, 1) := by decide +kernel
theorem dX4_stepOn_1 : decode cX4_stepOn 1 = .ok (.dup, 1) := by decide +kernel
theorem dX4_stepOn_2 : decode cX4_stepOn 2 = .ok (.getfield 27, 3) := by decide +kernel
theorem dX4_stepOn_5 : decode cX4_stepOn 5 = .ok (.iconst 1, 1) := by decide +kernel
theorem dX4_stepOn_6 : decode cX4_stepOn 6 = .ok (.iadd, 1) := by decide +kernel
theorem dX4_stepOn_7 : decode cX4_stepOn 7 = .ok (.putfield 27, 3) := by decide +kernel
theorem dX4_stepOn_10 : decode cX4_stepOn 10 = .ok (.aload_n 0, 1) := by decide +kernel
theorem dX4_stepOn_11 : decode cX4_stepOn 11 = .ok (.getfield 27, 3) := by decide +kernel
theorem dX4_stepOn_14 : decode cX4_stepOn 14 = .ok (.aload_n 0, 1) := by decide +kernel
theorem dX4_stepOn_15 : decode cX4_stepOn 15 = .ok (.getfield 31, 3) := by decide +kernel
theorem dX4_stepOn_18 : decode cX4_stepOn 18 = .ok (.if_icmp .lt 7, 3) := by decide +kernel
theorem dX4_stepOn_21 : decode cX4_stepOn 21 = .ok (.aload_n 0, 1) := by decide +kernel
theorem dX4_stepOn_22 : decode cX4_stepOn 22 = .ok (.invokevirtual 34, 3) := by decide +kernel
theorem dX4_stepOn_25 : decode cX4_stepOn 25 = .ok (.return_, 1) := by decide +kernel
theorem dX4_direction_0 : decode cX4_direction 0 = .ok (.aload_n 0, 1) := by decide +kernel
theorem dX4_direction_1 : decode cX4_direction 1 = .ok (.getfield 24, 3) := by decide +kernel
theorem dX4_direction_4 : decode cX4_direction 4 = .ok (.iload_n 1, 1) := by decide +kernel
theorem dX4_direction_5 : decode cX4_direction 5 = .ok (.iaload, 1) := by decide +kernel
theorem dX4_direction_6 : decode cX4_direction 6 = .ok (.aload_n 0, 1) := by decide +kernel
theorem dX4_direction_7 : decode cX4_direction 7 = .ok (.getfield 21, 3) := by decide +kernel
theorem dX4_direction_10 : decode cX4_direction 10 = .ok (.iload_n 1, 1) := by decide +kernel
theorem dX4_direction_11 : decode cX4_direction 11 = .ok (.iaload, 1) := by decide +kernel
theorem dX4_direction_12 : decode cX4_direction 12 = .ok (.if_icmp .le 7, 3) := by decide +kernel
theorem dX4_direction_15 : decode cX4_direction 15 = .ok (.iconst 1, 1) := by decide +kernel
theorem dX4_direction_16 : decode cX4_direction 16 = .ok (.goto 4, 3) := by decide +kernel
theorem dX4_direction_19 : decode cX4_direction 19 = .ok (.iconst 2, 1) := by decide +kernel
theorem dX4_direction_20 : decode cX4_direction 20 = .ok (.ireturn, 1) := by decide +kernel
theorem dX4_movesOfNextDay_0 : decode cX4_movesOfNextDay 0 = .ok (.iconst 0, 1) := by decide +kernel
theorem dX4_movesOfNextDay_1 : decode cX4_movesOfNextDay 1 = .ok (.istore_n 2, 1) := by decide +kernel
theorem dX4_movesOfNextDay_2 : decode cX4_movesOfNextDay 2 = .ok (.aload_n 0, 1) := by decide +kernel
theorem dX4_movesOfNextDay_3 : decode cX4_movesOfNextDay 3 = .ok (.getfield 27, 3) := by decide +kernel
theorem dX4_movesOfNextDay_6 : decode cX4_movesOfNextDay 6 = .ok (.istore_n 3, 1) := by decide +kernel
theorem dX4_movesOfNextDay_7 : decode cX4_movesOfNextDay 7 = .ok (.iload_n 3, 1) := by decide +kernel
theorem dX4_movesOfNextDay_8 : decode cX4_movesOfNextDay 8 = .ok (.aload_n 0, 1) := by decide +kernel
theorem dX4_movesOfNextDay_9 : decode cX4_movesOfNextDay 9 = .ok (.getfield 31, 3) := by decide +kernel
theorem dX4_movesOfNextDay_12 : decode cX4_movesOfNextDay 12 = .ok (.if_icmp .ge 30, 3) := by decide +kernel
theorem dX4_movesOfNextDay_15 : decode cX4_movesOfNextDay 15 = .ok (.iload_n 2, 1) := by decide +kernel
theorem dX4_movesOfNextDay_16 : decode cX4_movesOfNextDay 16 = .ok (.aload_n 0, 1) := by decide +kernel
theorem dX4_movesOfNextDay_17 : decode cX4_movesOfNextDay 17 = .ok (.getfield 18, 3) := by decide +kernel
theorem dX4_movesOfNextDay_20 : decode cX4_movesOfNextDay 20 = .ok (.iload_n 3, 1) := by decide +kernel
theorem dX4_movesOfNextDay_21 : decode cX4_movesOfNextDay 21 = .ok (.iaload, 1) := by decide +kernel
theorem dX4_movesOfNextDay_22 : decode cX4_movesOfNextDay 22 = .ok (.iadd, 1) := by decide +kernel
theorem dX4_movesOfNextDay_23 : decode cX4_movesOfNextDay 23 = .ok (.iload_n 1, 1) := by decide +kernel
theorem dX4_movesOfNextDay_24 : decode cX4_movesOfNextDay 24 = .ok (.if_icmp .gt 18, 3) := by decide +kernel
theorem dX4_movesOfNextDay_27 : decode cX4_movesOfNextDay 27 = .ok (.iload_n 2, 1) := by decide +kernel
theorem dX4_movesOfNextDay_28 : decode cX4_movesOfNextDay 28 = .ok (.aload_n 0, 1) := by decide +kernel
theorem dX4_movesOfNextDay_29 : decode cX4_movesOfNextDay 29 = .ok (.getfield 18, 3) := by decide +kernel
theorem dX4_movesOfNextDay_32 : decode cX4_movesOfNextDay 32 = .ok (.iload_n 3, 1) := by decide +kernel
theorem dX4_movesOfNextDay_33 : decode cX4_movesOfNextDay 33 = .ok (.iaload, 1) := by decide +kernel
theorem dX4_movesOfNextDay_34 : decode cX4_movesOfNextDay 34 = .ok (.iadd, 1) := by decide +kernel
theorem dX4_movesOfNextDay_35 : decode cX4_movesOfNextDay 35 = .ok (.istore_n 2, 1) := by decide +kernel
theorem dX4_movesOfNextDay_36 : decode cX4_movesOfNextDay 36 = .ok (.iinc 3 1, 3) := by decide +kernel
theorem dX4_movesOfNextDay_39 : decode cX4_movesOfNextDay 39 = .ok (.goto (-32), 3) := by decide +kernel
theorem dX4_movesOfNextDay_42 : decode cX4_movesOfNextDay 42 = .ok (.iload_n 3, 1) := by decide +kernel
theorem dX4_movesOfNextDay_43 : decode cX4_movesOfNextDay 43 = .ok (.aload_n 0, 1) := by decide +kernel
theorem dX4_movesOfNextDay_44 : decode cX4_movesOfNextDay 44 = .ok (.getfield 27, 3) := by decide +kernel
theorem dX4_movesOfNextDay_47 : decode cX4_movesOfNextDay 47 = .ok (.isub, 1) := by decide +kernel
theorem dX4_movesOfNextDay_48 : decode cX4_movesOfNextDay 48 = .ok (.ireturn, 1) := by decide +kernel
theorem dX4_days_0 : decode cX4_days 0 = .ok (.iconst 0, 1) := by decide +kernel
theorem dX4_days_1 : decode cX4_days 1 = .ok (.istore 4, 2) := by decide +kernel
theorem dX4_days_3 : decode cX4_days 3 = .ok (.iconst 0, 1) := by decide +kernel
theorem dX4_days_4 : decode cX4_days 4 = .ok (.istore 5, 2) := by decide +kernel
theorem dX4_days_6 : decode cX4_days 6 = .ok (.iload_n 1, 1) := by decide +kernel
theorem dX4_days_7 : decode cX4_days 7 = .ok (.istore 6, 2) := by decide +kernel
theorem dX4_days_9 : decode cX4_days 9 = .ok (.iload 6, 2) := by decide +kernel
theorem dX4_days_11 : decode cX4_days 11 = .ok (.iload_n 2, 1) := by decide +kernel
theorem dX4_days_12 : decode cX4_days 12 = .ok (.if_icmp .ge 47, 3) := by decide +kernel
theorem dX4_days_15 : decode cX4_days 15 = .ok (.iload 6, 2) := by decide +kernel
theorem dX4_days_17 : decode cX4_days 17 = .ok (.iload_n 1, 1) := by decide +kernel
theorem dX4_days_18 : decode cX4_days 18 = .ok (.if_icmp .eq 17, 3) := by decide +kernel
theorem dX4_days_21 : decode cX4_days 21 = .ok (.iload 5, 2) := by decide +kernel
theorem dX4_days_23 : decode cX4_days 23 = .ok (.aload_n 0, 1) := by decide +kernel
theorem dX4_days_24 : decode cX4_days 24 = .ok (.getfield 18, 3) := by decide +kernel
theorem dX4_days_27 : decode cX4_days 27 = .ok (.iload 6, 2) := by decide +kernel
theorem dX4_days_29 : decode cX4_days 29 = .ok (.iaload, 1) := by decide +kernel
theorem dX4_days_30 : decode cX4_days 30 = .ok (.iadd, 1) := by decide +kernel
theorem dX4_days_31 : decode cX4_days 31 = .ok (.iload_n 3, 1) := by decide +kernel
theorem dX4_days_32 : decode cX4_days 32 = .ok (.if_icmp .le 9, 3) := by decide +kernel
theorem dX4_days_35 : decode cX4_days 35 = .ok (.iinc 4 1, 3) := by decide +kernel
theorem dX4_days_38 : decode cX4_days 38 = .ok (.iconst 0, 1) := by decide +kernel
theorem dX4_days_39 : decode cX4_days 39 = .ok (.istore 5, 2) := by decide +kernel
theorem dX4_days_41 : decode cX4_days 41 = .ok (.iload 5, 2) := by decide +kernel
theorem dX4_days_43 : decode cX4_days 43 = .ok (.aload_n 0, 1) := by decide +kernel
theorem dX4_days_44 : decode cX4_days 44 = .ok (.getfield 18, 3) := by decide +kernel
theorem dX4_days_47 : decode cX4_days 47 = .ok (.iload 6, 2) := by decide +kernel
theorem dX4_days_49 : decode cX4_days 49 = .ok (.iaload, 1) := by decide +kernel
theorem dX4_days_50 : decode cX4_days 50 = .ok (.iadd, 1) := by decide +kernel
theorem dX4_days_51 : decode cX4_days 51 = .ok (.istore 5, 2) := by decide +kernel
theorem dX4_days_53 : decode cX4_days 53 = .ok (.iinc 6 1, 3) := by decide +kernel
theorem dX4_days_56 : decode cX4_days 56 = .ok (.goto (-47), 3) := by decide +kernel
theorem dX4_days_59 : decode cX4_days 59 = .ok (.iload 4, 2) := by decide +kernel
theorem dX4_days_61 : decode cX4_days 61 = .ok (.ireturn, 1) := by decide +kernel
theorem dX4_trips_0 : decode cX4_trips 0 = .ok (.iconst 0, 1) := by decide +kernel
theorem dX4_trips_1 : decode cX4_trips 1 = .ok (.istore_n 3, 1) := by decide +kernel
theorem dX4_trips_2 : decode cX4_trips 2 = .ok (.iload_n 1, 1) := by decide +kernel
theorem dX4_trips_3 : decode cX4_trips 3 = .ok (.istore 4, 2) := by decide +kernel
theorem dX4_trips_5 : decode cX4_trips 5 = .ok (.iload 4, 2) := by decide +kernel
theorem dX4_trips_7 : decode cX4_trips 7 = .ok (.iload_n 2, 1) := by decide +kernel
theorem dX4_trips_8 : decode cX4_trips 8 = .ok (.if_icmp .ge 56, 3) := by decide +kernel
theorem dX4_trips_11 : decode cX4_trips 11 = .ok (.iload 4, 2) := by decide +kernel
theorem dX4_trips_13 : decode cX4_trips 13 = .ok (.iload_n 1, 1) := by decide +kernel
theorem dX4_trips_14 : decode cX4_trips 14 = .ok (.if_icmp .eq 41, 3) := by decide +kernel
theorem dX4_trips_17 : decode cX4_trips 17 = .ok (.aload_n 0, 1) := by decide +kernel
theorem dX4_trips_18 : decode cX4_trips 18 = .ok (.getfield 21, 3) := by decide +kernel
theorem dX4_trips_21 : decode cX4_trips 21 = .ok (.iload 4, 2) := by decide +kernel
theorem dX4_trips_23 : decode cX4_trips 23 = .ok (.iaload, 1) := by decide +kernel
theorem dX4_trips_24 : decode cX4_trips 24 = .ok (.aload_n 0, 1) := by decide +kernel
theorem dX4_trips_25 : decode cX4_trips 25 = .ok (.getfield 21, 3) := by decide +kernel
theorem dX4_trips_28 : decode cX4_trips 28 = .ok (.iload 4, 2) := by decide +kernel
theorem dX4_trips_30 : decode cX4_trips 30 = .ok (.iconst 1, 1) := by decide +kernel
theorem dX4_trips_31 : decode cX4_trips 31 = .ok (.isub, 1) := by decide +kernel
theorem dX4_trips_32 : decode cX4_trips 32 = .ok (.iaload, 1) := by decide +kernel
theorem dX4_trips_33 : decode cX4_trips 33 = .ok (.if_icmp .ne 22, 3) := by decide +kernel
theorem dX4_trips_36 : decode cX4_trips 36 = .ok (.aload_n 0, 1) := by decide +kernel
theorem dX4_trips_37 : decode cX4_trips 37 = .ok (.getfield 24, 3) := by decide +kernel
theorem dX4_trips_40 : decode cX4_trips 40 = .ok (.iload 4, 2) := by decide +kernel
theorem dX4_trips_42 : decode cX4_trips 42 = .ok (.iaload, 1) := by decide +kernel
theorem dX4_trips_43 : decode cX4_trips 43 = .ok (.aload_n 0, 1) := by decide +kernel
theorem dX4_trips_44 : decode cX4_trips 44 = .ok (.getfield 24, 3) := by decide +kernel
theorem dX4_trips_47 : decode cX4_trips 47 = .ok (.iload 4, 2) := by decide +kernel
theorem dX4_trips_49 : decode cX4_trips 49 = .ok (.iconst 1, 1) := by decide +kernel
theorem dX4_trips_50 : decode cX4_trips 50 = .ok (.isub, 1) := by decide +kernel
theorem dX4_trips_51 : decode cX4_trips 51 = .ok (.iaload, 1) := by decide +kernel
theorem dX4_trips_52 : decode cX4_trips 52 = .ok (.if_icmp .eq 6, 3) := by decide +kernel
theorem dX4_trips_55 : decode cX4_trips 55 = .ok (.iinc 3 1, 3) := by decide +kernel
theorem dX4_trips_58 : decode cX4_trips 58 = .ok (.iinc 4 1, 3) := by decide +kernel
theorem dX4_trips_61 : decode cX4_trips 61 = .ok (.goto (-56), 3) := by decide +kernel
theorem dX4_trips_64 : decode cX4_trips 64 = .ok (.iload_n 3, 1) := by decide +kernel
theorem dX4_trips_65 : decode cX4_trips 65 = .ok (.ireturn, 1) := by decide +kernel
theorem dX4_takenAheadOf_0 : decode cX4_takenAheadOf 0 = .ok (.iconst 0, 1) := by decide +kernel
theorem dX4_takenAheadOf_1 : decode cX4_takenAheadOf 1 = .ok (.istore_n 2, 1) := by decide +kernel
theorem dX4_takenAheadOf_2 : decode cX4_takenAheadOf 2 = .ok (.iconst 0, 1) := by decide +kernel
theorem dX4_takenAheadOf_3 : decode cX4_takenAheadOf 3 = .ok (.istore_n 3, 1) := by decide +kernel
theorem dX4_takenAheadOf_4 : decode cX4_takenAheadOf 4 = .ok (.iload_n 3, 1) := by decide +kernel
theorem dX4_takenAheadOf_5 : decode cX4_takenAheadOf 5 = .ok (.iload_n 1, 1) := by decide +kernel
theorem dX4_takenAheadOf_6 : decode cX4_takenAheadOf 6 = .ok (.if_icmp .ge 27, 3) := by decide +kernel
theorem dX4_takenAheadOf_9 : decode cX4_takenAheadOf 9 = .ok (.aload_n 0, 1) := by decide +kernel
theorem dX4_takenAheadOf_10 : decode cX4_takenAheadOf 10 = .ok (.getfield 21, 3) := by decide +kernel
theorem dX4_takenAheadOf_13 : decode cX4_takenAheadOf 13 = .ok (.iload_n 3, 1) := by decide +kernel
theorem dX4_takenAheadOf_14 : decode cX4_takenAheadOf 14 = .ok (.iaload, 1) := by decide +kernel
theorem dX4_takenAheadOf_15 : decode cX4_takenAheadOf 15 = .ok (.aload_n 0, 1) := by decide +kernel
theorem dX4_takenAheadOf_16 : decode cX4_takenAheadOf 16 = .ok (.getfield 24, 3) := by decide +kernel
theorem dX4_takenAheadOf_19 : decode cX4_takenAheadOf 19 = .ok (.iload_n 1, 1) := by decide +kernel
theorem dX4_takenAheadOf_20 : decode cX4_takenAheadOf 20 = .ok (.iaload, 1) := by decide +kernel
theorem dX4_takenAheadOf_21 : decode cX4_takenAheadOf 21 = .ok (.if_icmp .ne 6, 3) := by decide +kernel
theorem dX4_takenAheadOf_24 : decode cX4_takenAheadOf 24 = .ok (.iinc 2 1, 3) := by decide +kernel
theorem dX4_takenAheadOf_27 : decode cX4_takenAheadOf 27 = .ok (.iinc 3 1, 3) := by decide +kernel
theorem dX4_takenAheadOf_30 : decode cX4_takenAheadOf 30 = .ok (.goto (-26), 3) := by decide +kernel
theorem dX4_takenAheadOf_33 : decode cX4_takenAheadOf 33 = .ok (.iload_n 2, 1) := by decide +kernel
theorem dX4_takenAheadOf_34 : decode cX4_takenAheadOf 34 = .ok (.ireturn, 1) := by decide +kernel
theorem dX4_widthsLeft_0 : decode cX4_widthsLeft 0 = .ok (.iconst 0, 1) := by decide +kernel
theorem dX4_widthsLeft_1 : decode cX4_widthsLeft 1 = .ok (.istore_n 1, 1) := by decide +kernel
theorem dX4_widthsLeft_2 : decode cX4_widthsLeft 2 = .ok (.aload_n 0, 1) := by decide +kernel
theorem dX4_widthsLeft_3 : decode cX4_widthsLeft 3 = .ok (.getfield 27, 3) := by decide +kernel
theorem dX4_widthsLeft_6 : decode cX4_widthsLeft 6 = .ok (.istore_n 2, 1) := by decide +kernel
theorem dX4_widthsLeft_7 : decode cX4_widthsLeft 7 = .ok (.iload_n 2, 1) := by decide +kernel
theorem dX4_widthsLeft_8 : decode cX4_widthsLeft 8 = .ok (.aload_n 0, 1) := by decide +kernel
theorem dX4_widthsLeft_9 : decode cX4_widthsLeft 9 = .ok (.getfield 31, 3) := by decide +kernel
theorem dX4_widthsLeft_12 : decode cX4_widthsLeft 12 = .ok (.if_icmp .ge 18, 3) := by decide +kernel
theorem dX4_widthsLeft_15 : decode cX4_widthsLeft 15 = .ok (.iload_n 1, 1) := by decide +kernel
theorem dX4_widthsLeft_16 : decode cX4_widthsLeft 16 = .ok (.aload_n 0, 1) := by decide +kernel
theorem dX4_widthsLeft_17 : decode cX4_widthsLeft 17 = .ok (.getfield 18, 3) := by decide +kernel
theorem dX4_widthsLeft_20 : decode cX4_widthsLeft 20 = .ok (.iload_n 2, 1) := by decide +kernel
theorem dX4_widthsLeft_21 : decode cX4_widthsLeft 21 = .ok (.iaload, 1) := by decide +kernel
theorem dX4_widthsLeft_22 : decode cX4_widthsLeft 22 = .ok (.iadd, 1) := by decide +kernel
theorem dX4_widthsLeft_23 : decode cX4_widthsLeft 23 = .ok (.istore_n 1, 1) := by decide +kernel
theorem dX4_widthsLeft_24 : decode cX4_widthsLeft 24 = .ok (.iinc 2 1, 3) := by decide +kernel
theorem dX4_widthsLeft_27 : decode cX4_widthsLeft 27 = .ok (.goto (-20), 3) := by decide +kernel
theorem dX4_widthsLeft_30 : decode cX4_widthsLeft 30 = .ok (.iload_n 1, 1) := by decide +kernel
theorem dX4_widthsLeft_31 : decode cX4_widthsLeft 31 = .ok (.ireturn, 1) := by decide +kernel
theorem dX4_rightsLeft_0 : decode cX4_rightsLeft 0 = .ok (.iconst 0, 1) := by decide +kernel
theorem dX4_rightsLeft_1 : decode cX4_rightsLeft 1 = .ok (.istore_n 1, 1) := by decide +kernel
theorem dX4_rightsLeft_2 : decode cX4_rightsLeft 2 = .ok (.aload_n 0, 1) := by decide +kernel
theorem dX4_rightsLeft_3 : decode cX4_rightsLeft 3 = .ok (.getfield 27, 3) := by decide +kernel
theorem dX4_rightsLeft_6 : decode cX4_rightsLeft 6 = .ok (.istore_n 2, 1) := by decide +kernel
theorem dX4_rightsLeft_7 : decode cX4_rightsLeft 7 = .ok (.iload_n 2, 1) := by decide +kernel
theorem dX4_rightsLeft_8 : decode cX4_rightsLeft 8 = .ok (.aload_n 0, 1) := by decide +kernel
theorem dX4_rightsLeft_9 : decode cX4_rightsLeft 9 = .ok (.getfield 31, 3) := by decide +kernel
theorem dX4_rightsLeft_12 : decode cX4_rightsLeft 12 = .ok (.if_icmp .ge 21, 3) := by decide +kernel
theorem dX4_rightsLeft_15 : decode cX4_rightsLeft 15 = .ok (.aload_n 0, 1) := by decide +kernel
theorem dX4_rightsLeft_16 : decode cX4_rightsLeft 16 = .ok (.iload_n 2, 1) := by decide +kernel
theorem dX4_rightsLeft_17 : decode cX4_rightsLeft 17 = .ok (.invokevirtual 59, 3) := by decide +kernel
theorem dX4_rightsLeft_20 : decode cX4_rightsLeft 20 = .ok (.iconst 1, 1) := by decide +kernel
theorem dX4_rightsLeft_21 : decode cX4_rightsLeft 21 = .ok (.if_icmp .ne 6, 3) := by decide +kernel
theorem dX4_rightsLeft_24 : decode cX4_rightsLeft 24 = .ok (.iinc 1 1, 3) := by decide +kernel
theorem dX4_rightsLeft_27 : decode cX4_rightsLeft 27 = .ok (.iinc 2 1, 3) := by decide +kernel
theorem dX4_rightsLeft_30 : decode cX4_rightsLeft 30 = .ok (.goto (-23), 3) := by decide +kernel
theorem dX4_rightsLeft_33 : decode cX4_rightsLeft 33 = .ok (.iload_n 1, 1) := by decide +kernel
theorem dX4_rightsLeft_34 : decode cX4_rightsLeft 34 = .ok (.ireturn, 1) := by decide +kernel
theorem dX5_init_0 : decode cX5_init 0 = .ok (.aload_n 0, 1) := by decide +kernel
theorem dX5_init_1 : decode cX5_init 1 = .ok (.invokespecial 3, 3) := by decide +kernel
theorem dX5_init_4 : decode cX5_init 4 = .ok (.aload_n 0, 1) := by decide +kernel
theorem dX5_init_5 : decode cX5_init 5 = .ok (.bipush 12, 2) := by decide +kernel
theorem dX5_init_7 : decode cX5_init 7 = .ok (.newarray .int, 2) := by decide +kernel
theorem dX5_init_9 : decode cX5_init 9 = .ok (.putfield 9, 3) := by decide +kernel
theorem dX5_init_12 : decode cX5_init 12 = .ok (.aload_n 0, 1) := by decide +kernel
theorem dX5_init_13 : decode cX5_init 13 = .ok (.bipush 12, 2) := by decide +kernel
theorem dX5_init_15 : decode cX5_init 15 = .ok (.newarray .int, 2) := by decide +kernel
theorem dX5_init_17 : decode cX5_init 17 = .ok (.putfield 15, 3) := by decide +kernel
theorem dX5_init_20 : decode cX5_init 20 = .ok (.return_, 1) := by decide +kernel
theorem dX5_add_0 : decode cX5_add 0 = .ok (.aload_n 0, 1) := by decide +kernel
theorem dX5_add_1 : decode cX5_add 1 = .ok (.getfield 18, 3) := by decide +kernel
theorem dX5_add_4 : decode cX5_add 4 = .ok (.istore_n 3, 1) := by decide +kernel
theorem dX5_add_5 : decode cX5_add 5 = .ok (.aload_n 0, 1) := by decide +kernel
theorem dX5_add_6 : decode cX5_add 6 = .ok (.getfield 9, 3) := by decide +kernel
theorem dX5_add_9 : decode cX5_add 9 = .ok (.iload_n 3, 1) := by decide +kernel
theorem dX5_add_10 : decode cX5_add 10 = .ok (.iload_n 1, 1) := by decide +kernel
theorem dX5_add_11 : decode cX5_add 11 = .ok (.iastore, 1) := by decide +kernel
theorem dX5_add_12 : decode cX5_add 12 = .ok (.aload_n 0, 1) := by decide +kernel
theorem dX5_add_13 : decode cX5_add 13 = .ok (.getfield 15, 3) := by decide +kernel
theorem dX5_add_16 : decode cX5_add 16 = .ok (.iload_n 3, 1) := by decide +kernel
theorem dX5_add_17 : decode cX5_add 17 = .ok (.iload_n 2, 1) := by decide +kernel
theorem dX5_add_18 : decode cX5_add 18 = .ok (.iastore, 1) := by decide +kernel
theorem dX5_add_19 : decode cX5_add 19 = .ok (.aload_n 0, 1) := by decide +kernel
theorem dX5_add_20 : decode cX5_add 20 = .ok (.dup, 1) := by decide +kernel
theorem dX5_add_21 : decode cX5_add 21 = .ok (.getfield 18, 3) := by decide +kernel
theorem dX5_add_24 : decode cX5_add 24 = .ok (.iconst 1, 1) := by decide +kernel
theorem dX5_add_25 : decode cX5_add 25 = .ok (.iadd, 1) := by decide +kernel
theorem dX5_add_26 : decode cX5_add 26 = .ok (.putfield 18, 3) := by decide +kernel
theorem dX5_add_29 : decode cX5_add 29 = .ok (.iload_n 3, 1) := by decide +kernel
theorem dX5_add_30 : decode cX5_add 30 = .ok (.ireturn, 1) := by decide +kernel
theorem dX5_openLengths_0 : decode cX5_openLengths 0 = .ok (.iconst 0, 1) := by decide +kernel
theorem dX5_openLengths_1 : decode cX5_openLengths 1 = .ok (.istore_n 1, 1) := by decide +kernel
theorem dX5_openLengths_2 : decode cX5_openLengths 2 = .ok (.iconst 0, 1) := by decide +kernel
theorem dX5_openLengths_3 : decode cX5_openLengths 3 = .ok (.istore_n 2, 1) := by decide +kernel
theorem dX5_openLengths_4 : decode cX5_openLengths 4 = .ok (.iload_n 2, 1) := by decide +kernel
theorem dX5_openLengths_5 : decode cX5_openLengths 5 = .ok (.aload_n 0, 1) := by decide +kernel
theorem dX5_openLengths_6 : decode cX5_openLengths 6 = .ok (.getfield 18, 3) := by decide +kernel
theorem dX5_openLengths_9 : decode cX5_openLengths 9 = .ok (.if_icmp .ge 27, 3) := by decide +kernel
theorem dX5_openLengths_12 : decode cX5_openLengths 12 = .ok (.aload_n 0, 1) := by decide +kernel
theorem dX5_openLengths_13 : decode cX5_openLengths 13 = .ok (.getfield 15, 3) := by decide +kernel
theorem dX5_openLengths_16 : decode cX5_openLengths 16 = .ok (.iload_n 2, 1) := by decide +kernel
theorem dX5_openLengths_17 : decode cX5_openLengths 17 = .ok (.iaload, 1) := by decide +kernel
theorem dX5_openLengths_18 : decode cX5_openLengths 18 = .ok (.ifCond .ne 12, 3) := by decide +kernel
theorem dX5_openLengths_21 : decode cX5_openLengths 21 = .ok (.iload_n 1, 1) := by decide +kernel
theorem dX5_openLengths_22 : decode cX5_openLengths 22 = .ok (.aload_n 0, 1) := by decide +kernel
theorem dX5_openLengths_23 : decode cX5_openLengths 23 = .ok (.getfield 9, 3) := by decide +kernel
theorem dX5_openLengths_26 : decode cX5_openLengths 26 = .ok (.iload_n 2, 1) := by decide +kernel
theorem dX5_openLengths_27 : decode cX5_openLengths 27 = .ok (.iaload, 1) := by decide +kernel
theorem dX5_openLengths_28 : decode cX5_openLengths 28 = .ok (.iadd, 1) := by decide +kernel
theorem dX5_openLengths_29 : decode cX5_openLengths 29 = .ok (.istore_n 1, 1) := by decide +kernel
theorem dX5_openLengths_30 : decode cX5_openLengths 30 = .ok (.iinc 2 1, 3) := by decide +kernel
theorem dX5_openLengths_33 : decode cX5_openLengths 33 = .ok (.goto (-29), 3) := by decide +kernel
theorem dX5_openLengths_36 : decode cX5_openLengths 36 = .ok (.iload_n 1, 1) := by decide +kernel
theorem dX5_openLengths_37 : decode cX5_openLengths 37 = .ok (.ireturn, 1) := by decide +kernel
theorem dX6_init_0 : decode cX6_init 0 = .ok (.aload_n 0, 1) := by decide +kernel
theorem dX6_init_1 : decode cX6_init 1 = .ok (.invokespecial 1, 3) := by decide +kernel
theorem dX6_init_4 : decode cX6_init 4 = .ok (.aload_n 0, 1) := by decide +kernel
theorem dX6_init_5 : decode cX6_init 5 = .ok (.new 7, 3) := by decide +kernel
theorem dX6_init_8 : decode cX6_init 8 = .ok (.dup, 1) := by decide +kernel
theorem dX6_init_9 : decode cX6_init 9 = .ok (.invokespecial 9, 3) := by decide +kernel
theorem dX6_init_12 : decode cX6_init 12 = .ok (.putfield 10, 3) := by decide +kernel
theorem dX6_init_15 : decode cX6_init 15 = .ok (.aload_n 0, 1) := by decide +kernel
theorem dX6_init_16 : decode cX6_init 16 = .ok (.new 16, 3) := by decide +kernel
theorem dX6_init_19 : decode cX6_init 19 = .ok (.dup, 1) := by decide +kernel
theorem dX6_init_20 : decode cX6_init 20 = .ok (.invokespecial 18, 3) := by decide +kernel
theorem dX6_init_23 : decode cX6_init 23 = .ok (.putfield 19, 3) := by decide +kernel
theorem dX6_init_26 : decode cX6_init 26 = .ok (.aload_n 0, 1) := by decide +kernel
theorem dX6_init_27 : decode cX6_init 27 = .ok (.new 23, 3) := by decide +kernel
theorem dX6_init_30 : decode cX6_init 30 = .ok (.dup, 1) := by decide +kernel
theorem dX6_init_31 : decode cX6_init 31 = .ok (.invokespecial 25, 3) := by decide +kernel
theorem dX6_init_34 : decode cX6_init 34 = .ok (.putfield 26, 3) := by decide +kernel
theorem dX6_init_37 : decode cX6_init 37 = .ok (.aload_n 0, 1) := by decide +kernel
theorem dX6_init_38 : decode cX6_init 38 = .ok (.new 30, 3) := by decide +kernel
theorem dX6_init_41 : decode cX6_init 41 = .ok (.dup, 1) := by decide +kernel
theorem dX6_init_42 : decode cX6_init 42 = .ok (.invokespecial 32, 3) := by decide +kernel
theorem dX6_init_45 : decode cX6_init 45 = .ok (.putfield 33, 3) := by decide +kernel
theorem dX6_init_48 : decode cX6_init 48 = .ok (.aload_n 0, 1) := by decide +kernel
theorem dX6_init_49 : decode cX6_init 49 = .ok (.new 37, 3) := by decide +kernel
theorem dX6_init_52 : decode cX6_init 52 = .ok (.dup, 1) := by decide +kernel
theorem dX6_init_53 : decode cX6_init 53 = .ok (.invokespecial 39, 3) := by decide +kernel
theorem dX6_init_56 : decode cX6_init 56 = .ok (.putfield 40, 3) := by decide +kernel
theorem dX6_init_59 : decode cX6_init 59 = .ok (.aload_n 0, 1) := by decide +kernel
theorem dX6_init_60 : decode cX6_init 60 = .ok (.new 44, 3) := by decide +kernel
theorem dX6_init_63 : decode cX6_init 63 = .ok (.dup, 1) := by decide +kernel
theorem dX6_init_64 : decode cX6_init 64 = .ok (.invokespecial 46, 3) := by decide +kernel
theorem dX6_init_67 : decode cX6_init 67 = .ok (.putfield 47, 3) := by decide +kernel
theorem dX6_init_70 : decode cX6_init 70 = .ok (.aload_n 0, 1) := by decide +kernel
theorem dX6_init_71 : decode cX6_init 71 = .ok (.bipush 100, 2) := by decide +kernel
theorem dX6_init_73 : decode cX6_init 73 = .ok (.putfield 51, 3) := by decide +kernel
theorem dX6_init_76 : decode cX6_init 76 = .ok (.return_, 1) := by decide +kernel
theorem dX6_shelf_0 : decode cX6_shelf 0 = .ok (.iload_n 1, 1) := by decide +kernel
theorem dX6_shelf_1 : decode cX6_shelf 1 = .ok (.bipush 10, 2) := by decide +kernel
theorem dX6_shelf_3 : decode cX6_shelf 3 = .ok (.sipush 200, 3) := by decide +kernel
theorem dX6_shelf_6 : decode cX6_shelf 6 = .ok (.invokestatic 55, 3) := by decide +kernel
theorem dX6_shelf_9 : decode cX6_shelf 9 = .ok (.ifCond .eq 16, 3) := by decide +kernel
theorem dX6_shelf_12 : decode cX6_shelf 12 = .ok (.iload_n 2, 1) := by decide +kernel
theorem dX6_shelf_13 : decode cX6_shelf 13 = .ok (.iconst 0, 1) := by decide +kernel
theorem dX6_shelf_14 : decode cX6_shelf 14 = .ok (.iconst 2, 1) := by decide +kernel
theorem dX6_shelf_15 : decode cX6_shelf 15 = .ok (.invokestatic 55, 3) := by decide +kernel
theorem dX6_shelf_18 : decode cX6_shelf 18 = .ok (.ifCond .eq 7, 3) := by decide +kernel
theorem dX6_shelf_21 : decode cX6_shelf 21 = .ok (.iconst 1, 1) := by decide +kernel
theorem dX6_shelf_22 : decode cX6_shelf 22 = .ok (.goto 4, 3) := by decide +kernel
theorem dX6_shelf_25 : decode cX6_shelf 25 = .ok (.iconst 0, 1) := by decide +kernel
theorem dX6_shelf_26 : decode cX6_shelf 26 = .ok (.istore_n 3, 1) := by decide +kernel
theorem dX6_shelf_27 : decode cX6_shelf 27 = .ok (.iload_n 3, 1) := by decide +kernel
theorem dX6_shelf_28 : decode cX6_shelf 28 = .ok (.ifCond .eq 15, 3) := by decide +kernel
theorem dX6_shelf_31 : decode cX6_shelf 31 = .ok (.aload_n 0, 1) := by decide +kernel
theorem dX6_shelf_32 : decode cX6_shelf 32 = .ok (.getfield 10, 3) := by decide +kernel
theorem dX6_shelf_35 : decode cX6_shelf 35 = .ok (.getfield 59, 3) := by decide +kernel
theorem dX6_shelf_38 : decode cX6_shelf 38 = .ok (.bipush 12, 2) := by decide +kernel
theorem dX6_shelf_40 : decode cX6_shelf 40 = .ok (.if_icmp .lt 5, 3) := by decide +kernel
theorem dX6_shelf_43 : decode cX6_shelf 43 = .ok (.iconst (-1), 1) := by decide +kernel
theorem dX6_shelf_44 : decode cX6_shelf 44 = .ok (.ireturn, 1) := by decide +kernel
theorem dX6_shelf_45 : decode cX6_shelf 45 = .ok (.aload_n 0, 1) := by decide +kernel
theorem dX6_shelf_46 : decode cX6_shelf 46 = .ok (.getfield 40, 3) := by decide +kernel
theorem dX6_shelf_49 : decode cX6_shelf 49 = .ok (.invokevirtual 62, 3) := by decide +kernel
theorem dX6_shelf_52 : decode cX6_shelf 52 = .ok (.aload_n 0, 1) := by decide +kernel
theorem dX6_shelf_53 : decode cX6_shelf 53 = .ok (.getfield 10, 3) := by decide +kernel
theorem dX6_shelf_56 : decode cX6_shelf 56 = .ok (.iload_n 1, 1) := by decide +kernel
theorem dX6_shelf_57 : decode cX6_shelf 57 = .ok (.iload_n 2, 1) := by decide +kernel
theorem dX6_shelf_58 : decode cX6_shelf 58 = .ok (.invokevirtual 65, 3) := by decide +kernel
theorem dX6_shelf_61 : decode cX6_shelf 61 = .ok (.ireturn, 1) := by decide +kernel
theorem dX6_turn_0 : decode cX6_turn 0 = .ok (.aload_n 0, 1) := by decide +kernel
theorem dX6_turn_1 : decode cX6_turn 1 = .ok (.iload_n 1, 1) := by decide +kernel
theorem dX6_turn_2 : decode cX6_turn 2 = .ok (.invokevirtual 69, 3) := by decide +kernel
theorem dX6_turn_5 : decode cX6_turn 5 = .ok (.ifCond .eq 25, 3) := by decide +kernel
theorem dX6_turn_8 : decode cX6_turn 8 = .ok (.iload_n 2, 1) := by decide +kernel
theorem dX6_turn_9 : decode cX6_turn 9 = .ok (.iconst 0, 1) := by decide +kernel
theorem dX6_turn_10 : decode cX6_turn 10 = .ok (.iconst 2, 1) := by decide +kernel
theorem dX6_turn_11 : decode cX6_turn 11 = .ok (.invokestatic 55, 3) := by decide +kernel
theorem dX6_turn_14 : decode cX6_turn 14 = .ok (.ifCond .eq 16, 3) := by decide +kernel
theorem dX6_turn_17 : decode cX6_turn 17 = .ok (.aload_n 0, 1) := by decide +kernel
theorem dX6_turn_18 : decode cX6_turn 18 = .ok (.getfield 10, 3) := by decide +kernel
theorem dX6_turn_21 : decode cX6_turn 21 = .ok (.getfield 73, 3) := by decide +kernel
theorem dX6_turn_24 : decode cX6_turn 24 = .ok (.iload_n 1, 1) := by decide +kernel
theorem dX6_turn_25 : decode cX6_turn 25 = .ok (.iaload, 1) := by decide +kernel
theorem dX6_turn_26 : decode cX6_turn 26 = .ok (.iload_n 2, 1) := by decide +kernel
theorem dX6_turn_27 : decode cX6_turn 27 = .ok (.if_icmp .ne 5, 3) := by decide +kernel
theorem dX6_turn_30 : decode cX6_turn 30 = .ok (.iconst 0, 1) := by decide +kernel
theorem dX6_turn_31 : decode cX6_turn 31 = .ok (.ireturn, 1) := by decide +kernel
theorem dX6_turn_32 : decode cX6_turn 32 = .ok (.aload_n 0, 1) := by decide +kernel
theorem dX6_turn_33 : decode cX6_turn 33 = .ok (.getfield 10, 3) := by decide +kernel
theorem dX6_turn_36 : decode cX6_turn 36 = .ok (.getfield 73, 3) := by decide +kernel
theorem dX6_turn_39 : decode cX6_turn 39 = .ok (.iload_n 1, 1) := by decide +kernel
theorem dX6_turn_40 : decode cX6_turn 40 = .ok (.iload_n 2, 1) := by decide +kernel
theorem dX6_turn_41 : decode cX6_turn 41 = .ok (.iastore, 1) := by decide +kernel
theorem dX6_turn_42 : decode cX6_turn 42 = .ok (.aload_n 0, 1) := by decide +kernel
theorem dX6_turn_43 : decode cX6_turn 43 = .ok (.getfield 40, 3) := by decide +kernel
theorem dX6_turn_46 : decode cX6_turn 46 = .ok (.invokevirtual 62, 3) := by decide +kernel
theorem dX6_turn_49 : decode cX6_turn 49 = .ok (.iconst 1, 1) := by decide +kernel
theorem dX6_turn_50 : decode cX6_turn 50 = .ok (.ireturn, 1) := by decide +kernel
theorem dX6_group_0 : decode cX6_group 0 = .ok (.iload_n 1, 1) := by decide +kernel
theorem dX6_group_1 : decode cX6_group 1 = .ok (.iconst 0, 1) := by decide +kernel
theorem dX6_group_2 : decode cX6_group 2 = .ok (.bipush 99, 2) := by decide +kernel
theorem dX6_group_4 : decode cX6_group 4 = .ok (.invokestatic 55, 3) := by decide +kernel
theorem dX6_group_7 : decode cX6_group 7 = .ok (.ifCond .eq 15, 3) := by decide +kernel
theorem dX6_group_10 : decode cX6_group 10 = .ok (.aload_n 0, 1) := by decide +kernel
theorem dX6_group_11 : decode cX6_group 11 = .ok (.getfield 19, 3) := by decide +kernel
theorem dX6_group_14 : decode cX6_group 14 = .ok (.getfield 77, 3) := by decide +kernel
theorem dX6_group_17 : decode cX6_group 17 = .ok (.bipush 8, 2) := by decide +kernel
theorem dX6_group_19 : decode cX6_group 19 = .ok (.if_icmp .lt 5, 3) := by decide +kernel
theorem dX6_group_22 : decode cX6_group 22 = .ok (.iconst (-1), 1) := by decide +kernel
theorem dX6_group_23 : decode cX6_group 23 = .ok (.ireturn, 1) := by decide +kernel
theorem dX6_group_24 : decode cX6_group 24 = .ok (.aload_n 0, 1) := by decide +kernel
theorem dX6_group_25 : decode cX6_group 25 = .ok (.getfield 40, 3) := by decide +kernel
theorem dX6_group_28 : decode cX6_group 28 = .ok (.invokevirtual 62, 3) := by decide +kernel
theorem dX6_group_31 : decode cX6_group 31 = .ok (.aload_n 0, 1) := by decide +kernel
theorem dX6_group_32 : decode cX6_group 32 = .ok (.getfield 19, 3) := by decide +kernel
theorem dX6_group_35 : decode cX6_group 35 = .ok (.iload_n 1, 1) := by decide +kernel
theorem dX6_group_36 : decode cX6_group 36 = .ok (.invokevirtual 78, 3) := by decide +kernel
theorem dX6_group_39 : decode cX6_group 39 = .ok (.ireturn, 1) := by decide +kernel
theorem dX6_grow_0 : decode cX6_grow 0 = .ok (.aload_n 0, 1) := by decide +kernel
theorem dX6_grow_1 : decode cX6_grow 1 = .ok (.iload_n 1, 1) := by decide +kernel
theorem dX6_grow_2 : decode cX6_grow 2 = .ok (.invokevirtual 81, 3) := by decide +kernel
theorem dX6_grow_5 : decode cX6_grow 5 = .ok (.ifCond .eq 26, 3) := by decide +kernel
theorem dX6_grow_8 : decode cX6_grow 8 = .ok (.iload_n 2, 1) := by decide +kernel
theorem dX6_grow_9 : decode cX6_grow 9 = .ok (.iconst 0, 1) := by decide +kernel
theorem dX6_grow_10 : decode cX6_grow 10 = .ok (.bipush 99, 2) := by decide +kernel
theorem dX6_grow_12 : decode cX6_grow 12 = .ok (.invokestatic 55, 3) := by decide +kernel
theorem dX6_grow_15 : decode cX6_grow 15 = .ok (.ifCond .eq 16, 3) := by decide +kernel
theorem dX6_grow_18 : decode cX6_grow 18 = .ok (.aload_n 0, 1) := by decide +kernel
theorem dX6_grow_19 : decode cX6_grow 19 = .ok (.getfield 19, 3) := by decide +kernel
theorem dX6_grow_22 : decode cX6_grow 22 = .ok (.getfield 84, 3) := by decide +kernel
theorem dX6_grow_25 : decode cX6_grow 25 = .ok (.iload_n 1, 1) := by decide +kernel
theorem dX6_grow_26 : decode cX6_grow 26 = .ok (.iaload, 1) := by decide +kernel
theorem dX6_grow_27 : decode cX6_grow 27 = .ok (.iload_n 2, 1) := by decide +kernel
theorem dX6_grow_28 : decode cX6_grow 28 = .ok (.if_icmp .ne 5, 3) := by decide +kernel
theorem dX6_grow_31 : decode cX6_grow 31 = .ok (.iconst 0, 1) := by decide +kernel
theorem dX6_grow_32 : decode cX6_grow 32 = .ok (.ireturn, 1) := by decide +kernel
theorem dX6_grow_33 : decode cX6_grow 33 = .ok (.aload_n 0, 1) := by decide +kernel
theorem dX6_grow_34 : decode cX6_grow 34 = .ok (.getfield 19, 3) := by decide +kernel
theorem dX6_grow_37 : decode cX6_grow 37 = .ok (.getfield 84, 3) := by decide +kernel
theorem dX6_grow_40 : decode cX6_grow 40 = .ok (.iload_n 1, 1) := by decide +kernel
theorem dX6_grow_41 : decode cX6_grow 41 = .ok (.iload_n 2, 1) := by decide +kernel
theorem dX6_grow_42 : decode cX6_grow 42 = .ok (.iastore, 1) := by decide +kernel
theorem dX6_grow_43 : decode cX6_grow 43 = .ok (.aload_n 0, 1) := by decide +kernel
theorem dX6_grow_44 : decode cX6_grow 44 = .ok (.getfield 26, 3) := by decide +kernel
theorem dX6_grow_47 : decode cX6_grow 47 = .ok (.iload_n 1, 1) := by decide +kernel
theorem dX6_grow_48 : decode cX6_grow 48 = .ok (.iload_n 2, 1) := by decide +kernel
theorem dX6_grow_49 : decode cX6_grow 49 = .ok (.invokevirtual 87, 3) := by decide +kernel
theorem dX6_grow_52 : decode cX6_grow 52 = .ok (.aload_n 0, 1) := by decide +kernel
theorem dX6_grow_53 : decode cX6_grow 53 = .ok (.getfield 40, 3) := by decide +kernel
theorem dX6_grow_56 : decode cX6_grow 56 = .ok (.invokevirtual 62, 3) := by decide +kernel
theorem dX6_grow_59 : decode cX6_grow 59 = .ok (.iconst 1, 1) := by decide +kernel
theorem dX6_grow_60 : decode cX6_grow 60 = .ok (.ireturn, 1) := by decide +kernel
theorem dX6_book_0 : decode cX6_book 0 = .ok (.aload_n 0, 1) := by decide +kernel
theorem dX6_book_1 : decode cX6_book 1 = .ok (.iload_n 1, 1) := by decide +kernel
theorem dX6_book_2 : decode cX6_book 2 = .ok (.invokevirtual 81, 3) := by decide +kernel
theorem dX6_book_5 : decode cX6_book 5 = .ok (.ifCond .eq 25, 3) := by decide +kernel
theorem dX6_book_8 : decode cX6_book 8 = .ok (.iload_n 2, 1) := by decide +kernel
theorem dX6_book_9 : decode cX6_book 9 = .ok (.iconst 1, 1) := by decide +kernel
theorem dX6_book_10 : decode cX6_book 10 = .ok (.bipush 40, 2) := by decide +kernel
theorem dX6_book_12 : decode cX6_book 12 = .ok (.invokestatic 55, 3) := by decide +kernel
theorem dX6_book_15 : decode cX6_book 15 = .ok (.ifCond .eq 15, 3) := by decide +kernel
theorem dX6_book_18 : decode cX6_book 18 = .ok (.aload_n 0, 1) := by decide +kernel
theorem dX6_book_19 : decode cX6_book 19 = .ok (.getfield 26, 3) := by decide +kernel
theorem dX6_book_22 : decode cX6_book 22 = .ok (.getfield 91, 3) := by decide +kernel
theorem dX6_book_25 : decode cX6_book 25 = .ok (.bipush 60, 2) := by decide +kernel
theorem dX6_book_27 : decode cX6_book 27 = .ok (.if_icmp .lt 5, 3) := by decide +kernel
theorem dX6_book_30 : decode cX6_book 30 = .ok (.iconst (-1), 1) := by decide +kernel
theorem dX6_book_31 : decode cX6_book 31 = .ok (.ireturn, 1) := by decide +kernel
theorem dX6_book_32 : decode cX6_book 32 = .ok (.aload_n 0, 1) := by decide +kernel
theorem dX6_book_33 : decode cX6_book 33 = .ok (.getfield 26, 3) := by decide +kernel
theorem dX6_book_36 : decode cX6_book 36 = .ok (.iload_n 1, 1) := by decide +kernel
theorem dX6_book_37 : decode cX6_book 37 = .ok (.invokevirtual 92, 3) := by decide +kernel
theorem dX6_book_40 : decode cX6_book 40 = .ok (.istore_n 3, 1) := by decide +kernel
theorem dX6_book_41 : decode cX6_book 41 = .ok (.aload_n 0, 1) := by decide +kernel
theorem dX6_book_42 : decode cX6_book 42 = .ok (.getfield 33, 3) := by decide +kernel
theorem dX6_book_45 : decode cX6_book 45 = .ok (.aload_n 0, 1) := by decide +kernel
theorem dX6_book_46 : decode cX6_book 46 = .ok (.getfield 10, 3) := by decide +kernel
theorem dX6_book_49 : decode cX6_book 49 = .ok (.aload_n 0, 1) := by decide +kernel
theorem dX6_book_50 : decode cX6_book 50 = .ok (.getfield 26, 3) := by decide +kernel
theorem dX6_book_53 : decode cX6_book 53 = .ok (.iconst 0, 1) := by decide +kernel
theorem dX6_book_54 : decode cX6_book 54 = .ok (.invokevirtual 95, 3) := by decide +kernel
theorem dX6_book_57 : decode cX6_book 57 = .ok (.aload_n 0, 1) := by decide +kernel
theorem dX6_book_58 : decode cX6_book 58 = .ok (.getfield 33, 3) := by decide +kernel
theorem dX6_book_61 : decode cX6_book 61 = .ok (.iload_n 3, 1) := by decide +kernel
theorem dX6_book_62 : decode cX6_book 62 = .ok (.iload_n 2, 1) := by decide +kernel
theorem dX6_book_63 : decode cX6_book 63 = .ok (.invokevirtual 99, 3) := by decide +kernel
theorem dX6_book_66 : decode cX6_book 66 = .ok (.aload_n 0, 1) := by decide +kernel
theorem dX6_book_67 : decode cX6_book 67 = .ok (.getfield 33, 3) := by decide +kernel
theorem dX6_book_70 : decode cX6_book 70 = .ok (.invokevirtual 102, 3) := by decide +kernel
theorem dX6_book_73 : decode cX6_book 73 = .ok (.ifCond .ne 5, 3) := by decide +kernel
theorem dX6_book_76 : decode cX6_book 76 = .ok (.iconst (-1), 1) := by decide +kernel
theorem dX6_book_77 : decode cX6_book 77 = .ok (.ireturn, 1) := by decide +kernel
theorem dX6_book_78 : decode cX6_book 78 = .ok (.aload_n 0, 1) := by decide +kernel
theorem dX6_book_79 : decode cX6_book 79 = .ok (.getfield 33, 3) := by decide +kernel
theorem dX6_book_82 : decode cX6_book 82 = .ok (.getfield 106, 3) := by decide +kernel
theorem dX6_book_85 : decode cX6_book 85 = .ok (.iload_n 3, 1) := by decide +kernel
theorem dX6_book_86 : decode cX6_book 86 = .ok (.iaload, 1) := by decide +kernel
theorem dX6_book_87 : decode cX6_book 87 = .ok (.istore 4, 2) := by decide +kernel
theorem dX6_book_89 : decode cX6_book 89 = .ok (.aload_n 0, 1) := by decide +kernel
theorem dX6_book_90 : decode cX6_book 90 = .ok (.getfield 33, 3) := by decide +kernel
theorem dX6_book_93 : decode cX6_book 93 = .ok (.iload_n 3, 1) := by decide +kernel
theorem dX6_book_94 : decode cX6_book 94 = .ok (.invokevirtual 109, 3) := by decide +kernel
theorem dX6_book_97 : decode cX6_book 97 = .ok (.aload_n 0, 1) := by decide +kernel
theorem dX6_book_98 : decode cX6_book 98 = .ok (.invokevirtual 113, 3) := by decide +kernel
theorem dX6_book_101 : decode cX6_book 101 = .ok (.aload_n 0, 1) := by decide +kernel
theorem dX6_book_102 : decode cX6_book 102 = .ok (.getfield 26, 3) := by decide +kernel
theorem dX6_book_105 : decode cX6_book 105 = .ok (.iload_n 3, 1) := by decide +kernel
theorem dX6_book_106 : decode cX6_book 106 = .ok (.iload_n 1, 1) := by decide +kernel
theorem dX6_book_107 : decode cX6_book 107 = .ok (.iload_n 2, 1) := by decide +kernel
theorem dX6_book_108 : decode cX6_book 108 = .ok (.iload 4, 2) := by decide +kernel
theorem dX6_book_110 : decode cX6_book 110 = .ok (.invokevirtual 116, 3) := by decide +kernel
theorem dX6_book_113 : decode cX6_book 113 = .ok (.aload_n 0, 1) := by decide +kernel
theorem dX6_book_114 : decode cX6_book 114 = .ok (.getfield 26, 3) := by decide +kernel
theorem dX6_book_117 : decode cX6_book 117 = .ok (.iload_n 1, 1) := by decide +kernel
theorem dX6_book_118 : decode cX6_book 118 = .ok (.aload_n 0, 1) := by decide +kernel
theorem dX6_book_119 : decode cX6_book 119 = .ok (.getfield 19, 3) := by decide +kernel
theorem dX6_book_122 : decode cX6_book 122 = .ok (.getfield 84, 3) := by decide +kernel
theorem dX6_book_125 : decode cX6_book 125 = .ok (.iload_n 1, 1) := by decide +kernel
theorem dX6_book_126 : decode cX6_book 126 = .ok (.iaload, 1) := by decide +kernel
theorem dX6_book_127 : decode cX6_book 127 = .ok (.invokevirtual 87, 3) := by decide +kernel
theorem dX6_book_130 : decode cX6_book 130 = .ok (.aload_n 0, 1) := by decide +kernel
theorem dX6_book_131 : decode cX6_book 131 = .ok (.getfield 47, 3) := by decide +kernel
theorem dX6_book_134 : decode cX6_book 134 = .ok (.iconst 0, 1) := by decide +kernel
theorem dX6_book_135 : decode cX6_book 135 = .ok (.iload_n 3, 1) := by decide +kernel
theorem dX6_book_136 : decode cX6_book 136 = .ok (.iload_n 2, 1) := by decide +kernel
theorem dX6_book_137 : decode cX6_book 137 = .ok (.iconst (-1), 1) := by decide +kernel
theorem dX6_book_138 : decode cX6_book 138 = .ok (.iload 4, 2) := by decide +kernel
theorem dX6_book_140 : decode cX6_book 140 = .ok (.invokevirtual 119, 3) := by decide +kernel
theorem dX6_book_143 : decode cX6_book 143 = .ok (.iload_n 3, 1) := by decide +kernel
theorem dX6_book_144 : decode cX6_book 144 = .ok (.ireturn, 1) := by decide +kernel
theorem dX6_gone_0 : decode cX6_gone 0 = .ok (.aload_n 0, 1) := by decide +kernel
theorem dX6_gone_1 : decode cX6_gone 1 = .ok (.iload_n 1, 1) := by decide +kernel
theorem dX6_gone_2 : decode cX6_gone 2 = .ok (.invokevirtual 123, 3) := by decide +kernel
theorem dX6_gone_5 : decode cX6_gone 5 = .ok (.ifCond .ne 5, 3) := by decide +kernel
theorem dX6_gone_8 : decode cX6_gone 8 = .ok (.iconst (-1), 1) := by decide +kernel
theorem dX6_gone_9 : decode cX6_gone 9 = .ok (.ireturn, 1) := by decide +kernel
theorem dX6_gone_10 : decode cX6_gone 10 = .ok (.aload_n 0, 1) := by decide +kernel
theorem dX6_gone_11 : decode cX6_gone 11 = .ok (.getfield 26, 3) := by decide +kernel
theorem dX6_gone_14 : decode cX6_gone 14 = .ok (.getfield 126, 3) := by decide +kernel
theorem dX6_gone_17 : decode cX6_gone 17 = .ok (.iload_n 1, 1) := by decide +kernel
theorem dX6_gone_18 : decode cX6_gone 18 = .ok (.iaload, 1) := by decide +kernel
theorem dX6_gone_19 : decode cX6_gone 19 = .ok (.istore_n 2, 1) := by decide +kernel
theorem dX6_gone_20 : decode cX6_gone 20 = .ok (.aload_n 0, 1) := by decide +kernel
theorem dX6_gone_21 : decode cX6_gone 21 = .ok (.getfield 26, 3) := by decide +kernel
theorem dX6_gone_24 : decode cX6_gone 24 = .ok (.getfield 129, 3) := by decide +kernel
theorem dX6_gone_27 : decode cX6_gone 27 = .ok (.iload_n 1, 1) := by decide +kernel
theorem dX6_gone_28 : decode cX6_gone 28 = .ok (.iaload, 1) := by decide +kernel
theorem dX6_gone_29 : decode cX6_gone 29 = .ok (.istore_n 3, 1) := by decide +kernel
theorem dX6_gone_30 : decode cX6_gone 30 = .ok (.aload_n 0, 1) := by decide +kernel
theorem dX6_gone_31 : decode cX6_gone 31 = .ok (.getfield 47, 3) := by decide +kernel
theorem dX6_gone_34 : decode cX6_gone 34 = .ok (.iconst 3, 1) := by decide +kernel
theorem dX6_gone_35 : decode cX6_gone 35 = .ok (.iload_n 1, 1) := by decide +kernel
theorem dX6_gone_36 : decode cX6_gone 36 = .ok (.aload_n 0, 1) := by decide +kernel
theorem dX6_gone_37 : decode cX6_gone 37 = .ok (.getfield 26, 3) := by decide +kernel
theorem dX6_gone_40 : decode cX6_gone 40 = .ok (.getfield 132, 3) := by decide +kernel
theorem dX6_gone_43 : decode cX6_gone 43 = .ok (.iload_n 1, 1) := by decide +kernel
theorem dX6_gone_44 : decode cX6_gone 44 = .ok (.iaload, 1) := by decide +kernel
theorem dX6_gone_45 : decode cX6_gone 45 = .ok (.iload_n 2, 1) := by decide +kernel
theorem dX6_gone_46 : decode cX6_gone 46 = .ok (.iconst (-1), 1) := by decide +kernel
theorem dX6_gone_47 : decode cX6_gone 47 = .ok (.invokevirtual 119, 3) := by decide +kernel
theorem dX6_gone_50 : decode cX6_gone 50 = .ok (.aload_n 0, 1) := by decide +kernel
theorem dX6_gone_51 : decode cX6_gone 51 = .ok (.getfield 26, 3) := by decide +kernel
theorem dX6_gone_54 : decode cX6_gone 54 = .ok (.iload_n 1, 1) := by decide +kernel
theorem dX6_gone_55 : decode cX6_gone 55 = .ok (.invokevirtual 135, 3) := by decide +kernel
theorem dX6_gone_58 : decode cX6_gone 58 = .ok (.aload_n 0, 1) := by decide +kernel
theorem dX6_gone_59 : decode cX6_gone 59 = .ok (.iload_n 3, 1) := by decide +kernel
theorem dX6_gone_60 : decode cX6_gone 60 = .ok (.invokevirtual 81, 3) := by decide +kernel
theorem dX6_gone_63 : decode cX6_gone 63 = .ok (.ifCond .eq 20, 3) := by decide +kernel
theorem dX6_gone_66 : decode cX6_gone 66 = .ok (.aload_n 0, 1) := by decide +kernel
theorem dX6_gone_67 : decode cX6_gone 67 = .ok (.getfield 26, 3) := by decide +kernel
theorem dX6_gone_70 : decode cX6_gone 70 = .ok (.iload_n 3, 1) := by decide +kernel
theorem dX6_gone_71 : decode cX6_gone 71 = .ok (.aload_n 0, 1) := by decide +kernel
theorem dX6_gone_72 : decode cX6_gone 72 = .ok (.getfield 19, 3) := by decide +kernel
theorem dX6_gone_75 : decode cX6_gone 75 = .ok (.getfield 84, 3) := by decide +kernel
theorem dX6_gone_78 : decode cX6_gone 78 = .ok (.iload_n 3, 1) := by decide +kernel
theorem dX6_gone_79 : decode cX6_gone 79 = .ok (.iaload, 1) := by decide +kernel
theorem dX6_gone_80 : decode cX6_gone 80 = .ok (.invokevirtual 87, 3) := by decide +kernel
theorem dX6_gone_83 : decode cX6_gone 83 = .ok (.aload_n 0, 1) := by decide +kernel
theorem dX6_gone_84 : decode cX6_gone 84 = .ok (.getfield 40, 3) := by decide +kernel
theorem dX6_gone_87 : decode cX6_gone 87 = .ok (.invokevirtual 62, 3) := by decide +kernel
theorem dX6_gone_90 : decode cX6_gone 90 = .ok (.iload_n 2, 1) := by decide +kernel
theorem dX6_gone_91 : decode cX6_gone 91 = .ok (.ireturn, 1) := by decide +kernel
theorem dX6_limit_0 : decode cX6_limit 0 = .ok (.iload_n 1, 1) := by decide +kernel
theorem dX6_limit_1 : decode cX6_limit 1 = .ok (.bipush 40, 2) := by decide +kernel
theorem dX6_limit_3 : decode cX6_limit 3 = .ok (.sipush 400, 3) := by decide +kernel
theorem dX6_limit_6 : decode cX6_limit 6 = .ok (.invokestatic 55, 3) := by decide +kernel
theorem dX6_limit_9 : decode cX6_limit 9 = .ok (.ifCond .eq 11, 3) := by decide +kernel
theorem dX6_limit_12 : decode cX6_limit 12 = .ok (.iload_n 1, 1) := by decide +kernel
theorem dX6_limit_13 : decode cX6_limit 13 = .ok (.aload_n 0, 1) := by decide +kernel
theorem dX6_limit_14 : decode cX6_limit 14 = .ok (.getfield 51, 3) := by decide +kernel
theorem dX6_limit_17 : decode cX6_limit 17 = .ok (.if_icmp .ne 5, 3) := by decide +kernel
theorem dX6_limit_20 : decode cX6_limit 20 = .ok (.iconst 0, 1) := by decide +kernel
theorem dX6_limit_21 : decode cX6_limit 21 = .ok (.ireturn, 1) := by decide +kernel
theorem dX6_limit_22 : decode cX6_limit 22 = .ok (.aload_n 0, 1) := by decide +kernel
theorem dX6_limit_23 : decode cX6_limit 23 = .ok (.iload_n 1, 1) := by decide +kernel
theorem dX6_limit_24 : decode cX6_limit 24 = .ok (.putfield 51, 3) := by decide +kernel
theorem dX6_limit_27 : decode cX6_limit 27 = .ok (.iconst 1, 1) := by decide +kernel
theorem dX6_limit_28 : decode cX6_limit 28 = .ok (.ireturn, 1) := by decide +kernel
theorem dX6_count_0 : decode cX6_count 0 = .ok (.iload_n 1, 1) := by decide +kernel
theorem dX6_count_1 : decode cX6_count 1 = .ok (.tableswitch 158 0 10 #[59, 67, 75, 83, 91, 99, 104, 112, 120, 142, 150], 59) := by decide +kernel
theorem dX6_count_60 : decode cX6_count 60 = .ok (.aload_n 0, 1) := by decide +kernel
theorem dX6_count_61 : decode cX6_count 61 = .ok (.getfield 10, 3) := by decide +kernel
theorem dX6_count_64 : decode cX6_count 64 = .ok (.getfield 59, 3) := by decide +kernel
theorem dX6_count_67 : decode cX6_count 67 = .ok (.ireturn, 1) := by decide +kernel
theorem dX6_count_68 : decode cX6_count 68 = .ok (.aload_n 0, 1) := by decide +kernel
theorem dX6_count_69 : decode cX6_count 69 = .ok (.getfield 19, 3) := by decide +kernel
theorem dX6_count_72 : decode cX6_count 72 = .ok (.getfield 77, 3) := by decide +kernel
theorem dX6_count_75 : decode cX6_count 75 = .ok (.ireturn, 1) := by decide +kernel
theorem dX6_count_76 : decode cX6_count 76 = .ok (.aload_n 0, 1) := by decide +kernel
theorem dX6_count_77 : decode cX6_count 77 = .ok (.getfield 26, 3) := by decide +kernel
theorem dX6_count_80 : decode cX6_count 80 = .ok (.getfield 91, 3) := by decide +kernel
theorem dX6_count_83 : decode cX6_count 83 = .ok (.ireturn, 1) := by decide +kernel
theorem dX6_count_84 : decode cX6_count 84 = .ok (.aload_n 0, 1) := by decide +kernel
theorem dX6_count_85 : decode cX6_count 85 = .ok (.getfield 26, 3) := by decide +kernel
theorem dX6_count_88 : decode cX6_count 88 = .ok (.invokevirtual 138, 3) := by decide +kernel
theorem dX6_count_91 : decode cX6_count 91 = .ok (.ireturn, 1) := by decide +kernel
theorem dX6_count_92 : decode cX6_count 92 = .ok (.aload_n 0, 1) := by decide +kernel
theorem dX6_count_93 : decode cX6_count 93 = .ok (.getfield 10, 3) := by decide +kernel
theorem dX6_count_96 : decode cX6_count 96 = .ok (.invokevirtual 142, 3) := by decide +kernel
theorem dX6_count_99 : decode cX6_count 99 = .ok (.ireturn, 1) := by decide +kernel
theorem dX6_count_100 : decode cX6_count 100 = .ok (.aload_n 0, 1) := by decide +kernel
theorem dX6_count_101 : decode cX6_count 101 = .ok (.getfield 51, 3) := by decide +kernel
theorem dX6_count_104 : decode cX6_count 104 = .ok (.ireturn, 1) := by decide +kernel
theorem dX6_count_105 : decode cX6_count 105 = .ok (.aload_n 0, 1) := by decide +kernel
theorem dX6_count_106 : decode cX6_count 106 = .ok (.getfield 40, 3) := by decide +kernel
theorem dX6_count_109 : decode cX6_count 109 = .ok (.getfield 145, 3) := by decide +kernel
theorem dX6_count_112 : decode cX6_count 112 = .ok (.ireturn, 1) := by decide +kernel
theorem dX6_count_113 : decode cX6_count 113 = .ok (.aload_n 0, 1) := by decide +kernel
theorem dX6_count_114 : decode cX6_count 114 = .ok (.getfield 40, 3) := by decide +kernel
theorem dX6_count_117 : decode cX6_count 117 = .ok (.getfield 148, 3) := by decide +kernel
theorem dX6_count_120 : decode cX6_count 120 = .ok (.ireturn, 1) := by decide +kernel
theorem dX6_count_121 : decode cX6_count 121 = .ok (.aload_n 0, 1) := by decide +kernel
theorem dX6_count_122 : decode cX6_count 122 = .ok (.getfield 40, 3) := by decide +kernel
theorem dX6_count_125 : decode cX6_count 125 = .ok (.invokevirtual 151, 3) := by decide +kernel
theorem dX6_count_128 : decode cX6_count 128 = .ok (.ifCond .eq 13, 3) := by decide +kernel
theorem dX6_count_131 : decode cX6_count 131 = .ok (.aload_n 0, 1) := by decide +kernel
theorem dX6_count_132 : decode cX6_count 132 = .ok (.getfield 40, 3) := by decide +kernel
theorem dX6_count_135 : decode cX6_count 135 = .ok (.getfield 154, 3) := by decide +kernel
theorem dX6_count_138 : decode cX6_count 138 = .ok (.goto 4, 3) := by decide +kernel
theorem dX6_count_141 : decode cX6_count 141 = .ok (.iconst (-1), 1) := by decide +kernel
theorem dX6_count_142 : decode cX6_count 142 = .ok (.ireturn, 1) := by decide +kernel
theorem dX6_count_143 : decode cX6_count 143 = .ok (.aload_n 0, 1) := by decide +kernel
theorem dX6_count_144 : decode cX6_count 144 = .ok (.getfield 47, 3) := by decide +kernel
theorem dX6_count_147 : decode cX6_count 147 = .ok (.getfield 157, 3) := by decide +kernel
theorem dX6_count_150 : decode cX6_count 150 = .ok (.ireturn, 1) := by decide +kernel
theorem dX6_count_151 : decode cX6_count 151 = .ok (.aload_n 0, 1) := by decide +kernel
theorem dX6_count_152 : decode cX6_count 152 = .ok (.getfield 26, 3) := by decide +kernel
theorem dX6_count_155 : decode cX6_count 155 = .ok (.getfield 158, 3) := by decide +kernel
theorem dX6_count_158 : decode cX6_count 158 = .ok (.ireturn, 1) := by decide +kernel
theorem dX6_count_159 : decode cX6_count 159 = .ok (.iconst (-1), 1) := by decide +kernel
theorem dX6_count_160 : decode cX6_count 160 = .ok (.ireturn, 1) := by decide +kernel
theorem dX6_on_0 : decode cX6_on 0 = .ok (.aload_n 0, 1) := by decide +kernel
theorem dX6_on_1 : decode cX6_on 1 = .ok (.iload_n 1, 1) := by decide +kernel
theorem dX6_on_2 : decode cX6_on 2 = .ok (.invokevirtual 69, 3) := by decide +kernel
theorem dX6_on_5 : decode cX6_on 5 = .ok (.ifCond .ne 13, 3) := by decide +kernel
theorem dX6_on_8 : decode cX6_on 8 = .ok (.new 161, 3) := by decide +kernel
theorem dX6_on_11 : decode cX6_on 11 = .ok (.dup, 1) := by decide +kernel
theorem dX6_on_12 : decode cX6_on 12 = .ok (.ldc 163, 2) := by decide +kernel
theorem dX6_on_14 : decode cX6_on 14 = .ok (.invokespecial 165, 3) := by decide +kernel
theorem dX6_on_17 : decode cX6_on 17 = .ok (.athrow, 1) := by decide +kernel
theorem dX6_on_18 : decode cX6_on 18 = .ok (.iload_n 2, 1) := by decide +kernel
theorem dX6_on_19 : decode cX6_on 19 = .ok (.tableswitch 113 0 7 #[45, 55, 65, 74, 80, 89, 95, 104], 45) := by decide +kernel
theorem dX6_on_64 : decode cX6_on 64 = .ok (.aload_n 0, 1) := by decide +kernel
theorem dX6_on_65 : decode cX6_on 65 = .ok (.getfield 10, 3) := by decide +kernel
theorem dX6_on_68 : decode cX6_on 68 = .ok (.getfield 168, 3) := by decide +kernel
theorem dX6_on_71 : decode cX6_on 71 = .ok (.iload_n 1, 1) := by decide +kernel
theorem dX6_on_72 : decode cX6_on 72 = .ok (.iaload, 1) := by decide +kernel
theorem dX6_on_73 : decode cX6_on 73 = .ok (.ireturn, 1) := by decide +kernel
theorem dX6_on_74 : decode cX6_on 74 = .ok (.aload_n 0, 1) := by decide +kernel
theorem dX6_on_75 : decode cX6_on 75 = .ok (.getfield 10, 3) := by decide +kernel
theorem dX6_on_78 : decode cX6_on 78 = .ok (.getfield 73, 3) := by decide +kernel
theorem dX6_on_81 : decode cX6_on 81 = .ok (.iload_n 1, 1) := by decide +kernel
theorem dX6_on_82 : decode cX6_on 82 = .ok (.iaload, 1) := by decide +kernel
theorem dX6_on_83 : decode cX6_on 83 = .ok (.ireturn, 1) := by decide +kernel
theorem dX6_on_84 : decode cX6_on 84 = .ok (.aload_n 0, 1) := by decide +kernel
theorem dX6_on_85 : decode cX6_on 85 = .ok (.getfield 26, 3) := by decide +kernel
theorem dX6_on_88 : decode cX6_on 88 = .ok (.iload_n 1, 1) := by decide +kernel
theorem dX6_on_89 : decode cX6_on 89 = .ok (.invokevirtual 171, 3) := by decide +kernel
theorem dX6_on_92 : decode cX6_on 92 = .ok (.ireturn, 1) := by decide +kernel
theorem dX6_on_93 : decode cX6_on 93 = .ok (.aload_n 0, 1) := by decide +kernel
theorem dX6_on_94 : decode cX6_on 94 = .ok (.iload_n 1, 1) := by decide +kernel
theorem dX6_on_95 : decode cX6_on 95 = .ok (.invokevirtual 174, 3) := by decide +kernel
theorem dX6_on_98 : decode cX6_on 98 = .ok (.ireturn, 1) := by decide +kernel
theorem dX6_on_99 : decode cX6_on 99 = .ok (.aload_n 0, 1) := by decide +kernel
theorem dX6_on_100 : decode cX6_on 100 = .ok (.getfield 26, 3) := by decide +kernel
theorem dX6_on_103 : decode cX6_on 103 = .ok (.iload_n 1, 1) := by decide +kernel
theorem dX6_on_104 : decode cX6_on 104 = .ok (.invokevirtual 177, 3) := by decide +kernel
theorem dX6_on_107 : decode cX6_on 107 = .ok (.ireturn, 1) := by decide +kernel
theorem dX6_on_108 : decode cX6_on 108 = .ok (.aload_n 0, 1) := by decide +kernel
theorem dX6_on_109 : decode cX6_on 109 = .ok (.iload_n 1, 1) := by decide +kernel
theorem dX6_on_110 : decode cX6_on 110 = .ok (.invokevirtual 180, 3) := by decide +kernel
theorem dX6_on_113 : decode cX6_on 113 = .ok (.ireturn, 1) := by decide +kernel
theorem dX6_on_114 : decode cX6_on 114 = .ok (.aload_n 0, 1) := by decide +kernel
theorem dX6_on_115 : decode cX6_on 115 = .ok (.getfield 26, 3) := by decide +kernel
theorem dX6_on_118 : decode cX6_on 118 = .ok (.iload_n 1, 1) := by decide +kernel
theorem dX6_on_119 : decode cX6_on 119 = .ok (.invokevirtual 183, 3) := by decide +kernel
theorem dX6_on_122 : decode cX6_on 122 = .ok (.ireturn, 1) := by decide +kernel
theorem dX6_on_123 : decode cX6_on 123 = .ok (.aload_n 0, 1) := by decide +kernel
theorem dX6_on_124 : decode cX6_on 124 = .ok (.getfield 26, 3) := by decide +kernel
theorem dX6_on_127 : decode cX6_on 127 = .ok (.iload_n 1, 1) := by decide +kernel
theorem dX6_on_128 : decode cX6_on 128 = .ok (.invokevirtual 186, 3) := by decide +kernel
theorem dX6_on_131 : decode cX6_on 131 = .ok (.ireturn, 1) := by decide +kernel
theorem dX6_on_132 : decode cX6_on 132 = .ok (.new 161, 3) := by decide +kernel
theorem dX6_on_135 : decode cX6_on 135 = .ok (.dup, 1) := by decide +kernel
theorem dX6_on_136 : decode cX6_on 136 = .ok (.ldc 189, 2) := by decide +kernel
theorem dX6_on_138 : decode cX6_on 138 = .ok (.invokespecial 165, 3) := by decide +kernel
theorem dX6_on_141 : decode cX6_on 141 = .ok (.athrow, 1) := by decide +kernel
theorem dX6_in_0 : decode cX6_in 0 = .ok (.aload_n 0, 1) := by decide +kernel
theorem dX6_in_1 : decode cX6_in 1 = .ok (.iload_n 1, 1) := by decide +kernel
theorem dX6_in_2 : decode cX6_in 2 = .ok (.invokevirtual 81, 3) := by decide +kernel
theorem dX6_in_5 : decode cX6_in 5 = .ok (.ifCond .ne 13, 3) := by decide +kernel
theorem dX6_in_8 : decode cX6_in 8 = .ok (.new 161, 3) := by decide +kernel
theorem dX6_in_11 : decode cX6_in 11 = .ok (.dup, 1) := by decide +kernel
theorem dX6_in_12 : decode cX6_in 12 = .ok (.ldc 191, 2) := by decide +kernel
theorem dX6_in_14 : decode cX6_in 14 = .ok (.invokespecial 165, 3) := by decide +kernel
theorem dX6_in_17 : decode cX6_in 17 = .ok (.athrow, 1) := by decide +kernel
theorem dX6_in_18 : decode cX6_in 18 = .ok (.iload_n 2, 1) := by decide +kernel
theorem dX6_in_19 : decode cX6_in 19 = .ok (.tableswitch 79 0 4 #[33, 43, 52, 61, 70], 33) := by decide +kernel
theorem dX6_in_52 : decode cX6_in 52 = .ok (.aload_n 0, 1) := by decide +kernel
theorem dX6_in_53 : decode cX6_in 53 = .ok (.getfield 19, 3) := by decide +kernel
theorem dX6_in_56 : decode cX6_in 56 = .ok (.getfield 84, 3) := by decide +kernel
theorem dX6_in_59 : decode cX6_in 59 = .ok (.iload_n 1, 1) := by decide +kernel
theorem dX6_in_60 : decode cX6_in 60 = .ok (.iaload, 1) := by decide +kernel
theorem dX6_in_61 : decode cX6_in 61 = .ok (.ireturn, 1) := by decide +kernel
theorem dX6_in_62 : decode cX6_in 62 = .ok (.aload_n 0, 1) := by decide +kernel
theorem dX6_in_63 : decode cX6_in 63 = .ok (.getfield 26, 3) := by decide +kernel
theorem dX6_in_66 : decode cX6_in 66 = .ok (.iload_n 1, 1) := by decide +kernel
theorem dX6_in_67 : decode cX6_in 67 = .ok (.invokevirtual 193, 3) := by decide +kernel
theorem dX6_in_70 : decode cX6_in 70 = .ok (.ireturn, 1) := by decide +kernel
theorem dX6_in_71 : decode cX6_in 71 = .ok (.aload_n 0, 1) := by decide +kernel
theorem dX6_in_72 : decode cX6_in 72 = .ok (.getfield 26, 3) := by decide +kernel
theorem dX6_in_75 : decode cX6_in 75 = .ok (.iload_n 1, 1) := by decide +kernel
theorem dX6_in_76 : decode cX6_in 76 = .ok (.invokevirtual 196, 3) := by decide +kernel
theorem dX6_in_79 : decode cX6_in 79 = .ok (.ireturn, 1) := by decide +kernel
theorem dX6_in_80 : decode cX6_in 80 = .ok (.aload_n 0, 1) := by decide +kernel
theorem dX6_in_81 : decode cX6_in 81 = .ok (.getfield 26, 3) := by decide +kernel
theorem dX6_in_84 : decode cX6_in 84 = .ok (.iload_n 1, 1) := by decide +kernel
theorem dX6_in_85 : decode cX6_in 85 = .ok (.invokevirtual 199, 3) := by decide +kernel
theorem dX6_in_88 : decode cX6_in 88 = .ok (.ireturn, 1) := by decide +kernel
theorem dX6_in_89 : decode cX6_in 89 = .ok (.aload_n 0, 1) := by decide +kernel
theorem dX6_in_90 : decode cX6_in 90 = .ok (.getfield 26, 3) := by decide +kernel
theorem dX6_in_93 : decode cX6_in 93 = .ok (.iload_n 1, 1) := by decide +kernel
theorem dX6_in_94 : decode cX6_in 94 = .ok (.invokevirtual 202, 3) := by decide +kernel
theorem dX6_in_97 : decode cX6_in 97 = .ok (.ireturn, 1) := by decide +kernel
theorem dX6_in_98 : decode cX6_in 98 = .ok (.new 161, 3) := by decide +kernel
theorem dX6_in_101 : decode cX6_in 101 = .ok (.dup, 1) := by decide +kernel
theorem dX6_in_102 : decode cX6_in 102 = .ok (.ldc 189, 2) := by decide +kernel
theorem dX6_in_104 : decode cX6_in 104 = .ok (.invokespecial 165, 3) := by decide +kernel
theorem dX6_in_107 : decode cX6_in 107 = .ok (.athrow, 1) := by decide +kernel
theorem dX6_of_0 : decode cX6_of 0 = .ok (.aload_n 0, 1) := by decide +kernel
theorem dX6_of_1 : decode cX6_of 1 = .ok (.iload_n 1, 1) := by decide +kernel
theorem dX6_of_2 : decode cX6_of 2 = .ok (.invokevirtual 123, 3) := by decide +kernel
theorem dX6_of_5 : decode cX6_of 5 = .ok (.ifCond .ne 13, 3) := by decide +kernel
theorem dX6_of_8 : decode cX6_of 8 = .ok (.new 161, 3) := by decide +kernel
theorem dX6_of_11 : decode cX6_of 11 = .ok (.dup, 1) := by decide +kernel
theorem dX6_of_12 : decode cX6_of 12 = .ok (.ldc 205, 2) := by decide +kernel
theorem dX6_of_14 : decode cX6_of 14 = .ok (.invokespecial 165, 3) := by decide +kernel
theorem dX6_of_17 : decode cX6_of 17 = .ok (.athrow, 1) := by decide +kernel
theorem dX6_of_18 : decode cX6_of 18 = .ok (.iload_n 2, 1) := by decide +kernel
theorem dX6_of_19 : decode cX6_of 19 = .ok (.tableswitch 124 0 6 #[41, 51, 61, 71, 81, 90, 100], 41) := by decide +kernel
theorem dX6_of_60 : decode cX6_of 60 = .ok (.aload_n 0, 1) := by decide +kernel
theorem dX6_of_61 : decode cX6_of 61 = .ok (.getfield 26, 3) := by decide +kernel
theorem dX6_of_64 : decode cX6_of 64 = .ok (.getfield 129, 3) := by decide +kernel
theorem dX6_of_67 : decode cX6_of 67 = .ok (.iload_n 1, 1) := by decide +kernel
theorem dX6_of_68 : decode cX6_of 68 = .ok (.iaload, 1) := by decide +kernel
theorem dX6_of_69 : decode cX6_of 69 = .ok (.ireturn, 1) := by decide +kernel
theorem dX6_of_70 : decode cX6_of 70 = .ok (.aload_n 0, 1) := by decide +kernel
theorem dX6_of_71 : decode cX6_of 71 = .ok (.getfield 26, 3) := by decide +kernel
theorem dX6_of_74 : decode cX6_of 74 = .ok (.getfield 132, 3) := by decide +kernel
theorem dX6_of_77 : decode cX6_of 77 = .ok (.iload_n 1, 1) := by decide +kernel
theorem dX6_of_78 : decode cX6_of 78 = .ok (.iaload, 1) := by decide +kernel
theorem dX6_of_79 : decode cX6_of 79 = .ok (.ireturn, 1) := by decide +kernel
theorem dX6_of_80 : decode cX6_of 80 = .ok (.aload_n 0, 1) := by decide +kernel
theorem dX6_of_81 : decode cX6_of 81 = .ok (.getfield 26, 3) := by decide +kernel
theorem dX6_of_84 : decode cX6_of 84 = .ok (.getfield 207, 3) := by decide +kernel
theorem dX6_of_87 : decode cX6_of 87 = .ok (.iload_n 1, 1) := by decide +kernel
theorem dX6_of_88 : decode cX6_of 88 = .ok (.iaload, 1) := by decide +kernel
theorem dX6_of_89 : decode cX6_of 89 = .ok (.ireturn, 1) := by decide +kernel
theorem dX6_of_90 : decode cX6_of 90 = .ok (.aload_n 0, 1) := by decide +kernel
theorem dX6_of_91 : decode cX6_of 91 = .ok (.getfield 26, 3) := by decide +kernel
theorem dX6_of_94 : decode cX6_of 94 = .ok (.getfield 126, 3) := by decide +kernel
theorem dX6_of_97 : decode cX6_of 97 = .ok (.iload_n 1, 1) := by decide +kernel
theorem dX6_of_98 : decode cX6_of 98 = .ok (.iaload, 1) := by decide +kernel
theorem dX6_of_99 : decode cX6_of 99 = .ok (.ireturn, 1) := by decide +kernel
theorem dX6_of_100 : decode cX6_of 100 = .ok (.aload_n 0, 1) := by decide +kernel
theorem dX6_of_101 : decode cX6_of 101 = .ok (.getfield 26, 3) := by decide +kernel
theorem dX6_of_104 : decode cX6_of 104 = .ok (.iload_n 1, 1) := by decide +kernel
theorem dX6_of_105 : decode cX6_of 105 = .ok (.invokevirtual 210, 3) := by decide +kernel
theorem dX6_of_108 : decode cX6_of 108 = .ok (.ireturn, 1) := by decide +kernel
theorem dX6_of_109 : decode cX6_of 109 = .ok (.aload_n 0, 1) := by decide +kernel
theorem dX6_of_110 : decode cX6_of 110 = .ok (.getfield 26, 3) := by decide +kernel
theorem dX6_of_113 : decode cX6_of 113 = .ok (.getfield 213, 3) := by decide +kernel
theorem dX6_of_116 : decode cX6_of 116 = .ok (.iload_n 1, 1) := by decide +kernel
theorem dX6_of_117 : decode cX6_of 117 = .ok (.iaload, 1) := by decide +kernel
theorem dX6_of_118 : decode cX6_of 118 = .ok (.ireturn, 1) := by decide +kernel
theorem dX6_of_119 : decode cX6_of 119 = .ok (.aload_n 0, 1) := by decide +kernel
theorem dX6_of_120 : decode cX6_of 120 = .ok (.getfield 40, 3) := by decide +kernel
theorem dX6_of_123 : decode cX6_of 123 = .ok (.invokevirtual 151, 3) := by decide +kernel
theorem dX6_of_126 : decode cX6_of 126 = .ok (.ifCond .eq 15, 3) := by decide +kernel
theorem dX6_of_129 : decode cX6_of 129 = .ok (.aload_n 0, 1) := by decide +kernel
theorem dX6_of_130 : decode cX6_of 130 = .ok (.getfield 40, 3) := by decide +kernel
theorem dX6_of_133 : decode cX6_of 133 = .ok (.getfield 216, 3) := by decide +kernel
theorem dX6_of_136 : decode cX6_of 136 = .ok (.iload_n 1, 1) := by decide +kernel
theorem dX6_of_137 : decode cX6_of 137 = .ok (.iaload, 1) := by decide +kernel
theorem dX6_of_138 : decode cX6_of 138 = .ok (.goto 4, 3) := by decide +kernel
theorem dX6_of_141 : decode cX6_of 141 = .ok (.iconst (-1), 1) := by decide +kernel
theorem dX6_of_142 : decode cX6_of 142 = .ok (.ireturn, 1) := by decide +kernel
theorem dX6_of_143 : decode cX6_of 143 = .ok (.new 161, 3) := by decide +kernel
theorem dX6_of_146 : decode cX6_of 146 = .ok (.dup, 1) := by decide +kernel
theorem dX6_of_147 : decode cX6_of 147 = .ok (.ldc 189, 2) := by decide +kernel
theorem dX6_of_149 : decode cX6_of 149 = .ok (.invokespecial 165, 3) := by decide +kernel
theorem dX6_of_152 : decode cX6_of 152 = .ok (.athrow, 1) := by decide +kernel
theorem dX6_lasts_0 : decode cX6_lasts 0 = .ok (.sipush 999, 3) := by decide +kernel
theorem dX6_lasts_3 : decode cX6_lasts 3 = .ok (.istore_n 1, 1) := by decide +kernel
theorem dX6_lasts_4 : decode cX6_lasts 4 = .ok (.iconst 0, 1) := by decide +kernel
theorem dX6_lasts_5 : decode cX6_lasts 5 = .ok (.istore_n 2, 1) := by decide +kernel
theorem dX6_lasts_6 : decode cX6_lasts 6 = .ok (.iload_n 2, 1) := by decide +kernel
theorem dX6_lasts_7 : decode cX6_lasts 7 = .ok (.aload_n 0, 1) := by decide +kernel
theorem dX6_lasts_8 : decode cX6_lasts 8 = .ok (.getfield 10, 3) := by decide +kernel
theorem dX6_lasts_11 : decode cX6_lasts 11 = .ok (.getfield 59, 3) := by decide +kernel
theorem dX6_lasts_14 : decode cX6_lasts 14 = .ok (.if_icmp .ge 30, 3) := by decide +kernel
theorem dX6_lasts_17 : decode cX6_lasts 17 = .ok (.aload_n 0, 1) := by decide +kernel
theorem dX6_lasts_18 : decode cX6_lasts 18 = .ok (.getfield 26, 3) := by decide +kernel
theorem dX6_lasts_21 : decode cX6_lasts 21 = .ok (.iload_n 2, 1) := by decide +kernel
theorem dX6_lasts_22 : decode cX6_lasts 22 = .ok (.invokevirtual 186, 3) := by decide +kernel
theorem dX6_lasts_25 : decode cX6_lasts 25 = .ok (.ifCond .le 13, 3) := by decide +kernel
theorem dX6_lasts_28 : decode cX6_lasts 28 = .ok (.iload_n 1, 1) := by decide +kernel
theorem dX6_lasts_29 : decode cX6_lasts 29 = .ok (.aload_n 0, 1) := by decide +kernel
theorem dX6_lasts_30 : decode cX6_lasts 30 = .ok (.iload_n 2, 1) := by decide +kernel
theorem dX6_lasts_31 : decode cX6_lasts 31 = .ok (.invokevirtual 180, 3) := by decide +kernel
theorem dX6_lasts_34 : decode cX6_lasts 34 = .ok (.invokestatic 217, 3) := by decide +kernel
theorem dX6_lasts_37 : decode cX6_lasts 37 = .ok (.istore_n 1, 1) := by decide +kernel
theorem dX6_lasts_38 : decode cX6_lasts 38 = .ok (.iinc 2 1, 3) := by decide +kernel
theorem dX6_lasts_41 : decode cX6_lasts 41 = .ok (.goto (-35), 3) := by decide +kernel
theorem dX6_lasts_44 : decode cX6_lasts 44 = .ok (.iload_n 1, 1) := by decide +kernel
theorem dX6_lasts_45 : decode cX6_lasts 45 = .ok (.ireturn, 1) := by decide +kernel
theorem dX6_cut_0 : decode cX6_cut 0 = .ok (.aload_n 0, 1) := by decide +kernel
theorem dX6_cut_1 : decode cX6_cut 1 = .ok (.iload_n 2, 1) := by decide +kernel
theorem dX6_cut_2 : decode cX6_cut 2 = .ok (.invokevirtual 69, 3) := by decide +kernel
theorem dX6_cut_5 : decode cX6_cut 5 = .ok (.ifCond .eq 11, 3) := by decide +kernel
theorem dX6_cut_8 : decode cX6_cut 8 = .ok (.aload_n 0, 1) := by decide +kernel
theorem dX6_cut_9 : decode cX6_cut 9 = .ok (.iload_n 1, 1) := by decide +kernel
theorem dX6_cut_10 : decode cX6_cut 10 = .ok (.invokevirtual 222, 3) := by decide +kernel
theorem dX6_cut_13 : decode cX6_cut 13 = .ok (.ifCond .ne 5, 3) := by decide +kernel
theorem dX6_cut_16 : decode cX6_cut 16 = .ok (.iconst (-1), 1) := by decide +kernel
theorem dX6_cut_17 : decode cX6_cut 17 = .ok (.ireturn, 1) := by decide +kernel
theorem dX6_cut_18 : decode cX6_cut 18 = .ok (.aload_n 0, 1) := by decide +kernel
theorem dX6_cut_19 : decode cX6_cut 19 = .ok (.getfield 33, 3) := by decide +kernel
theorem dX6_cut_22 : decode cX6_cut 22 = .ok (.getfield 225, 3) := by decide +kernel
theorem dX6_cut_25 : decode cX6_cut 25 = .ok (.iload_n 2, 1) := by decide +kernel
theorem dX6_cut_26 : decode cX6_cut 26 = .ok (.iaload, 1) := by decide +kernel
theorem dX6_cut_27 : decode cX6_cut 27 = .ok (.ireturn, 1) := by decide +kernel
theorem dX6_price_0 : decode cX6_price 0 = .ok (.iload_n 2, 1) := by decide +kernel
theorem dX6_price_1 : decode cX6_price 1 = .ok (.iconst 0, 1) := by decide +kernel
theorem dX6_price_2 : decode cX6_price 2 = .ok (.iconst 2, 1) := by decide +kernel
theorem dX6_price_3 : decode cX6_price 3 = .ok (.invokestatic 55, 3) := by decide +kernel
theorem dX6_price_6 : decode cX6_price 6 = .ok (.ifCond .eq 11, 3) := by decide +kernel
theorem dX6_price_9 : decode cX6_price 9 = .ok (.aload_n 0, 1) := by decide +kernel
theorem dX6_price_10 : decode cX6_price 10 = .ok (.iload_n 1, 1) := by decide +kernel
theorem dX6_price_11 : decode cX6_price 11 = .ok (.invokevirtual 222, 3) := by decide +kernel
theorem dX6_price_14 : decode cX6_price 14 = .ok (.ifCond .ne 5, 3) := by decide +kernel
theorem dX6_price_17 : decode cX6_price 17 = .ok (.iconst (-1), 1) := by decide +kernel
theorem dX6_price_18 : decode cX6_price 18 = .ok (.ireturn, 1) := by decide +kernel
theorem dX6_price_19 : decode cX6_price 19 = .ok (.aload_n 0, 1) := by decide +kernel
theorem dX6_price_20 : decode cX6_price 20 = .ok (.getfield 33, 3) := by decide +kernel
theorem dX6_price_23 : decode cX6_price 23 = .ok (.iload_n 2, 1) := by decide +kernel
theorem dX6_price_24 : decode cX6_price 24 = .ok (.invokevirtual 228, 3) := by decide +kernel
theorem dX6_price_27 : decode cX6_price 27 = .ok (.ireturn, 1) := by decide +kernel
theorem dX6_best_0 : decode cX6_best 0 = .ok (.iload_n 1, 1) := by decide +kernel
theorem dX6_best_1 : decode cX6_best 1 = .ok (.ifCond .eq 7, 3) := by decide +kernel
theorem dX6_best_4 : decode cX6_best 4 = .ok (.iconst 0, 1) := by decide +kernel
theorem dX6_best_5 : decode cX6_best 5 = .ok (.goto 4, 3) := by decide +kernel
theorem dX6_best_8 : decode cX6_best 8 = .ok (.iconst 1, 1) := by decide +kernel
theorem dX6_best_9 : decode cX6_best 9 = .ok (.istore_n 2, 1) := by decide +kernel
theorem dX6_best_10 : decode cX6_best 10 = .ok (.aload_n 0, 1) := by decide +kernel
theorem dX6_best_11 : decode cX6_best 11 = .ok (.iconst 0, 1) := by decide +kernel
theorem dX6_best_12 : decode cX6_best 12 = .ok (.iload_n 2, 1) := by decide +kernel
theorem dX6_best_13 : decode cX6_best 13 = .ok (.invokevirtual 231, 3) := by decide +kernel
theorem dX6_best_16 : decode cX6_best 16 = .ok (.ifCond .ne 5, 3) := by decide +kernel
theorem dX6_best_19 : decode cX6_best 19 = .ok (.iconst (-1), 1) := by decide +kernel
theorem dX6_best_20 : decode cX6_best 20 = .ok (.ireturn, 1) := by decide +kernel
theorem dX6_best_21 : decode cX6_best 21 = .ok (.iconst 0, 1) := by decide +kernel
theorem dX6_best_22 : decode cX6_best 22 = .ok (.istore_n 3, 1) := by decide +kernel
theorem dX6_best_23 : decode cX6_best 23 = .ok (.sipush 512, 3) := by decide +kernel
theorem dX6_best_26 : decode cX6_best 26 = .ok (.istore 4, 2) := by decide +kernel
theorem dX6_best_28 : decode cX6_best 28 = .ok (.iload 4, 2) := by decide +kernel
theorem dX6_best_30 : decode cX6_best 30 = .ok (.ifCond .le 39, 3) := by decide +kernel
theorem dX6_best_33 : decode cX6_best 33 = .ok (.iload_n 3, 1) := by decide +kernel
theorem dX6_best_34 : decode cX6_best 34 = .ok (.iload 4, 2) := by decide +kernel
theorem dX6_best_36 : decode cX6_best 36 = .ok (.iadd, 1) := by decide +kernel
theorem dX6_best_37 : decode cX6_best 37 = .ok (.sipush 999, 3) := by decide +kernel
theorem dX6_best_40 : decode cX6_best 40 = .ok (.if_icmp .gt 20, 3) := by decide +kernel
theorem dX6_best_43 : decode cX6_best 43 = .ok (.aload_n 0, 1) := by decide +kernel
theorem dX6_best_44 : decode cX6_best 44 = .ok (.iload_n 3, 1) := by decide +kernel
theorem dX6_best_45 : decode cX6_best 45 = .ok (.iload 4, 2) := by decide +kernel
theorem dX6_best_47 : decode cX6_best 47 = .ok (.iadd, 1) := by decide +kernel
theorem dX6_best_48 : decode cX6_best 48 = .ok (.iload_n 2, 1) := by decide +kernel
theorem dX6_best_49 : decode cX6_best 49 = .ok (.invokevirtual 231, 3) := by decide +kernel
theorem dX6_best_52 : decode cX6_best 52 = .ok (.ifCond .eq 8, 3) := by decide +kernel
theorem dX6_best_55 : decode cX6_best 55 = .ok (.iload_n 3, 1) := by decide +kernel
theorem dX6_best_56 : decode cX6_best 56 = .ok (.iload 4, 2) := by decide +kernel
theorem dX6_best_58 : decode cX6_best 58 = .ok (.iadd, 1) := by decide +kernel
theorem dX6_best_59 : decode cX6_best 59 = .ok (.istore_n 3, 1) := by decide +kernel
theorem dX6_best_60 : decode cX6_best 60 = .ok (.iload 4, 2) := by decide +kernel
theorem dX6_best_62 : decode cX6_best 62 = .ok (.iconst 2, 1) := by decide +kernel
theorem dX6_best_63 : decode cX6_best 63 = .ok (.idiv, 1) := by decide +kernel
theorem dX6_best_64 : decode cX6_best 64 = .ok (.istore 4, 2) := by decide +kernel
theorem dX6_best_66 : decode cX6_best 66 = .ok (.goto (-38), 3) := by decide +kernel
theorem dX6_best_69 : decode cX6_best 69 = .ok (.iload_n 3, 1) := by decide +kernel
theorem dX6_best_70 : decode cX6_best 70 = .ok (.ireturn, 1) := by decide +kernel
theorem dX6_tight_0 : decode cX6_tight 0 = .ok (.aload_n 0, 1) := by decide +kernel
theorem dX6_tight_1 : decode cX6_tight 1 = .ok (.getfield 33, 3) := by decide +kernel
theorem dX6_tight_4 : decode cX6_tight 4 = .ok (.aload_n 0, 1) := by decide +kernel
theorem dX6_tight_5 : decode cX6_tight 5 = .ok (.getfield 10, 3) := by decide +kernel
theorem dX6_tight_8 : decode cX6_tight 8 = .ok (.aload_n 0, 1) := by decide +kernel
theorem dX6_tight_9 : decode cX6_tight 9 = .ok (.getfield 26, 3) := by decide +kernel
theorem dX6_tight_12 : decode cX6_tight 12 = .ok (.iconst 0, 1) := by decide +kernel
theorem dX6_tight_13 : decode cX6_tight 13 = .ok (.invokevirtual 95, 3) := by decide +kernel
theorem dX6_tight_16 : decode cX6_tight 16 = .ok (.aload_n 0, 1) := by decide +kernel
theorem dX6_tight_17 : decode cX6_tight 17 = .ok (.getfield 33, 3) := by decide +kernel
theorem dX6_tight_20 : decode cX6_tight 20 = .ok (.iconst 0, 1) := by decide +kernel
theorem dX6_tight_21 : decode cX6_tight 21 = .ok (.invokevirtual 235, 3) := by decide +kernel
theorem dX6_tight_24 : decode cX6_tight 24 = .ok (.istore_n 1, 1) := by decide +kernel
theorem dX6_tight_25 : decode cX6_tight 25 = .ok (.iload_n 1, 1) := by decide +kernel
theorem dX6_tight_26 : decode cX6_tight 26 = .ok (.ifCond .le 9, 3) := by decide +kernel
theorem dX6_tight_29 : decode cX6_tight 29 = .ok (.iload_n 1, 1) := by decide +kernel
theorem dX6_tight_30 : decode cX6_tight 30 = .ok (.iconst 1, 1) := by decide +kernel
theorem dX6_tight_31 : decode cX6_tight 31 = .ok (.isub, 1) := by decide +kernel
theorem dX6_tight_32 : decode cX6_tight 32 = .ok (.goto 4, 3) := by decide +kernel
theorem dX6_tight_35 : decode cX6_tight 35 = .ok (.iconst (-1), 1) := by decide +kernel
theorem dX6_tight_36 : decode cX6_tight 36 = .ok (.ireturn, 1) := by decide +kernel
theorem dX6_more_0 : decode cX6_more 0 = .ok (.aload_n 0, 1) := by decide +kernel
theorem dX6_more_1 : decode cX6_more 1 = .ok (.iload_n 1, 1) := by decide +kernel
theorem dX6_more_2 : decode cX6_more 2 = .ok (.invokevirtual 81, 3) := by decide +kernel
theorem dX6_more_5 : decode cX6_more 5 = .ok (.ifCond .eq 13, 3) := by decide +kernel
theorem dX6_more_8 : decode cX6_more 8 = .ok (.iload_n 2, 1) := by decide +kernel
theorem dX6_more_9 : decode cX6_more 9 = .ok (.iconst 1, 1) := by decide +kernel
theorem dX6_more_10 : decode cX6_more 10 = .ok (.bipush 40, 2) := by decide +kernel
theorem dX6_more_12 : decode cX6_more 12 = .ok (.invokestatic 55, 3) := by decide +kernel
theorem dX6_more_15 : decode cX6_more 15 = .ok (.ifCond .ne 5, 3) := by decide +kernel
theorem dX6_more_18 : decode cX6_more 18 = .ok (.iconst (-1), 1) := by decide +kernel
theorem dX6_more_19 : decode cX6_more 19 = .ok (.ireturn, 1) := by decide +kernel
theorem dX6_more_20 : decode cX6_more 20 = .ok (.aload_n 0, 1) := by decide +kernel
theorem dX6_more_21 : decode cX6_more 21 = .ok (.getfield 26, 3) := by decide +kernel
theorem dX6_more_24 : decode cX6_more 24 = .ok (.iload_n 1, 1) := by decide +kernel
theorem dX6_more_25 : decode cX6_more 25 = .ok (.invokevirtual 92, 3) := by decide +kernel
theorem dX6_more_28 : decode cX6_more 28 = .ok (.istore_n 3, 1) := by decide +kernel
theorem dX6_more_29 : decode cX6_more 29 = .ok (.bipush 60, 2) := by decide +kernel
theorem dX6_more_31 : decode cX6_more 31 = .ok (.aload_n 0, 1) := by decide +kernel
theorem dX6_more_32 : decode cX6_more 32 = .ok (.getfield 26, 3) := by decide +kernel
theorem dX6_more_35 : decode cX6_more 35 = .ok (.getfield 91, 3) := by decide +kernel
theorem dX6_more_38 : decode cX6_more 38 = .ok (.isub, 1) := by decide +kernel
theorem dX6_more_39 : decode cX6_more 39 = .ok (.istore 4, 2) := by decide +kernel
theorem dX6_more_41 : decode cX6_more 41 = .ok (.aload_n 0, 1) := by decide +kernel
theorem dX6_more_42 : decode cX6_more 42 = .ok (.getfield 33, 3) := by decide +kernel
theorem dX6_more_45 : decode cX6_more 45 = .ok (.aload_n 0, 1) := by decide +kernel
theorem dX6_more_46 : decode cX6_more 46 = .ok (.getfield 10, 3) := by decide +kernel
theorem dX6_more_49 : decode cX6_more 49 = .ok (.aload_n 0, 1) := by decide +kernel
theorem dX6_more_50 : decode cX6_more 50 = .ok (.getfield 26, 3) := by decide +kernel
theorem dX6_more_53 : decode cX6_more 53 = .ok (.iconst 0, 1) := by decide +kernel
theorem dX6_more_54 : decode cX6_more 54 = .ok (.invokevirtual 95, 3) := by decide +kernel
theorem dX6_more_57 : decode cX6_more 57 = .ok (.iconst 0, 1) := by decide +kernel
theorem dX6_more_58 : decode cX6_more 58 = .ok (.istore 5, 2) := by decide +kernel
theorem dX6_more_60 : decode cX6_more 60 = .ok (.iload 5, 2) := by decide +kernel
theorem dX6_more_62 : decode cX6_more 62 = .ok (.iload 4, 2) := by decide +kernel
theorem dX6_more_64 : decode cX6_more 64 = .ok (.if_icmp .ge 33, 3) := by decide +kernel
theorem dX6_more_67 : decode cX6_more 67 = .ok (.aload_n 0, 1) := by decide +kernel
theorem dX6_more_68 : decode cX6_more 68 = .ok (.getfield 33, 3) := by decide +kernel
theorem dX6_more_71 : decode cX6_more 71 = .ok (.iload_n 3, 1) := by decide +kernel
theorem dX6_more_72 : decode cX6_more 72 = .ok (.iload_n 2, 1) := by decide +kernel
theorem dX6_more_73 : decode cX6_more 73 = .ok (.invokevirtual 99, 3) := by decide +kernel
theorem dX6_more_76 : decode cX6_more 76 = .ok (.aload_n 0, 1) := by decide +kernel
theorem dX6_more_77 : decode cX6_more 77 = .ok (.getfield 33, 3) := by decide +kernel
theorem dX6_more_80 : decode cX6_more 80 = .ok (.iconst 1, 1) := by decide +kernel
theorem dX6_more_81 : decode cX6_more 81 = .ok (.invokevirtual 235, 3) := by decide +kernel
theorem dX6_more_84 : decode cX6_more 84 = .ok (.iconst (-1), 1) := by decide +kernel
theorem dX6_more_85 : decode cX6_more 85 = .ok (.if_icmp .ne 6, 3) := by decide +kernel
theorem dX6_more_88 : decode cX6_more 88 = .ok (.iload 5, 2) := by decide +kernel
theorem dX6_more_90 : decode cX6_more 90 = .ok (.ireturn, 1) := by decide +kernel
theorem dX6_more_91 : decode cX6_more 91 = .ok (.iinc 5 1, 3) := by decide +kernel
theorem dX6_more_94 : decode cX6_more 94 = .ok (.goto (-34), 3) := by decide +kernel
theorem dX6_more_97 : decode cX6_more 97 = .ok (.iload 4, 2) := by decide +kernel
theorem dX6_more_99 : decode cX6_more 99 = .ok (.ireturn, 1) := by decide +kernel
theorem dX6_plan_0 : decode cX6_plan 0 = .ok (.aload_n 0, 1) := by decide +kernel
theorem dX6_plan_1 : decode cX6_plan 1 = .ok (.iload_n 1, 1) := by decide +kernel
theorem dX6_plan_2 : decode cX6_plan 2 = .ok (.invokevirtual 222, 3) := by decide +kernel
theorem dX6_plan_5 : decode cX6_plan 5 = .ok (.ifCond .ne 5, 3) := by decide +kernel
theorem dX6_plan_8 : decode cX6_plan 8 = .ok (.iconst (-1), 1) := by decide +kernel
theorem dX6_plan_9 : decode cX6_plan 9 = .ok (.ireturn, 1) := by decide +kernel
theorem dX6_plan_10 : decode cX6_plan 10 = .ok (.aload_n 0, 1) := by decide +kernel
theorem dX6_plan_11 : decode cX6_plan 11 = .ok (.getfield 40, 3) := by decide +kernel
theorem dX6_plan_14 : decode cX6_plan 14 = .ok (.aload_n 0, 1) := by decide +kernel
theorem dX6_plan_15 : decode cX6_plan 15 = .ok (.getfield 26, 3) := by decide +kernel
theorem dX6_plan_18 : decode cX6_plan 18 = .ok (.aload_n 0, 1) := by decide +kernel
theorem dX6_plan_19 : decode cX6_plan 19 = .ok (.getfield 33, 3) := by decide +kernel
theorem dX6_plan_22 : decode cX6_plan 22 = .ok (.getfield 106, 3) := by decide +kernel
theorem dX6_plan_25 : decode cX6_plan 25 = .ok (.iload_n 1, 1) := by decide +kernel
theorem dX6_plan_26 : decode cX6_plan 26 = .ok (.invokevirtual 238, 3) := by decide +kernel
theorem dX6_plan_29 : decode cX6_plan 29 = .ok (.aload_n 0, 1) := by decide +kernel
theorem dX6_plan_30 : decode cX6_plan 30 = .ok (.getfield 40, 3) := by decide +kernel
theorem dX6_plan_33 : decode cX6_plan 33 = .ok (.getfield 145, 3) := by decide +kernel
theorem dX6_plan_36 : decode cX6_plan 36 = .ok (.ireturn, 1) := by decide +kernel
theorem dX6_drop_0 : decode cX6_drop 0 = .ok (.aload_n 0, 1) := by decide +kernel
theorem dX6_drop_1 : decode cX6_drop 1 = .ok (.getfield 40, 3) := by decide +kernel
theorem dX6_drop_4 : decode cX6_drop 4 = .ok (.invokevirtual 151, 3) := by decide +kernel
theorem dX6_drop_7 : decode cX6_drop 7 = .ok (.ifCond .ne 5, 3) := by decide +kernel
theorem dX6_drop_10 : decode cX6_drop 10 = .ok (.iconst (-1), 1) := by decide +kernel
theorem dX6_drop_11 : decode cX6_drop 11 = .ok (.ireturn, 1) := by decide +kernel
theorem dX6_drop_12 : decode cX6_drop 12 = .ok (.aload_n 0, 1) := by decide +kernel
theorem dX6_drop_13 : decode cX6_drop 13 = .ok (.getfield 40, 3) := by decide +kernel
theorem dX6_drop_16 : decode cX6_drop 16 = .ok (.getfield 145, 3) := by decide +kernel
theorem dX6_drop_19 : decode cX6_drop 19 = .ok (.aload_n 0, 1) := by decide +kernel
theorem dX6_drop_20 : decode cX6_drop 20 = .ok (.getfield 40, 3) := by decide +kernel
theorem dX6_drop_23 : decode cX6_drop 23 = .ok (.getfield 148, 3) := by decide +kernel
theorem dX6_drop_26 : decode cX6_drop 26 = .ok (.isub, 1) := by decide +kernel
theorem dX6_drop_27 : decode cX6_drop 27 = .ok (.istore_n 1, 1) := by decide +kernel
theorem dX6_drop_28 : decode cX6_drop 28 = .ok (.aload_n 0, 1) := by decide +kernel
theorem dX6_drop_29 : decode cX6_drop 29 = .ok (.getfield 40, 3) := by decide +kernel
theorem dX6_drop_32 : decode cX6_drop 32 = .ok (.invokevirtual 62, 3) := by decide +kernel
theorem dX6_drop_35 : decode cX6_drop 35 = .ok (.iload_n 1, 1) := by decide +kernel
theorem dX6_drop_36 : decode cX6_drop 36 = .ok (.ireturn, 1) := by decide +kernel
theorem dX6_move_0 : decode cX6_move 0 = .ok (.aload_n 0, 1) := by decide +kernel
theorem dX6_move_1 : decode cX6_move 1 = .ok (.getfield 40, 3) := by decide +kernel
theorem dX6_move_4 : decode cX6_move 4 = .ok (.invokevirtual 151, 3) := by decide +kernel
theorem dX6_move_7 : decode cX6_move 7 = .ok (.ifCond .eq 10, 3) := by decide +kernel
theorem dX6_move_10 : decode cX6_move 10 = .ok (.aload_n 0, 1) := by decide +kernel
theorem dX6_move_11 : decode cX6_move 11 = .ok (.invokevirtual 242, 3) := by decide +kernel
theorem dX6_move_14 : decode cX6_move 14 = .ok (.goto 4, 3) := by decide +kernel
theorem dX6_move_17 : decode cX6_move 17 = .ok (.iconst (-1), 1) := by decide +kernel
theorem dX6_move_18 : decode cX6_move 18 = .ok (.ireturn, 1) := by decide +kernel
theorem dX6_day_0 : decode cX6_day 0 = .ok (.aload_n 0, 1) := by decide +kernel
theorem dX6_day_1 : decode cX6_day 1 = .ok (.getfield 40, 3) := by decide +kernel
theorem dX6_day_4 : decode cX6_day 4 = .ok (.invokevirtual 151, 3) := by decide +kernel
theorem dX6_day_7 : decode cX6_day 7 = .ok (.ifCond .ne 5, 3) := by decide +kernel
theorem dX6_day_10 : decode cX6_day 10 = .ok (.iconst (-1), 1) := by decide +kernel
theorem dX6_day_11 : decode cX6_day 11 = .ok (.ireturn, 1) := by decide +kernel
theorem dX6_day_12 : decode cX6_day 12 = .ok (.aload_n 0, 1) := by decide +kernel
theorem dX6_day_13 : decode cX6_day 13 = .ok (.getfield 40, 3) := by decide +kernel
theorem dX6_day_16 : decode cX6_day 16 = .ok (.aload_n 0, 1) := by decide +kernel
theorem dX6_day_17 : decode cX6_day 17 = .ok (.getfield 51, 3) := by decide +kernel
theorem dX6_day_20 : decode cX6_day 20 = .ok (.invokevirtual 245, 3) := by decide +kernel
theorem dX6_day_23 : decode cX6_day 23 = .ok (.istore_n 1, 1) := by decide +kernel
theorem dX6_day_24 : decode cX6_day 24 = .ok (.iconst 0, 1) := by decide +kernel
theorem dX6_day_25 : decode cX6_day 25 = .ok (.istore_n 2, 1) := by decide +kernel
theorem dX6_day_26 : decode cX6_day 26 = .ok (.iload_n 2, 1) := by decide +kernel
theorem dX6_day_27 : decode cX6_day 27 = .ok (.iload_n 1, 1) := by decide +kernel
theorem dX6_day_28 : decode cX6_day 28 = .ok (.if_icmp .ge 14, 3) := by decide +kernel
theorem dX6_day_31 : decode cX6_day 31 = .ok (.aload_n 0, 1) := by decide +kernel
theorem dX6_day_32 : decode cX6_day 32 = .ok (.invokevirtual 242, 3) := by decide +kernel
theorem dX6_day_35 : decode cX6_day 35 = .ok (.pop, 1) := by decide +kernel
theorem dX6_day_36 : decode cX6_day 36 = .ok (.iinc 2 1, 3) := by decide +kernel
theorem dX6_day_39 : decode cX6_day 39 = .ok (.goto (-13), 3) := by decide +kernel
theorem dX6_day_42 : decode cX6_day 42 = .ok (.iload_n 1, 1) := by decide +kernel
theorem dX6_day_43 : decode cX6_day 43 = .ok (.ireturn, 1) := by decide +kernel
theorem dX6_planned_0 : decode cX6_planned 0 = .ok (.iload_n 1, 1) := by decide +kernel
theorem dX6_planned_1 : decode cX6_planned 1 = .ok (.ifCond .lt 14, 3) := by decide +kernel
theorem dX6_planned_4 : decode cX6_planned 4 = .ok (.iload_n 1, 1) := by decide +kernel
theorem dX6_planned_5 : decode cX6_planned 5 = .ok (.aload_n 0, 1) := by decide +kernel
theorem dX6_planned_6 : decode cX6_planned 6 = .ok (.getfield 40, 3) := by decide +kernel
theorem dX6_planned_9 : decode cX6_planned 9 = .ok (.getfield 145, 3) := by decide +kernel
theorem dX6_planned_12 : decode cX6_planned 12 = .ok (.if_icmp .lt 5, 3) := by decide +kernel
theorem dX6_planned_15 : decode cX6_planned 15 = .ok (.iconst (-1), 1) := by decide +kernel
theorem dX6_planned_16 : decode cX6_planned 16 = .ok (.ireturn, 1) := by decide +kernel
theorem dX6_planned_17 : decode cX6_planned 17 = .ok (.iload_n 2, 1) := by decide +kernel
theorem dX6_planned_18 : decode cX6_planned 18 = .ok (.tableswitch 122 0 6 #[42, 52, 62, 72, 81, 99, 113], 42) := by decide +kernel
theorem dX6_planned_60 : decode cX6_planned 60 = .ok (.aload_n 0, 1) := by decide +kernel
theorem dX6_planned_61 : decode cX6_planned 61 = .ok (.getfield 40, 3) := by decide +kernel
theorem dX6_planned_64 : decode cX6_planned 64 = .ok (.getfield 248, 3) := by decide +kernel
theorem dX6_planned_67 : decode cX6_planned 67 = .ok (.iload_n 1, 1) := by decide +kernel
theorem dX6_planned_68 : decode cX6_planned 68 = .ok (.iaload, 1) := by decide +kernel
theorem dX6_planned_69 : decode cX6_planned 69 = .ok (.ireturn, 1) := by decide +kernel
theorem dX6_planned_70 : decode cX6_planned 70 = .ok (.aload_n 0, 1) := by decide +kernel
theorem dX6_planned_71 : decode cX6_planned 71 = .ok (.getfield 40, 3) := by decide +kernel
theorem dX6_planned_74 : decode cX6_planned 74 = .ok (.getfield 251, 3) := by decide +kernel
theorem dX6_planned_77 : decode cX6_planned 77 = .ok (.iload_n 1, 1) := by decide +kernel
theorem dX6_planned_78 : decode cX6_planned 78 = .ok (.iaload, 1) := by decide +kernel
theorem dX6_planned_79 : decode cX6_planned 79 = .ok (.ireturn, 1) := by decide +kernel
theorem dX6_planned_80 : decode cX6_planned 80 = .ok (.aload_n 0, 1) := by decide +kernel
theorem dX6_planned_81 : decode cX6_planned 81 = .ok (.getfield 40, 3) := by decide +kernel
theorem dX6_planned_84 : decode cX6_planned 84 = .ok (.getfield 254, 3) := by decide +kernel
theorem dX6_planned_87 : decode cX6_planned 87 = .ok (.iload_n 1, 1) := by decide +kernel
theorem dX6_planned_88 : decode cX6_planned 88 = .ok (.iaload, 1) := by decide +kernel
theorem dX6_planned_89 : decode cX6_planned 89 = .ok (.ireturn, 1) := by decide +kernel
theorem dX6_planned_90 : decode cX6_planned 90 = .ok (.aload_n 0, 1) := by decide +kernel
theorem dX6_planned_91 : decode cX6_planned 91 = .ok (.getfield 40, 3) := by decide +kernel
theorem dX6_planned_94 : decode cX6_planned 94 = .ok (.iload_n 1, 1) := by decide +kernel
theorem dX6_planned_95 : decode cX6_planned 95 = .ok (.invokevirtual 257, 3) := by decide +kernel
theorem dX6_planned_98 : decode cX6_planned 98 = .ok (.ireturn, 1) := by decide +kernel
theorem dX6_planned_99 : decode cX6_planned 99 = .ok (.aload_n 0, 1) := by decide +kernel
theorem dX6_planned_100 : decode cX6_planned 100 = .ok (.getfield 40, 3) := by decide +kernel
theorem dX6_planned_103 : decode cX6_planned 103 = .ok (.iconst 0, 1) := by decide +kernel
theorem dX6_planned_104 : decode cX6_planned 104 = .ok (.iload_n 1, 1) := by decide +kernel
theorem dX6_planned_105 : decode cX6_planned 105 = .ok (.iconst 1, 1) := by decide +kernel
theorem dX6_planned_106 : decode cX6_planned 106 = .ok (.iadd, 1) := by decide +kernel
theorem dX6_planned_107 : decode cX6_planned 107 = .ok (.aload_n 0, 1) := by decide +kernel
theorem dX6_planned_108 : decode cX6_planned 108 = .ok (.getfield 51, 3) := by decide +kernel
theorem dX6_planned_111 : decode cX6_planned 111 = .ok (.invokevirtual 260, 3) := by decide +kernel
theorem dX6_planned_114 : decode cX6_planned 114 = .ok (.iconst 1, 1) := by decide +kernel
theorem dX6_planned_115 : decode cX6_planned 115 = .ok (.isub, 1) := by decide +kernel
theorem dX6_planned_116 : decode cX6_planned 116 = .ok (.ireturn, 1) := by decide +kernel
theorem dX6_planned_117 : decode cX6_planned 117 = .ok (.aload_n 0, 1) := by decide +kernel
theorem dX6_planned_118 : decode cX6_planned 118 = .ok (.getfield 40, 3) := by decide +kernel
theorem dX6_planned_121 : decode cX6_planned 121 = .ok (.iconst 0, 1) := by decide +kernel
theorem dX6_planned_122 : decode cX6_planned 122 = .ok (.iload_n 1, 1) := by decide +kernel
theorem dX6_planned_123 : decode cX6_planned 123 = .ok (.iconst 1, 1) := by decide +kernel
theorem dX6_planned_124 : decode cX6_planned 124 = .ok (.iadd, 1) := by decide +kernel
theorem dX6_planned_125 : decode cX6_planned 125 = .ok (.invokevirtual 264, 3) := by decide +kernel
theorem dX6_planned_128 : decode cX6_planned 128 = .ok (.iconst 1, 1) := by decide +kernel
theorem dX6_planned_129 : decode cX6_planned 129 = .ok (.isub, 1) := by decide +kernel
theorem dX6_planned_130 : decode cX6_planned 130 = .ok (.ireturn, 1) := by decide +kernel
theorem dX6_planned_131 : decode cX6_planned 131 = .ok (.aload_n 0, 1) := by decide +kernel
theorem dX6_planned_132 : decode cX6_planned 132 = .ok (.getfield 40, 3) := by decide +kernel
theorem dX6_planned_135 : decode cX6_planned 135 = .ok (.iload_n 1, 1) := by decide +kernel
theorem dX6_planned_136 : decode cX6_planned 136 = .ok (.invokevirtual 267, 3) := by decide +kernel
theorem dX6_planned_139 : decode cX6_planned 139 = .ok (.ireturn, 1) := by decide +kernel
theorem dX6_planned_140 : decode cX6_planned 140 = .ok (.iconst (-1), 1) := by decide +kernel
theorem dX6_planned_141 : decode cX6_planned 141 = .ok (.ireturn, 1) := by decide +kernel
theorem dX6_left_0 : decode cX6_left 0 = .ok (.aload_n 0, 1) := by decide +kernel
theorem dX6_left_1 : decode cX6_left 1 = .ok (.getfield 40, 3) := by decide +kernel
theorem dX6_left_4 : decode cX6_left 4 = .ok (.invokevirtual 151, 3) := by decide +kernel
theorem dX6_left_7 : decode cX6_left 7 = .ok (.ifCond .ne 5, 3) := by decide +kernel
theorem dX6_left_10 : decode cX6_left 10 = .ok (.iconst (-1), 1) := by decide +kernel
theorem dX6_left_11 : decode cX6_left 11 = .ok (.ireturn, 1) := by decide +kernel
theorem dX6_left_12 : decode cX6_left 12 = .ok (.iload_n 1, 1) := by decide +kernel
theorem dX6_left_13 : decode cX6_left 13 = .ok (.tableswitch 115 0 4 #[35, 51, 59, 85, 107], 35) := by decide +kernel
theorem dX6_left_48 : decode cX6_left 48 = .ok (.aload_n 0, 1) := by decide +kernel
theorem dX6_left_49 : decode cX6_left 49 = .ok (.getfield 40, 3) := by decide +kernel
theorem dX6_left_52 : decode cX6_left 52 = .ok (.getfield 145, 3) := by decide +kernel
theorem dX6_left_55 : decode cX6_left 55 = .ok (.aload_n 0, 1) := by decide +kernel
theorem dX6_left_56 : decode cX6_left 56 = .ok (.getfield 40, 3) := by decide +kernel
theorem dX6_left_59 : decode cX6_left 59 = .ok (.getfield 148, 3) := by decide +kernel
theorem dX6_left_62 : decode cX6_left 62 = .ok (.isub, 1) := by decide +kernel
theorem dX6_left_63 : decode cX6_left 63 = .ok (.ireturn, 1) := by decide +kernel
theorem dX6_left_64 : decode cX6_left 64 = .ok (.aload_n 0, 1) := by decide +kernel
theorem dX6_left_65 : decode cX6_left 65 = .ok (.getfield 40, 3) := by decide +kernel
theorem dX6_left_68 : decode cX6_left 68 = .ok (.invokevirtual 270, 3) := by decide +kernel
theorem dX6_left_71 : decode cX6_left 71 = .ok (.ireturn, 1) := by decide +kernel
theorem dX6_left_72 : decode cX6_left 72 = .ok (.aload_n 0, 1) := by decide +kernel
theorem dX6_left_73 : decode cX6_left 73 = .ok (.getfield 40, 3) := by decide +kernel
theorem dX6_left_76 : decode cX6_left 76 = .ok (.aload_n 0, 1) := by decide +kernel
theorem dX6_left_77 : decode cX6_left 77 = .ok (.getfield 40, 3) := by decide +kernel
theorem dX6_left_80 : decode cX6_left 80 = .ok (.getfield 148, 3) := by decide +kernel
theorem dX6_left_83 : decode cX6_left 83 = .ok (.aload_n 0, 1) := by decide +kernel
theorem dX6_left_84 : decode cX6_left 84 = .ok (.getfield 40, 3) := by decide +kernel
theorem dX6_left_87 : decode cX6_left 87 = .ok (.getfield 145, 3) := by decide +kernel
theorem dX6_left_90 : decode cX6_left 90 = .ok (.aload_n 0, 1) := by decide +kernel
theorem dX6_left_91 : decode cX6_left 91 = .ok (.getfield 51, 3) := by decide +kernel
theorem dX6_left_94 : decode cX6_left 94 = .ok (.invokevirtual 260, 3) := by decide +kernel
theorem dX6_left_97 : decode cX6_left 97 = .ok (.ireturn, 1) := by decide +kernel
theorem dX6_left_98 : decode cX6_left 98 = .ok (.aload_n 0, 1) := by decide +kernel
theorem dX6_left_99 : decode cX6_left 99 = .ok (.getfield 40, 3) := by decide +kernel
theorem dX6_left_102 : decode cX6_left 102 = .ok (.aload_n 0, 1) := by decide +kernel
theorem dX6_left_103 : decode cX6_left 103 = .ok (.getfield 40, 3) := by decide +kernel
theorem dX6_left_106 : decode cX6_left 106 = .ok (.getfield 148, 3) := by decide +kernel
theorem dX6_left_109 : decode cX6_left 109 = .ok (.aload_n 0, 1) := by decide +kernel
theorem dX6_left_110 : decode cX6_left 110 = .ok (.getfield 40, 3) := by decide +kernel
theorem dX6_left_113 : decode cX6_left 113 = .ok (.getfield 145, 3) := by decide +kernel
theorem dX6_left_116 : decode cX6_left 116 = .ok (.invokevirtual 264, 3) := by decide +kernel
theorem dX6_left_119 : decode cX6_left 119 = .ok (.ireturn, 1) := by decide +kernel
theorem dX6_left_120 : decode cX6_left 120 = .ok (.aload_n 0, 1) := by decide +kernel
theorem dX6_left_121 : decode cX6_left 121 = .ok (.getfield 40, 3) := by decide +kernel
theorem dX6_left_124 : decode cX6_left 124 = .ok (.invokevirtual 273, 3) := by decide +kernel
theorem dX6_left_127 : decode cX6_left 127 = .ok (.ireturn, 1) := by decide +kernel
theorem dX6_left_128 : decode cX6_left 128 = .ok (.iconst (-1), 1) := by decide +kernel
theorem dX6_left_129 : decode cX6_left 129 = .ok (.ireturn, 1) := by decide +kernel
theorem dX6_enough_0 : decode cX6_enough 0 = .ok (.aload_n 0, 1) := by decide +kernel
theorem dX6_enough_1 : decode cX6_enough 1 = .ok (.getfield 40, 3) := by decide +kernel
theorem dX6_enough_4 : decode cX6_enough 4 = .ok (.invokevirtual 151, 3) := by decide +kernel
theorem dX6_enough_7 : decode cX6_enough 7 = .ok (.ifCond .eq 31, 3) := by decide +kernel
theorem dX6_enough_10 : decode cX6_enough 10 = .ok (.aload_n 0, 1) := by decide +kernel
theorem dX6_enough_11 : decode cX6_enough 11 = .ok (.getfield 40, 3) := by decide +kernel
theorem dX6_enough_14 : decode cX6_enough 14 = .ok (.aload_n 0, 1) := by decide +kernel
theorem dX6_enough_15 : decode cX6_enough 15 = .ok (.getfield 40, 3) := by decide +kernel
theorem dX6_enough_18 : decode cX6_enough 18 = .ok (.getfield 148, 3) := by decide +kernel
theorem dX6_enough_21 : decode cX6_enough 21 = .ok (.aload_n 0, 1) := by decide +kernel
theorem dX6_enough_22 : decode cX6_enough 22 = .ok (.getfield 40, 3) := by decide +kernel
theorem dX6_enough_25 : decode cX6_enough 25 = .ok (.getfield 145, 3) := by decide +kernel
theorem dX6_enough_28 : decode cX6_enough 28 = .ok (.sipush 400, 3) := by decide +kernel
theorem dX6_enough_31 : decode cX6_enough 31 = .ok (.invokevirtual 260, 3) := by decide +kernel
theorem dX6_enough_34 : decode cX6_enough 34 = .ok (.iload_n 1, 1) := by decide +kernel
theorem dX6_enough_35 : decode cX6_enough 35 = .ok (.if_icmp .le 5, 3) := by decide +kernel
theorem dX6_enough_38 : decode cX6_enough 38 = .ok (.iconst (-1), 1) := by decide +kernel
theorem dX6_enough_39 : decode cX6_enough 39 = .ok (.ireturn, 1) := by decide +kernel
theorem dX6_enough_40 : decode cX6_enough 40 = .ok (.bipush 39, 2) := by decide +kernel
theorem dX6_enough_42 : decode cX6_enough 42 = .ok (.istore_n 2, 1) := by decide +kernel
theorem dX6_enough_43 : decode cX6_enough 43 = .ok (.sipush 256, 3) := by decide +kernel
theorem dX6_enough_46 : decode cX6_enough 46 = .ok (.istore_n 3, 1) := by decide +kernel
theorem dX6_enough_47 : decode cX6_enough 47 = .ok (.iload_n 3, 1) := by decide +kernel
theorem dX6_enough_48 : decode cX6_enough 48 = .ok (.ifCond .le 53, 3) := by decide +kernel
theorem dX6_enough_51 : decode cX6_enough 51 = .ok (.iload_n 2, 1) := by decide +kernel
theorem dX6_enough_52 : decode cX6_enough 52 = .ok (.iload_n 3, 1) := by decide +kernel
theorem dX6_enough_53 : decode cX6_enough 53 = .ok (.iadd, 1) := by decide +kernel
theorem dX6_enough_54 : decode cX6_enough 54 = .ok (.istore 4, 2) := by decide +kernel
theorem dX6_enough_56 : decode cX6_enough 56 = .ok (.iload 4, 2) := by decide +kernel
theorem dX6_enough_58 : decode cX6_enough 58 = .ok (.sipush 400, 3) := by decide +kernel
theorem dX6_enough_61 : decode cX6_enough 61 = .ok (.if_icmp .ge 33, 3) := by decide +kernel
theorem dX6_enough_64 : decode cX6_enough 64 = .ok (.aload_n 0, 1) := by decide +kernel
theorem dX6_enough_65 : decode cX6_enough 65 = .ok (.getfield 40, 3) := by decide +kernel
theorem dX6_enough_68 : decode cX6_enough 68 = .ok (.aload_n 0, 1) := by decide +kernel
theorem dX6_enough_69 : decode cX6_enough 69 = .ok (.getfield 40, 3) := by decide +kernel
theorem dX6_enough_72 : decode cX6_enough 72 = .ok (.getfield 148, 3) := by decide +kernel
theorem dX6_enough_75 : decode cX6_enough 75 = .ok (.aload_n 0, 1) := by decide +kernel
theorem dX6_enough_76 : decode cX6_enough 76 = .ok (.getfield 40, 3) := by decide +kernel
theorem dX6_enough_79 : decode cX6_enough 79 = .ok (.getfield 145, 3) := by decide +kernel
theorem dX6_enough_82 : decode cX6_enough 82 = .ok (.iload 4, 2) := by decide +kernel
theorem dX6_enough_84 : decode cX6_enough 84 = .ok (.invokevirtual 260, 3) := by decide +kernel
theorem dX6_enough_87 : decode cX6_enough 87 = .ok (.iload_n 1, 1) := by decide +kernel
theorem dX6_enough_88 : decode cX6_enough 88 = .ok (.if_icmp .le 6, 3) := by decide +kernel
theorem dX6_enough_91 : decode cX6_enough 91 = .ok (.iload 4, 2) := by decide +kernel
theorem dX6_enough_93 : decode cX6_enough 93 = .ok (.istore_n 2, 1) := by decide +kernel
theorem dX6_enough_94 : decode cX6_enough 94 = .ok (.iload_n 3, 1) := by decide +kernel
theorem dX6_enough_95 : decode cX6_enough 95 = .ok (.iconst 2, 1) := by decide +kernel
theorem dX6_enough_96 : decode cX6_enough 96 = .ok (.idiv, 1) := by decide +kernel
theorem dX6_enough_97 : decode cX6_enough 97 = .ok (.istore_n 3, 1) := by decide +kernel
theorem dX6_enough_98 : decode cX6_enough 98 = .ok (.goto (-51), 3) := by decide +kernel
theorem dX6_enough_101 : decode cX6_enough 101 = .ok (.iload_n 2, 1) := by decide +kernel
theorem dX6_enough_102 : decode cX6_enough 102 = .ok (.iconst 1, 1) := by decide +kernel
theorem dX6_enough_103 : decode cX6_enough 103 = .ok (.iadd, 1) := by decide +kernel
theorem dX6_enough_104 : decode cX6_enough 104 = .ok (.ireturn, 1) := by decide +kernel
theorem dX6_log_0 : decode cX6_log 0 = .ok (.aload_n 0, 1) := by decide +kernel
theorem dX6_log_1 : decode cX6_log 1 = .ok (.getfield 47, 3) := by decide +kernel
theorem dX6_log_4 : decode cX6_log 4 = .ok (.iload_n 1, 1) := by decide +kernel
theorem dX6_log_5 : decode cX6_log 5 = .ok (.iload_n 2, 1) := by decide +kernel
theorem dX6_log_6 : decode cX6_log 6 = .ok (.invokevirtual 276, 3) := by decide +kernel
theorem dX6_log_9 : decode cX6_log 9 = .ok (.ireturn, 1) := by decide +kernel
theorem dX6_isWithin_0 : decode cX6_isWithin 0 = .ok (.iload_n 0, 1) := by decide +kernel
theorem dX6_isWithin_1 : decode cX6_isWithin 1 = .ok (.iload_n 1, 1) := by decide +kernel
theorem dX6_isWithin_2 : decode cX6_isWithin 2 = .ok (.if_icmp .lt 12, 3) := by decide +kernel
theorem dX6_isWithin_5 : decode cX6_isWithin 5 = .ok (.iload_n 0, 1) := by decide +kernel
theorem dX6_isWithin_6 : decode cX6_isWithin 6 = .ok (.iload_n 2, 1) := by decide +kernel
theorem dX6_isWithin_7 : decode cX6_isWithin 7 = .ok (.if_icmp .gt 7, 3) := by decide +kernel
theorem dX6_isWithin_10 : decode cX6_isWithin 10 = .ok (.iconst 1, 1) := by decide +kernel
theorem dX6_isWithin_11 : decode cX6_isWithin 11 = .ok (.goto 4, 3) := by decide +kernel
theorem dX6_isWithin_14 : decode cX6_isWithin 14 = .ok (.iconst 0, 1) := by decide +kernel
theorem dX6_isWithin_15 : decode cX6_isWithin 15 = .ok (.ireturn, 1) := by decide +kernel
theorem dX6_hasShelf_0 : decode cX6_hasShelf 0 = .ok (.iload_n 1, 1) := by decide +kernel
theorem dX6_hasShelf_1 : decode cX6_hasShelf 1 = .ok (.ifCond .lt 18, 3) := by decide +kernel
theorem dX6_hasShelf_4 : decode cX6_hasShelf 4 = .ok (.iload_n 1, 1) := by decide +kernel
theorem dX6_hasShelf_5 : decode cX6_hasShelf 5 = .ok (.aload_n 0, 1) := by decide +kernel
theorem dX6_hasShelf_6 : decode cX6_hasShelf 6 = .ok (.getfield 10, 3) := by decide +kernel
theorem dX6_hasShelf_9 : decode cX6_hasShelf 9 = .ok (.getfield 59, 3) := by decide +kernel
theorem dX6_hasShelf_12 : decode cX6_hasShelf 12 = .ok (.if_icmp .ge 7, 3) := by decide +kernel
theorem dX6_hasShelf_15 : decode cX6_hasShelf 15 = .ok (.iconst 1, 1) := by decide +kernel
theorem dX6_hasShelf_16 : decode cX6_hasShelf 16 = .ok (.goto 4, 3) := by decide +kernel
theorem dX6_hasShelf_19 : decode cX6_hasShelf 19 = .ok (.iconst 0, 1) := by decide +kernel
theorem dX6_hasShelf_20 : decode cX6_hasShelf 20 = .ok (.ireturn, 1) := by decide +kernel
theorem dX6_hasGroup_0 : decode cX6_hasGroup 0 = .ok (.iload_n 1, 1) := by decide +kernel
theorem dX6_hasGroup_1 : decode cX6_hasGroup 1 = .ok (.ifCond .lt 18, 3) := by decide +kernel
theorem dX6_hasGroup_4 : decode cX6_hasGroup 4 = .ok (.iload_n 1, 1) := by decide +kernel
theorem dX6_hasGroup_5 : decode cX6_hasGroup 5 = .ok (.aload_n 0, 1) := by decide +kernel
theorem dX6_hasGroup_6 : decode cX6_hasGroup 6 = .ok (.getfield 19, 3) := by decide +kernel
theorem dX6_hasGroup_9 : decode cX6_hasGroup 9 = .ok (.getfield 77, 3) := by decide +kernel
theorem dX6_hasGroup_12 : decode cX6_hasGroup 12 = .ok (.if_icmp .ge 7, 3) := by decide +kernel
theorem dX6_hasGroup_15 : decode cX6_hasGroup 15 = .ok (.iconst 1, 1) := by decide +kernel
theorem dX6_hasGroup_16 : decode cX6_hasGroup 16 = .ok (.goto 4, 3) := by decide +kernel
theorem dX6_hasGroup_19 : decode cX6_hasGroup 19 = .ok (.iconst 0, 1) := by decide +kernel
theorem dX6_hasGroup_20 : decode cX6_hasGroup 20 = .ok (.ireturn, 1) := by decide +kernel
theorem dX6_hasBook_0 : decode cX6_hasBook 0 = .ok (.iload_n 1, 1) := by decide +kernel
theorem dX6_hasBook_1 : decode cX6_hasBook 1 = .ok (.ifCond .lt 18, 3) := by decide +kernel
theorem dX6_hasBook_4 : decode cX6_hasBook 4 = .ok (.iload_n 1, 1) := by decide +kernel
theorem dX6_hasBook_5 : decode cX6_hasBook 5 = .ok (.aload_n 0, 1) := by decide +kernel
theorem dX6_hasBook_6 : decode cX6_hasBook 6 = .ok (.getfield 26, 3) := by decide +kernel
theorem dX6_hasBook_9 : decode cX6_hasBook 9 = .ok (.getfield 91, 3) := by decide +kernel
theorem dX6_hasBook_12 : decode cX6_hasBook 12 = .ok (.if_icmp .ge 7, 3) := by decide +kernel
theorem dX6_hasBook_15 : decode cX6_hasBook 15 = .ok (.iconst 1, 1) := by decide +kernel
theorem dX6_hasBook_16 : decode cX6_hasBook 16 = .ok (.goto 4, 3) := by decide +kernel
theorem dX6_hasBook_19 : decode cX6_hasBook 19 = .ok (.iconst 0, 1) := by decide +kernel
theorem dX6_hasBook_20 : decode cX6_hasBook 20 = .ok (.ireturn, 1) := by decide +kernel
theorem dX6_roomOn_0 : decode cX6_roomOn 0 = .ok (.aload_n 0, 1) := by decide +kernel
theorem dX6_roomOn_1 : decode cX6_roomOn 1 = .ok (.getfield 10, 3) := by decide +kernel
theorem dX6_roomOn_4 : decode cX6_roomOn 4 = .ok (.getfield 168, 3) := by decide +kernel
theorem dX6_roomOn_7 : decode cX6_roomOn 7 = .ok (.iload_n 1, 1) := by decide +kernel
theorem dX6_roomOn_8 : decode cX6_roomOn 8 = .ok (.iaload, 1) := by decide +kernel
theorem dX6_roomOn_9 : decode cX6_roomOn 9 = .ok (.aload_n 0, 1) := by decide +kernel
theorem dX6_roomOn_10 : decode cX6_roomOn 10 = .ok (.getfield 26, 3) := by decide +kernel
theorem dX6_roomOn_13 : decode cX6_roomOn 13 = .ok (.iload_n 1, 1) := by decide +kernel
theorem dX6_roomOn_14 : decode cX6_roomOn 14 = .ok (.invokevirtual 171, 3) := by decide +kernel
theorem dX6_roomOn_17 : decode cX6_roomOn 17 = .ok (.isub, 1) := by decide +kernel
theorem dX6_roomOn_18 : decode cX6_roomOn 18 = .ok (.ireturn, 1) := by decide +kernel
theorem dX6_yearsOn_0 : decode cX6_yearsOn 0 = .ok (.aload_n 0, 1) := by decide +kernel
theorem dX6_yearsOn_1 : decode cX6_yearsOn 1 = .ok (.getfield 26, 3) := by decide +kernel
theorem dX6_yearsOn_4 : decode cX6_yearsOn 4 = .ok (.iload_n 1, 1) := by decide +kernel
theorem dX6_yearsOn_5 : decode cX6_yearsOn 5 = .ok (.invokevirtual 177, 3) := by decide +kernel
theorem dX6_yearsOn_8 : decode cX6_yearsOn 8 = .ok (.istore_n 2, 1) := by decide +kernel
theorem dX6_yearsOn_9 : decode cX6_yearsOn 9 = .ok (.iload_n 2, 1) := by decide +kernel
theorem dX6_yearsOn_10 : decode cX6_yearsOn 10 = .ok (.ifCond .le 19, 3) := by decide +kernel
theorem dX6_yearsOn_13 : decode cX6_yearsOn 13 = .ok (.sipush 999, 3) := by decide +kernel
theorem dX6_yearsOn_16 : decode cX6_yearsOn 16 = .ok (.aload_n 0, 1) := by decide +kernel
theorem dX6_yearsOn_17 : decode cX6_yearsOn 17 = .ok (.iload_n 1, 1) := by decide +kernel
theorem dX6_yearsOn_18 : decode cX6_yearsOn 18 = .ok (.invokevirtual 174, 3) := by decide +kernel
theorem dX6_yearsOn_21 : decode cX6_yearsOn 21 = .ok (.iload_n 2, 1) := by decide +kernel
theorem dX6_yearsOn_22 : decode cX6_yearsOn 22 = .ok (.idiv, 1) := by decide +kernel
theorem dX6_yearsOn_23 : decode cX6_yearsOn 23 = .ok (.invokestatic 217, 3) := by decide +kernel
theorem dX6_yearsOn_26 : decode cX6_yearsOn 26 = .ok (.goto 6, 3) := by decide +kernel
theorem dX6_yearsOn_29 : decode cX6_yearsOn 29 = .ok (.sipush 999, 3) := by decide +kernel
theorem dX6_yearsOn_32 : decode cX6_yearsOn 32 = .ok (.ireturn, 1) := by decide +kernel
theorem dX6_hasCuts_0 : decode cX6_hasCuts 0 = .ok (.iload_n 1, 1) := by decide +kernel
theorem dX6_hasCuts_1 : decode cX6_hasCuts 1 = .ok (.iconst 0, 1) := by decide +kernel
theorem dX6_hasCuts_2 : decode cX6_hasCuts 2 = .ok (.sipush 999, 3) := by decide +kernel
theorem dX6_hasCuts_5 : decode cX6_hasCuts 5 = .ok (.invokestatic 55, 3) := by decide +kernel
theorem dX6_hasCuts_8 : decode cX6_hasCuts 8 = .ok (.ifCond .ne 5, 3) := by decide +kernel
theorem dX6_hasCuts_11 : decode cX6_hasCuts 11 = .ok (.iconst 0, 1) := by decide +kernel
theorem dX6_hasCuts_12 : decode cX6_hasCuts 12 = .ok (.ireturn, 1) := by decide +kernel
theorem dX6_hasCuts_13 : decode cX6_hasCuts 13 = .ok (.aload_n 0, 1) := by decide +kernel
theorem dX6_hasCuts_14 : decode cX6_hasCuts 14 = .ok (.getfield 33, 3) := by decide +kernel
theorem dX6_hasCuts_17 : decode cX6_hasCuts 17 = .ok (.aload_n 0, 1) := by decide +kernel
theorem dX6_hasCuts_18 : decode cX6_hasCuts 18 = .ok (.getfield 10, 3) := by decide +kernel
theorem dX6_hasCuts_21 : decode cX6_hasCuts 21 = .ok (.aload_n 0, 1) := by decide +kernel
theorem dX6_hasCuts_22 : decode cX6_hasCuts 22 = .ok (.getfield 26, 3) := by decide +kernel
theorem dX6_hasCuts_25 : decode cX6_hasCuts 25 = .ok (.iload_n 1, 1) := by decide +kernel
theorem dX6_hasCuts_26 : decode cX6_hasCuts 26 = .ok (.invokevirtual 95, 3) := by decide +kernel
theorem dX6_hasCuts_29 : decode cX6_hasCuts 29 = .ok (.aload_n 0, 1) := by decide +kernel
theorem dX6_hasCuts_30 : decode cX6_hasCuts 30 = .ok (.getfield 33, 3) := by decide +kernel
theorem dX6_hasCuts_33 : decode cX6_hasCuts 33 = .ok (.invokevirtual 102, 3) := by decide +kernel
theorem dX6_hasCuts_36 : decode cX6_hasCuts 36 = .ok (.ireturn, 1) := by decide +kernel
theorem dX6_isRoomFor_0 : decode cX6_isRoomFor 0 = .ok (.aload_n 0, 1) := by decide +kernel
theorem dX6_isRoomFor_1 : decode cX6_isRoomFor 1 = .ok (.getfield 33, 3) := by decide +kernel
theorem dX6_isRoomFor_4 : decode cX6_isRoomFor 4 = .ok (.aload_n 0, 1) := by decide +kernel
theorem dX6_isRoomFor_5 : decode cX6_isRoomFor 5 = .ok (.getfield 10, 3) := by decide +kernel
theorem dX6_isRoomFor_8 : decode cX6_isRoomFor 8 = .ok (.aload_n 0, 1) := by decide +kernel
theorem dX6_isRoomFor_9 : decode cX6_isRoomFor 9 = .ok (.getfield 26, 3) := by decide +kernel
theorem dX6_isRoomFor_12 : decode cX6_isRoomFor 12 = .ok (.iload_n 1, 1) := by decide +kernel
theorem dX6_isRoomFor_13 : decode cX6_isRoomFor 13 = .ok (.invokevirtual 95, 3) := by decide +kernel
theorem dX6_isRoomFor_16 : decode cX6_isRoomFor 16 = .ok (.aload_n 0, 1) := by decide +kernel
theorem dX6_isRoomFor_17 : decode cX6_isRoomFor 17 = .ok (.getfield 33, 3) := by decide +kernel
theorem dX6_isRoomFor_20 : decode cX6_isRoomFor 20 = .ok (.iload_n 2, 1) := by decide +kernel
theorem dX6_isRoomFor_21 : decode cX6_isRoomFor 21 = .ok (.invokevirtual 235, 3) := by decide +kernel
theorem dX6_isRoomFor_24 : decode cX6_isRoomFor 24 = .ok (.iconst (-1), 1) := by decide +kernel
theorem dX6_isRoomFor_25 : decode cX6_isRoomFor 25 = .ok (.if_icmp .eq 7, 3) := by decide +kernel
theorem dX6_isRoomFor_28 : decode cX6_isRoomFor 28 = .ok (.iconst 1, 1) := by decide +kernel
theorem dX6_isRoomFor_29 : decode cX6_isRoomFor 29 = .ok (.goto 4, 3) := by decide +kernel
theorem dX6_isRoomFor_32 : decode cX6_isRoomFor 32 = .ok (.iconst 0, 1) := by decide +kernel
theorem dX6_isRoomFor_33 : decode cX6_isRoomFor 33 = .ok (.ireturn, 1) := by decide +kernel
theorem dX6_moveAtOnce_0 : decode cX6_moveAtOnce 0 = .ok (.aload_n 0, 1) := by decide +kernel
theorem dX6_moveAtOnce_1 : decode cX6_moveAtOnce 1 = .ok (.getfield 40, 3) := by decide +kernel
theorem dX6_moveAtOnce_4 : decode cX6_moveAtOnce 4 = .ok (.aload_n 0, 1) := by decide +kernel
theorem dX6_moveAtOnce_5 : decode cX6_moveAtOnce 5 = .ok (.getfield 26, 3) := by decide +kernel
theorem dX6_moveAtOnce_8 : decode cX6_moveAtOnce 8 = .ok (.aload_n 0, 1) := by decide +kernel
theorem dX6_moveAtOnce_9 : decode cX6_moveAtOnce 9 = .ok (.getfield 33, 3) := by decide +kernel
theorem dX6_moveAtOnce_12 : decode cX6_moveAtOnce 12 = .ok (.getfield 106, 3) := by decide +kernel
theorem dX6_moveAtOnce_15 : decode cX6_moveAtOnce 15 = .ok (.iconst 0, 1) := by decide +kernel
theorem dX6_moveAtOnce_16 : decode cX6_moveAtOnce 16 = .ok (.invokevirtual 238, 3) := by decide +kernel
theorem dX6_moveAtOnce_19 : decode cX6_moveAtOnce 19 = .ok (.aload_n 0, 1) := by decide +kernel
theorem dX6_moveAtOnce_20 : decode cX6_moveAtOnce 20 = .ok (.getfield 40, 3) := by decide +kernel
theorem dX6_moveAtOnce_23 : decode cX6_moveAtOnce 23 = .ok (.getfield 145, 3) := by decide +kernel
theorem dX6_moveAtOnce_26 : decode cX6_moveAtOnce 26 = .ok (.istore_n 1, 1) := by decide +kernel
theorem dX6_moveAtOnce_27 : decode cX6_moveAtOnce 27 = .ok (.iconst 0, 1) := by decide +kernel
theorem dX6_moveAtOnce_28 : decode cX6_moveAtOnce 28 = .ok (.istore_n 2, 1) := by decide +kernel
theorem dX6_moveAtOnce_29 : decode cX6_moveAtOnce 29 = .ok (.iload_n 2, 1) := by decide +kernel
theorem dX6_moveAtOnce_30 : decode cX6_moveAtOnce 30 = .ok (.iload_n 1, 1) := by decide +kernel
theorem dX6_moveAtOnce_31 : decode cX6_moveAtOnce 31 = .ok (.if_icmp .ge 14, 3) := by decide +kernel
theorem dX6_moveAtOnce_34 : decode cX6_moveAtOnce 34 = .ok (.aload_n 0, 1) := by decide +kernel
theorem dX6_moveAtOnce_35 : decode cX6_moveAtOnce 35 = .ok (.invokevirtual 242, 3) := by decide +kernel
theorem dX6_moveAtOnce_38 : decode cX6_moveAtOnce 38 = .ok (.pop, 1) := by decide +kernel
theorem dX6_moveAtOnce_39 : decode cX6_moveAtOnce 39 = .ok (.iinc 2 1, 3) := by decide +kernel
