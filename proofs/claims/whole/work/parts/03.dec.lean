theorem dX0_init_0 : decode cX0_init 0 = .ok (.aload_n 0, 1) := by decide +kernel
theorem dX0_init_1 : decode cX0_init 1 = .ok (.invokespecial 3, 3) := by decide +kernel
theorem dX0_init_4 : decode cX0_init 4 = .ok (.aload_n 0, 1) := by decide +kernel
theorem dX0_init_5 : decode cX0_init 5 = .ok (.bipush 8, 2) := by decide +kernel
theorem dX0_init_7 : decode cX0_init 7 = .ok (.newarray .int, 2) := by decide +kernel
theorem dX0_init_9 : decode cX0_init 9 = .ok (.putfield 9, 3) := by decide +kernel
theorem dX0_init_12 : decode cX0_init 12 = .ok (.aload_n 0, 1) := by decide +kernel
theorem dX0_init_13 : decode cX0_init 13 = .ok (.bipush 8, 2) := by decide +kernel
theorem dX0_init_15 : decode cX0_init 15 = .ok (.newarray .int, 2) := by decide +kernel
theorem dX0_init_17 : decode cX0_init 17 = .ok (.putfield 15, 3) := by decide +kernel
theorem dX0_init_20 : decode cX0_init 20 = .ok (.aload_n 0, 1) := by decide +kernel
theorem dX0_init_21 : decode cX0_init 21 = .ok (.bipush 20, 2) := by decide +kernel
theorem dX0_init_23 : decode cX0_init 23 = .ok (.putfield 18, 3) := by decide +kernel
theorem dX0_init_26 : decode cX0_init 26 = .ok (.aload_n 0, 1) := by decide +kernel
theorem dX0_init_27 : decode cX0_init 27 = .ok (.iconst 1, 1) := by decide +kernel
theorem dX0_init_28 : decode cX0_init 28 = .ok (.putfield 22, 3) := by decide +kernel
theorem dX0_init_31 : decode cX0_init 31 = .ok (.return_, 1) := by decide +kernel
theorem dX0_copy_0 : decode cX0_copy 0 = .ok (.aload_n 1, 1) := by decide +kernel
theorem dX0_copy_1 : decode cX0_copy 1 = .ok (.getfield 9, 3) := by decide +kernel
theorem dX0_copy_4 : decode cX0_copy 4 = .ok (.iconst 0, 1) := by decide +kernel
theorem dX0_copy_5 : decode cX0_copy 5 = .ok (.aload_n 0, 1) := by decide +kernel
theorem dX0_copy_6 : decode cX0_copy 6 = .ok (.getfield 9, 3) := by decide +kernel
theorem dX0_copy_9 : decode cX0_copy 9 = .ok (.iconst 0, 1) := by decide +kernel
theorem dX0_copy_10 : decode cX0_copy 10 = .ok (.bipush 8, 2) := by decide +kernel
theorem dX0_copy_12 : decode cX0_copy 12 = .ok (.invokestatic 25, 3) := by decide +kernel
theorem dX0_copy_15 : decode cX0_copy 15 = .ok (.aload_n 1, 1) := by decide +kernel
theorem dX0_copy_16 : decode cX0_copy 16 = .ok (.getfield 15, 3) := by decide +kernel
theorem dX0_copy_19 : decode cX0_copy 19 = .ok (.iconst 0, 1) := by decide +kernel
theorem dX0_copy_20 : decode cX0_copy 20 = .ok (.aload_n 0, 1) := by decide +kernel
theorem dX0_copy_21 : decode cX0_copy 21 = .ok (.getfield 15, 3) := by decide +kernel
theorem dX0_copy_24 : decode cX0_copy 24 = .ok (.iconst 0, 1) := by decide +kernel
theorem dX0_copy_25 : decode cX0_copy 25 = .ok (.bipush 8, 2) := by decide +kernel
theorem dX0_copy_27 : decode cX0_copy 27 = .ok (.invokestatic 25, 3) := by decide +kernel
theorem dX0_copy_30 : decode cX0_copy 30 = .ok (.aload_n 0, 1) := by decide +kernel
theorem dX0_copy_31 : decode cX0_copy 31 = .ok (.aload_n 1, 1) := by decide +kernel
theorem dX0_copy_32 : decode cX0_copy 32 = .ok (.getfield 31, 3) := by decide +kernel
theorem dX0_copy_35 : decode cX0_copy 35 = .ok (.putfield 31, 3) := by decide +kernel
theorem dX0_copy_38 : decode cX0_copy 38 = .ok (.aload_n 0, 1) := by decide +kernel
theorem dX0_copy_39 : decode cX0_copy 39 = .ok (.aload_n 1, 1) := by decide +kernel
theorem dX0_copy_40 : decode cX0_copy 40 = .ok (.getfield 34, 3) := by decide +kernel
theorem dX0_copy_43 : decode cX0_copy 43 = .ok (.putfield 34, 3) := by decide +kernel
theorem dX0_copy_46 : decode cX0_copy 46 = .ok (.aload_n 0, 1) := by decide +kernel
theorem dX0_copy_47 : decode cX0_copy 47 = .ok (.aload_n 1, 1) := by decide +kernel
theorem dX0_copy_48 : decode cX0_copy 48 = .ok (.getfield 37, 3) := by decide +kernel
theorem dX0_copy_51 : decode cX0_copy 51 = .ok (.putfield 37, 3) := by decide +kernel
theorem dX0_copy_54 : decode cX0_copy 54 = .ok (.aload_n 0, 1) := by decide +kernel
theorem dX0_copy_55 : decode cX0_copy 55 = .ok (.aload_n 1, 1) := by decide +kernel
theorem dX0_copy_56 : decode cX0_copy 56 = .ok (.getfield 18, 3) := by decide +kernel
theorem dX0_copy_59 : decode cX0_copy 59 = .ok (.putfield 18, 3) := by decide +kernel
theorem dX0_copy_62 : decode cX0_copy 62 = .ok (.aload_n 0, 1) := by decide +kernel
theorem dX0_copy_63 : decode cX0_copy 63 = .ok (.aload_n 1, 1) := by decide +kernel
theorem dX0_copy_64 : decode cX0_copy 64 = .ok (.getfield 40, 3) := by decide +kernel
theorem dX0_copy_67 : decode cX0_copy 67 = .ok (.putfield 40, 3) := by decide +kernel
theorem dX0_copy_70 : decode cX0_copy 70 = .ok (.aload_n 0, 1) := by decide +kernel
theorem dX0_copy_71 : decode cX0_copy 71 = .ok (.aload_n 1, 1) := by decide +kernel
theorem dX0_copy_72 : decode cX0_copy 72 = .ok (.getfield 22, 3) := by decide +kernel
theorem dX0_copy_75 : decode cX0_copy 75 = .ok (.putfield 22, 3) := by decide +kernel
theorem dX0_copy_78 : decode cX0_copy 78 = .ok (.return_, 1) := by decide +kernel
theorem dX0_hear_0 : decode cX0_hear 0 = .ok (.aload_n 0, 1) := by decide +kernel
theorem dX0_hear_1 : decode cX0_hear 1 = .ok (.getfield 9, 3) := by decide +kernel
theorem dX0_hear_4 : decode cX0_hear 4 = .ok (.iload_n 1, 1) := by decide +kernel
theorem dX0_hear_5 : decode cX0_hear 5 = .ok (.bipush 99, 2) := by decide +kernel
theorem dX0_hear_7 : decode cX0_hear 7 = .ok (.aload_n 0, 1) := by decide +kernel
theorem dX0_hear_8 : decode cX0_hear 8 = .ok (.getfield 9, 3) := by decide +kernel
theorem dX0_hear_11 : decode cX0_hear 11 = .ok (.iload_n 1, 1) := by decide +kernel
theorem dX0_hear_12 : decode cX0_hear 12 = .ok (.iaload, 1) := by decide +kernel
theorem dX0_hear_13 : decode cX0_hear 13 = .ok (.iload_n 2, 1) := by decide +kernel
theorem dX0_hear_14 : decode cX0_hear 14 = .ok (.iadd, 1) := by decide +kernel
theorem dX0_hear_15 : decode cX0_hear 15 = .ok (.invokestatic 43, 3) := by decide +kernel
theorem dX0_hear_18 : decode cX0_hear 18 = .ok (.iastore, 1) := by decide +kernel
theorem dX0_hear_19 : decode cX0_hear 19 = .ok (.return_, 1) := by decide +kernel
theorem dX0_earn_0 : decode cX0_earn 0 = .ok (.aload_n 0, 1) := by decide +kernel
theorem dX0_earn_1 : decode cX0_earn 1 = .ok (.sipush 9999, 3) := by decide +kernel
theorem dX0_earn_4 : decode cX0_earn 4 = .ok (.aload_n 0, 1) := by decide +kernel
theorem dX0_earn_5 : decode cX0_earn 5 = .ok (.getfield 18, 3) := by decide +kernel
theorem dX0_earn_8 : decode cX0_earn 8 = .ok (.iload_n 1, 1) := by decide +kernel
theorem dX0_earn_9 : decode cX0_earn 9 = .ok (.iadd, 1) := by decide +kernel
theorem dX0_earn_10 : decode cX0_earn 10 = .ok (.invokestatic 43, 3) := by decide +kernel
theorem dX0_earn_13 : decode cX0_earn 13 = .ok (.putfield 18, 3) := by decide +kernel
theorem dX0_earn_16 : decode cX0_earn 16 = .ok (.return_, 1) := by decide +kernel
theorem dX0_heardOfAll_0 : decode cX0_heardOfAll 0 = .ok (.iconst 0, 1) := by decide +kernel
theorem dX0_heardOfAll_1 : decode cX0_heardOfAll 1 = .ok (.istore_n 2, 1) := by decide +kernel
theorem dX0_heardOfAll_2 : decode cX0_heardOfAll 2 = .ok (.iconst 0, 1) := by decide +kernel
theorem dX0_heardOfAll_3 : decode cX0_heardOfAll 3 = .ok (.istore_n 3, 1) := by decide +kernel
theorem dX0_heardOfAll_4 : decode cX0_heardOfAll 4 = .ok (.iload_n 3, 1) := by decide +kernel
theorem dX0_heardOfAll_5 : decode cX0_heardOfAll 5 = .ok (.iload_n 1, 1) := by decide +kernel
theorem dX0_heardOfAll_6 : decode cX0_heardOfAll 6 = .ok (.if_icmp .ge 24, 3) := by decide +kernel
theorem dX0_heardOfAll_9 : decode cX0_heardOfAll 9 = .ok (.iload_n 3, 1) := by decide +kernel
theorem dX0_heardOfAll_10 : decode cX0_heardOfAll 10 = .ok (.bipush 8, 2) := by decide +kernel
theorem dX0_heardOfAll_12 : decode cX0_heardOfAll 12 = .ok (.if_icmp .ge 18, 3) := by decide +kernel
theorem dX0_heardOfAll_15 : decode cX0_heardOfAll 15 = .ok (.iload_n 2, 1) := by decide +kernel
theorem dX0_heardOfAll_16 : decode cX0_heardOfAll 16 = .ok (.aload_n 0, 1) := by decide +kernel
theorem dX0_heardOfAll_17 : decode cX0_heardOfAll 17 = .ok (.getfield 9, 3) := by decide +kernel
theorem dX0_heardOfAll_20 : decode cX0_heardOfAll 20 = .ok (.iload_n 3, 1) := by decide +kernel
theorem dX0_heardOfAll_21 : decode cX0_heardOfAll 21 = .ok (.iaload, 1) := by decide +kernel
theorem dX0_heardOfAll_22 : decode cX0_heardOfAll 22 = .ok (.iadd, 1) := by decide +kernel
theorem dX0_heardOfAll_23 : decode cX0_heardOfAll 23 = .ok (.istore_n 2, 1) := by decide +kernel
theorem dX0_heardOfAll_24 : decode cX0_heardOfAll 24 = .ok (.iinc 3 1, 3) := by decide +kernel
theorem dX0_heardOfAll_27 : decode cX0_heardOfAll 27 = .ok (.goto (-23), 3) := by decide +kernel
theorem dX0_heardOfAll_30 : decode cX0_heardOfAll 30 = .ok (.iload_n 2, 1) := by decide +kernel
theorem dX0_heardOfAll_31 : decode cX0_heardOfAll 31 = .ok (.ireturn, 1) := by decide +kernel
theorem dX0_surchargedOfAll_0 : decode cX0_surchargedOfAll 0 = .ok (.iconst 0, 1) := by decide +kernel
theorem dX0_surchargedOfAll_1 : decode cX0_surchargedOfAll 1 = .ok (.istore_n 2, 1) := by decide +kernel
theorem dX0_surchargedOfAll_2 : decode cX0_surchargedOfAll 2 = .ok (.iconst 0, 1) := by decide +kernel
theorem dX0_surchargedOfAll_3 : decode cX0_surchargedOfAll 3 = .ok (.istore_n 3, 1) := by decide +kernel
theorem dX0_surchargedOfAll_4 : decode cX0_surchargedOfAll 4 = .ok (.iload_n 3, 1) := by decide +kernel
theorem dX0_surchargedOfAll_5 : decode cX0_surchargedOfAll 5 = .ok (.iload_n 1, 1) := by decide +kernel
theorem dX0_surchargedOfAll_6 : decode cX0_surchargedOfAll 6 = .ok (.if_icmp .ge 24, 3) := by decide +kernel
theorem dX0_surchargedOfAll_9 : decode cX0_surchargedOfAll 9 = .ok (.iload_n 3, 1) := by decide +kernel
theorem dX0_surchargedOfAll_10 : decode cX0_surchargedOfAll 10 = .ok (.bipush 8, 2) := by decide +kernel
theorem dX0_surchargedOfAll_12 : decode cX0_surchargedOfAll 12 = .ok (.if_icmp .ge 18, 3) := by decide +kernel
theorem dX0_surchargedOfAll_15 : decode cX0_surchargedOfAll 15 = .ok (.iload_n 2, 1) := by decide +kernel
theorem dX0_surchargedOfAll_16 : decode cX0_surchargedOfAll 16 = .ok (.aload_n 0, 1) := by decide +kernel
theorem dX0_surchargedOfAll_17 : decode cX0_surchargedOfAll 17 = .ok (.getfield 15, 3) := by decide +kernel
theorem dX0_surchargedOfAll_20 : decode cX0_surchargedOfAll 20 = .ok (.iload_n 3, 1) := by decide +kernel
theorem dX0_surchargedOfAll_21 : decode cX0_surchargedOfAll 21 = .ok (.iaload, 1) := by decide +kernel
theorem dX0_surchargedOfAll_22 : decode cX0_surchargedOfAll 22 = .ok (.iadd, 1) := by decide +kernel
theorem dX0_surchargedOfAll_23 : decode cX0_surchargedOfAll 23 = .ok (.istore_n 2, 1) := by decide +kernel
theorem dX0_surchargedOfAll_24 : decode cX0_surchargedOfAll 24 = .ok (.iinc 3 1, 3) := by decide +kernel
theorem dX0_surchargedOfAll_27 : decode cX0_surchargedOfAll 27 = .ok (.goto (-23), 3) := by decide +kernel
theorem dX0_surchargedOfAll_30 : decode cX0_surchargedOfAll 30 = .ok (.iload_n 2, 1) := by decide +kernel
theorem dX0_surchargedOfAll_31 : decode cX0_surchargedOfAll 31 = .ok (.ireturn, 1) := by decide +kernel
theorem dX1_init_0 : decode cX1_init 0 = .ok (.aload_n 0, 1) := by decide +kernel
theorem dX1_init_1 : decode cX1_init 1 = .ok (.invokespecial 3, 3) := by decide +kernel
theorem dX1_init_4 : decode cX1_init 4 = .ok (.aload_n 0, 1) := by decide +kernel
theorem dX1_init_5 : decode cX1_init 5 = .ok (.bipush 8, 2) := by decide +kernel
theorem dX1_init_7 : decode cX1_init 7 = .ok (.newarray .int, 2) := by decide +kernel
theorem dX1_init_9 : decode cX1_init 9 = .ok (.putfield 9, 3) := by decide +kernel
theorem dX1_init_12 : decode cX1_init 12 = .ok (.aload_n 0, 1) := by decide +kernel
theorem dX1_init_13 : decode cX1_init 13 = .ok (.bipush 8, 2) := by decide +kernel
theorem dX1_init_15 : decode cX1_init 15 = .ok (.newarray .int, 2) := by decide +kernel
theorem dX1_init_17 : decode cX1_init 17 = .ok (.putfield 15, 3) := by decide +kernel
theorem dX1_init_20 : decode cX1_init 20 = .ok (.aload_n 0, 1) := by decide +kernel
theorem dX1_init_21 : decode cX1_init 21 = .ok (.iload_n 1, 1) := by decide +kernel
theorem dX1_init_22 : decode cX1_init 22 = .ok (.iconst 0, 1) := by decide +kernel
theorem dX1_init_23 : decode cX1_init 23 = .ok (.bipush 9, 2) := by decide +kernel
theorem dX1_init_25 : decode cX1_init 25 = .ok (.invokestatic 18, 3) := by decide +kernel
theorem dX1_init_28 : decode cX1_init 28 = .ok (.iconst 1, 1) := by decide +kernel
theorem dX1_init_29 : decode cX1_init 29 = .ok (.iadd, 1) := by decide +kernel
theorem dX1_init_30 : decode cX1_init 30 = .ok (.putfield 22, 3) := by decide +kernel
theorem dX1_init_33 : decode cX1_init 33 = .ok (.aload_n 0, 1) := by decide +kernel
theorem dX1_init_34 : decode cX1_init 34 = .ok (.bipush 8, 2) := by decide +kernel
theorem dX1_init_36 : decode cX1_init 36 = .ok (.aload_n 0, 1) := by decide +kernel
theorem dX1_init_37 : decode cX1_init 37 = .ok (.getfield 22, 3) := by decide +kernel
theorem dX1_init_40 : decode cX1_init 40 = .ok (.imul, 1) := by decide +kernel
theorem dX1_init_41 : decode cX1_init 41 = .ok (.bipush 9, 2) := by decide +kernel
theorem dX1_init_43 : decode cX1_init 43 = .ok (.imul, 1) := by decide +kernel
theorem dX1_init_44 : decode cX1_init 44 = .ok (.newarray .int, 2) := by decide +kernel
theorem dX1_init_46 : decode cX1_init 46 = .ok (.putfield 26, 3) := by decide +kernel
theorem dX1_init_49 : decode cX1_init 49 = .ok (.return_, 1) := by decide +kernel
theorem dX1_place_0 : decode cX1_place 0 = .ok (.iload_n 1, 1) := by decide +kernel
theorem dX1_place_1 : decode cX1_place 1 = .ok (.aload_n 0, 1) := by decide +kernel
theorem dX1_place_2 : decode cX1_place 2 = .ok (.getfield 22, 3) := by decide +kernel
theorem dX1_place_5 : decode cX1_place 5 = .ok (.imul, 1) := by decide +kernel
theorem dX1_place_6 : decode cX1_place 6 = .ok (.iload_n 2, 1) := by decide +kernel
theorem dX1_place_7 : decode cX1_place 7 = .ok (.iadd, 1) := by decide +kernel
theorem dX1_place_8 : decode cX1_place 8 = .ok (.bipush 9, 2) := by decide +kernel
theorem dX1_place_10 : decode cX1_place 10 = .ok (.imul, 1) := by decide +kernel
theorem dX1_place_11 : decode cX1_place 11 = .ok (.iload_n 3, 1) := by decide +kernel
theorem dX1_place_12 : decode cX1_place 12 = .ok (.iadd, 1) := by decide +kernel
theorem dX1_place_13 : decode cX1_place 13 = .ok (.ireturn, 1) := by decide +kernel
theorem dX1_ready_0 : decode cX1_ready 0 = .ok (.aload_n 0, 1) := by decide +kernel
theorem dX1_ready_1 : decode cX1_ready 1 = .ok (.aload_n 1, 1) := by decide +kernel
theorem dX1_ready_2 : decode cX1_ready 2 = .ok (.iload_n 3, 1) := by decide +kernel
theorem dX1_ready_3 : decode cX1_ready 3 = .ok (.invokevirtual 29, 3) := by decide +kernel
theorem dX1_ready_6 : decode cX1_ready 6 = .ok (.putfield 35, 3) := by decide +kernel
theorem dX1_ready_9 : decode cX1_ready 9 = .ok (.iconst 0, 1) := by decide +kernel
theorem dX1_ready_10 : decode cX1_ready 10 = .ok (.istore 5, 2) := by decide +kernel
theorem dX1_ready_12 : decode cX1_ready 12 = .ok (.iload 5, 2) := by decide +kernel
theorem dX1_ready_14 : decode cX1_ready 14 = .ok (.aload_n 1, 1) := by decide +kernel
theorem dX1_ready_15 : decode cX1_ready 15 = .ok (.getfield 38, 3) := by decide +kernel
theorem dX1_ready_18 : decode cX1_ready 18 = .ok (.if_icmp .ge 99, 3) := by decide +kernel
theorem dX1_ready_21 : decode cX1_ready 21 = .ok (.iconst 0, 1) := by decide +kernel
theorem dX1_ready_22 : decode cX1_ready 22 = .ok (.istore 6, 2) := by decide +kernel
theorem dX1_ready_24 : decode cX1_ready 24 = .ok (.iload 6, 2) := by decide +kernel
theorem dX1_ready_26 : decode cX1_ready 26 = .ok (.iload 4, 2) := by decide +kernel
theorem dX1_ready_28 : decode cX1_ready 28 = .ok (.if_icmp .gt 83, 3) := by decide +kernel
theorem dX1_ready_31 : decode cX1_ready 31 = .ok (.iload 6, 2) := by decide +kernel
theorem dX1_ready_33 : decode cX1_ready 33 = .ok (.aload_n 0, 1) := by decide +kernel
theorem dX1_ready_34 : decode cX1_ready 34 = .ok (.getfield 22, 3) := by decide +kernel
theorem dX1_ready_37 : decode cX1_ready 37 = .ok (.if_icmp .ge 74, 3) := by decide +kernel
theorem dX1_ready_40 : decode cX1_ready 40 = .ok (.bipush 99, 2) := by decide +kernel
theorem dX1_ready_42 : decode cX1_ready 42 = .ok (.aload_n 2, 1) := by decide +kernel
theorem dX1_ready_43 : decode cX1_ready 43 = .ok (.getfield 41, 3) := by decide +kernel
theorem dX1_ready_46 : decode cX1_ready 46 = .ok (.iload 5, 2) := by decide +kernel
theorem dX1_ready_48 : decode cX1_ready 48 = .ok (.iaload, 1) := by decide +kernel
theorem dX1_ready_49 : decode cX1_ready 49 = .ok (.iload 6, 2) := by decide +kernel
theorem dX1_ready_51 : decode cX1_ready 51 = .ok (.iadd, 1) := by decide +kernel
theorem dX1_ready_52 : decode cX1_ready 52 = .ok (.invokestatic 46, 3) := by decide +kernel
theorem dX1_ready_55 : decode cX1_ready 55 = .ok (.istore 7, 2) := by decide +kernel
theorem dX1_ready_57 : decode cX1_ready 57 = .ok (.iconst 1, 1) := by decide +kernel
theorem dX1_ready_58 : decode cX1_ready 58 = .ok (.istore 8, 2) := by decide +kernel
theorem dX1_ready_60 : decode cX1_ready 60 = .ok (.iload 8, 2) := by decide +kernel
theorem dX1_ready_62 : decode cX1_ready 62 = .ok (.aload_n 1, 1) := by decide +kernel
theorem dX1_ready_63 : decode cX1_ready 63 = .ok (.getfield 38, 3) := by decide +kernel
theorem dX1_ready_66 : decode cX1_ready 66 = .ok (.if_icmp .gt 39, 3) := by decide +kernel
theorem dX1_ready_69 : decode cX1_ready 69 = .ok (.aload_n 0, 1) := by decide +kernel
theorem dX1_ready_70 : decode cX1_ready 70 = .ok (.getfield 26, 3) := by decide +kernel
theorem dX1_ready_73 : decode cX1_ready 73 = .ok (.aload_n 0, 1) := by decide +kernel
theorem dX1_ready_74 : decode cX1_ready 74 = .ok (.iload 5, 2) := by decide +kernel
theorem dX1_ready_76 : decode cX1_ready 76 = .ok (.iload 6, 2) := by decide +kernel
theorem dX1_ready_78 : decode cX1_ready 78 = .ok (.iload 8, 2) := by decide +kernel
theorem dX1_ready_80 : decode cX1_ready 80 = .ok (.invokevirtual 52, 3) := by decide +kernel
theorem dX1_ready_83 : decode cX1_ready 83 = .ok (.aload_n 1, 1) := by decide +kernel
theorem dX1_ready_84 : decode cX1_ready 84 = .ok (.aload_n 1, 1) := by decide +kernel
theorem dX1_ready_85 : decode cX1_ready 85 = .ok (.getfield 55, 3) := by decide +kernel
theorem dX1_ready_88 : decode cX1_ready 88 = .ok (.iload_n 3, 1) := by decide +kernel
theorem dX1_ready_89 : decode cX1_ready 89 = .ok (.iload 5, 2) := by decide +kernel
theorem dX1_ready_91 : decode cX1_ready 91 = .ok (.iload 7, 2) := by decide +kernel
theorem dX1_ready_93 : decode cX1_ready 93 = .ok (.iload 8, 2) := by decide +kernel
theorem dX1_ready_95 : decode cX1_ready 95 = .ok (.invokevirtual 59, 3) := by decide +kernel
theorem dX1_ready_98 : decode cX1_ready 98 = .ok (.iastore, 1) := by decide +kernel
theorem dX1_ready_99 : decode cX1_ready 99 = .ok (.iinc 8 1, 3) := by decide +kernel
theorem dX1_ready_102 : decode cX1_ready 102 = .ok (.goto (-42), 3) := by decide +kernel
theorem dX1_ready_105 : decode cX1_ready 105 = .ok (.iinc 6 1, 3) := by decide +kernel
theorem dX1_ready_108 : decode cX1_ready 108 = .ok (.goto (-84), 3) := by decide +kernel
theorem dX1_ready_111 : decode cX1_ready 111 = .ok (.iinc 5 1, 3) := by decide +kernel
theorem dX1_ready_114 : decode cX1_ready 114 = .ok (.goto (-102), 3) := by decide +kernel
theorem dX1_ready_117 : decode cX1_ready 117 = .ok (.return_, 1) := by decide +kernel
theorem dX1_mostOf_0 : decode cX1_mostOf 0 = .ok (.iconst 0, 1) := by decide +kernel
theorem dX1_mostOf_1 : decode cX1_mostOf 1 = .ok (.istore 4, 2) := by decide +kernel
theorem dX1_mostOf_3 : decode cX1_mostOf 3 = .ok (.iconst 0, 1) := by decide +kernel
theorem dX1_mostOf_4 : decode cX1_mostOf 4 = .ok (.istore 5, 2) := by decide +kernel
theorem dX1_mostOf_6 : decode cX1_mostOf 6 = .ok (.iload 5, 2) := by decide +kernel
theorem dX1_mostOf_8 : decode cX1_mostOf 8 = .ok (.iload_n 3, 1) := by decide +kernel
theorem dX1_mostOf_9 : decode cX1_mostOf 9 = .ok (.if_icmp .gt 61, 3) := by decide +kernel
theorem dX1_mostOf_12 : decode cX1_mostOf 12 = .ok (.iload 5, 2) := by decide +kernel
theorem dX1_mostOf_14 : decode cX1_mostOf 14 = .ok (.aload_n 0, 1) := by decide +kernel
theorem dX1_mostOf_15 : decode cX1_mostOf 15 = .ok (.getfield 22, 3) := by decide +kernel
theorem dX1_mostOf_18 : decode cX1_mostOf 18 = .ok (.if_icmp .ge 52, 3) := by decide +kernel
theorem dX1_mostOf_21 : decode cX1_mostOf 21 = .ok (.iconst 1, 1) := by decide +kernel
theorem dX1_mostOf_22 : decode cX1_mostOf 22 = .ok (.istore 6, 2) := by decide +kernel
theorem dX1_mostOf_24 : decode cX1_mostOf 24 = .ok (.iload 6, 2) := by decide +kernel
theorem dX1_mostOf_26 : decode cX1_mostOf 26 = .ok (.iload_n 2, 1) := by decide +kernel
theorem dX1_mostOf_27 : decode cX1_mostOf 27 = .ok (.if_icmp .gt 37, 3) := by decide +kernel
theorem dX1_mostOf_30 : decode cX1_mostOf 30 = .ok (.iload 6, 2) := by decide +kernel
theorem dX1_mostOf_32 : decode cX1_mostOf 32 = .ok (.bipush 8, 2) := by decide +kernel
theorem dX1_mostOf_34 : decode cX1_mostOf 34 = .ok (.if_icmp .gt 30, 3) := by decide +kernel
theorem dX1_mostOf_37 : decode cX1_mostOf 37 = .ok (.iload 4, 2) := by decide +kernel
theorem dX1_mostOf_39 : decode cX1_mostOf 39 = .ok (.aload_n 0, 1) := by decide +kernel
theorem dX1_mostOf_40 : decode cX1_mostOf 40 = .ok (.getfield 26, 3) := by decide +kernel
theorem dX1_mostOf_43 : decode cX1_mostOf 43 = .ok (.aload_n 0, 1) := by decide +kernel
theorem dX1_mostOf_44 : decode cX1_mostOf 44 = .ok (.iload_n 1, 1) := by decide +kernel
theorem dX1_mostOf_45 : decode cX1_mostOf 45 = .ok (.iload 5, 2) := by decide +kernel
theorem dX1_mostOf_47 : decode cX1_mostOf 47 = .ok (.iload 6, 2) := by decide +kernel
theorem dX1_mostOf_49 : decode cX1_mostOf 49 = .ok (.invokevirtual 52, 3) := by decide +kernel
theorem dX1_mostOf_52 : decode cX1_mostOf 52 = .ok (.iaload, 1) := by decide +kernel
theorem dX1_mostOf_53 : decode cX1_mostOf 53 = .ok (.invokestatic 63, 3) := by decide +kernel
theorem dX1_mostOf_56 : decode cX1_mostOf 56 = .ok (.istore 4, 2) := by decide +kernel
theorem dX1_mostOf_58 : decode cX1_mostOf 58 = .ok (.iinc 6 1, 3) := by decide +kernel
theorem dX1_mostOf_61 : decode cX1_mostOf 61 = .ok (.goto (-37), 3) := by decide +kernel
theorem dX1_mostOf_64 : decode cX1_mostOf 64 = .ok (.iinc 5 1, 3) := by decide +kernel
theorem dX1_mostOf_67 : decode cX1_mostOf 67 = .ok (.goto (-61), 3) := by decide +kernel
theorem dX1_mostOf_70 : decode cX1_mostOf 70 = .ok (.iload 4, 2) := by decide +kernel
theorem dX1_mostOf_72 : decode cX1_mostOf 72 = .ok (.ireturn, 1) := by decide +kernel
theorem dX1_follow_0 : decode cX1_follow 0 = .ok (.iconst 0, 1) := by decide +kernel
theorem dX1_follow_1 : decode cX1_follow 1 = .ok (.istore_n 3, 1) := by decide +kernel
theorem dX1_follow_2 : decode cX1_follow 2 = .ok (.iload_n 3, 1) := by decide +kernel
theorem dX1_follow_3 : decode cX1_follow 3 = .ok (.aload_n 1, 1) := by decide +kernel
theorem dX1_follow_4 : decode cX1_follow 4 = .ok (.getfield 38, 3) := by decide +kernel
theorem dX1_follow_7 : decode cX1_follow 7 = .ok (.if_icmp .ge 30, 3) := by decide +kernel
theorem dX1_follow_10 : decode cX1_follow 10 = .ok (.aload_n 0, 1) := by decide +kernel
theorem dX1_follow_11 : decode cX1_follow 11 = .ok (.getfield 9, 3) := by decide +kernel
theorem dX1_follow_14 : decode cX1_follow 14 = .ok (.iload_n 3, 1) := by decide +kernel
theorem dX1_follow_15 : decode cX1_follow 15 = .ok (.aload_n 2, 1) := by decide +kernel
theorem dX1_follow_16 : decode cX1_follow 16 = .ok (.getfield 15, 3) := by decide +kernel
theorem dX1_follow_19 : decode cX1_follow 19 = .ok (.iload_n 3, 1) := by decide +kernel
theorem dX1_follow_20 : decode cX1_follow 20 = .ok (.iaload, 1) := by decide +kernel
theorem dX1_follow_21 : decode cX1_follow 21 = .ok (.aload_n 0, 1) := by decide +kernel
theorem dX1_follow_22 : decode cX1_follow 22 = .ok (.getfield 22, 3) := by decide +kernel
theorem dX1_follow_25 : decode cX1_follow 25 = .ok (.iconst 1, 1) := by decide +kernel
theorem dX1_follow_26 : decode cX1_follow 26 = .ok (.isub, 1) := by decide +kernel
theorem dX1_follow_27 : decode cX1_follow 27 = .ok (.invokestatic 46, 3) := by decide +kernel
theorem dX1_follow_30 : decode cX1_follow 30 = .ok (.iastore, 1) := by decide +kernel
theorem dX1_follow_31 : decode cX1_follow 31 = .ok (.iinc 3 1, 3) := by decide +kernel
theorem dX1_follow_34 : decode cX1_follow 34 = .ok (.goto (-32), 3) := by decide +kernel
theorem dX1_follow_37 : decode cX1_follow 37 = .ok (.return_, 1) := by decide +kernel
theorem dX1_share_0 : decode cX1_share 0 = .ok (.iload_n 2, 1) := by decide +kernel
theorem dX1_share_1 : decode cX1_share 1 = .ok (.invokestatic 66, 3) := by decide +kernel
theorem dX1_share_4 : decode cX1_share 4 = .ok (.istore_n 3, 1) := by decide +kernel
theorem dX1_share_5 : decode cX1_share 5 = .ok (.aload_n 0, 1) := by decide +kernel
theorem dX1_share_6 : decode cX1_share 6 = .ok (.aload_n 0, 1) := by decide +kernel
theorem dX1_share_7 : decode cX1_share 7 = .ok (.getfield 35, 3) := by decide +kernel
theorem dX1_share_10 : decode cX1_share 10 = .ok (.putfield 71, 3) := by decide +kernel
theorem dX1_share_13 : decode cX1_share 13 = .ok (.aload_n 0, 1) := by decide +kernel
theorem dX1_share_14 : decode cX1_share 14 = .ok (.iconst 0, 1) := by decide +kernel
theorem dX1_share_15 : decode cX1_share 15 = .ok (.putfield 74, 3) := by decide +kernel
theorem dX1_share_18 : decode cX1_share 18 = .ok (.iconst 0, 1) := by decide +kernel
theorem dX1_share_19 : decode cX1_share 19 = .ok (.istore 4, 2) := by decide +kernel
theorem dX1_share_21 : decode cX1_share 21 = .ok (.iload 4, 2) := by decide +kernel
theorem dX1_share_23 : decode cX1_share 23 = .ok (.aload_n 1, 1) := by decide +kernel
theorem dX1_share_24 : decode cX1_share 24 = .ok (.getfield 38, 3) := by decide +kernel
theorem dX1_share_27 : decode cX1_share 27 = .ok (.if_icmp .ge 100, 3) := by decide +kernel
theorem dX1_share_30 : decode cX1_share 30 = .ok (.aload_n 0, 1) := by decide +kernel
theorem dX1_share_31 : decode cX1_share 31 = .ok (.getfield 15, 3) := by decide +kernel
theorem dX1_share_34 : decode cX1_share 34 = .ok (.iload 4, 2) := by decide +kernel
theorem dX1_share_36 : decode cX1_share 36 = .ok (.iconst 0, 1) := by decide +kernel
theorem dX1_share_37 : decode cX1_share 37 = .ok (.iastore, 1) := by decide +kernel
theorem dX1_share_38 : decode cX1_share 38 = .ok (.iload_n 2, 1) := by decide +kernel
theorem dX1_share_39 : decode cX1_share 39 = .ok (.iload 4, 2) := by decide +kernel
theorem dX1_share_41 : decode cX1_share 41 = .ok (.ishr, 1) := by decide +kernel
theorem dX1_share_42 : decode cX1_share 42 = .ok (.iconst 1, 1) := by decide +kernel
theorem dX1_share_43 : decode cX1_share 43 = .ok (.iand, 1) := by decide +kernel
theorem dX1_share_44 : decode cX1_share 44 = .ok (.ifCond .eq 77, 3) := by decide +kernel
theorem dX1_share_47 : decode cX1_share 47 = .ok (.aload_n 0, 1) := by decide +kernel
theorem dX1_share_48 : decode cX1_share 48 = .ok (.getfield 71, 3) := by decide +kernel
theorem dX1_share_51 : decode cX1_share 51 = .ok (.ifCond .le 70, 3) := by decide +kernel
theorem dX1_share_54 : decode cX1_share 54 = .ok (.aload_n 0, 1) := by decide +kernel
theorem dX1_share_55 : decode cX1_share 55 = .ok (.getfield 71, 3) := by decide +kernel
theorem dX1_share_58 : decode cX1_share 58 = .ok (.aload_n 0, 1) := by decide +kernel
theorem dX1_share_59 : decode cX1_share 59 = .ok (.getfield 26, 3) := by decide +kernel
theorem dX1_share_62 : decode cX1_share 62 = .ok (.aload_n 0, 1) := by decide +kernel
theorem dX1_share_63 : decode cX1_share 63 = .ok (.iload 4, 2) := by decide +kernel
theorem dX1_share_65 : decode cX1_share 65 = .ok (.aload_n 0, 1) := by decide +kernel
theorem dX1_share_66 : decode cX1_share 66 = .ok (.getfield 9, 3) := by decide +kernel
theorem dX1_share_69 : decode cX1_share 69 = .ok (.iload 4, 2) := by decide +kernel
theorem dX1_share_71 : decode cX1_share 71 = .ok (.iaload, 1) := by decide +kernel
theorem dX1_share_72 : decode cX1_share 72 = .ok (.iload_n 3, 1) := by decide +kernel
theorem dX1_share_73 : decode cX1_share 73 = .ok (.invokevirtual 52, 3) := by decide +kernel
theorem dX1_share_76 : decode cX1_share 76 = .ok (.iaload, 1) := by decide +kernel
theorem dX1_share_77 : decode cX1_share 77 = .ok (.invokestatic 46, 3) := by decide +kernel
theorem dX1_share_80 : decode cX1_share 80 = .ok (.istore 5, 2) := by decide +kernel
theorem dX1_share_82 : decode cX1_share 82 = .ok (.aload_n 0, 1) := by decide +kernel
theorem dX1_share_83 : decode cX1_share 83 = .ok (.getfield 15, 3) := by decide +kernel
theorem dX1_share_86 : decode cX1_share 86 = .ok (.iload 4, 2) := by decide +kernel
theorem dX1_share_88 : decode cX1_share 88 = .ok (.iload 5, 2) := by decide +kernel
theorem dX1_share_90 : decode cX1_share 90 = .ok (.iastore, 1) := by decide +kernel
theorem dX1_share_91 : decode cX1_share 91 = .ok (.aload_n 0, 1) := by decide +kernel
theorem dX1_share_92 : decode cX1_share 92 = .ok (.dup, 1) := by decide +kernel
theorem dX1_share_93 : decode cX1_share 93 = .ok (.getfield 71, 3) := by decide +kernel
theorem dX1_share_96 : decode cX1_share 96 = .ok (.iload 5, 2) := by decide +kernel
theorem dX1_share_98 : decode cX1_share 98 = .ok (.isub, 1) := by decide +kernel
theorem dX1_share_99 : decode cX1_share 99 = .ok (.putfield 71, 3) := by decide +kernel
theorem dX1_share_102 : decode cX1_share 102 = .ok (.aload_n 0, 1) := by decide +kernel
theorem dX1_share_103 : decode cX1_share 103 = .ok (.dup, 1) := by decide +kernel
theorem dX1_share_104 : decode cX1_share 104 = .ok (.getfield 74, 3) := by decide +kernel
theorem dX1_share_107 : decode cX1_share 107 = .ok (.iload 5, 2) := by decide +kernel
theorem dX1_share_109 : decode cX1_share 109 = .ok (.aload_n 1, 1) := by decide +kernel
theorem dX1_share_110 : decode cX1_share 110 = .ok (.getfield 77, 3) := by decide +kernel
theorem dX1_share_113 : decode cX1_share 113 = .ok (.iload 4, 2) := by decide +kernel
theorem dX1_share_115 : decode cX1_share 115 = .ok (.iaload, 1) := by decide +kernel
theorem dX1_share_116 : decode cX1_share 116 = .ok (.imul, 1) := by decide +kernel
theorem dX1_share_117 : decode cX1_share 117 = .ok (.iadd, 1) := by decide +kernel
theorem dX1_share_118 : decode cX1_share 118 = .ok (.putfield 74, 3) := by decide +kernel
theorem dX1_share_121 : decode cX1_share 121 = .ok (.iinc 4 1, 3) := by decide +kernel
theorem dX1_share_124 : decode cX1_share 124 = .ok (.goto (-103), 3) := by decide +kernel
theorem dX1_share_127 : decode cX1_share 127 = .ok (.return_, 1) := by decide +kernel
theorem dX2_init_0 : decode cX2_init 0 = .ok (.aload_n 0, 1) := by decide +kernel
theorem dX2_init_1 : decode cX2_init 1 = .ok (.invokespecial 3, 3) := by decide +kernel
theorem dX2_init_4 : decode cX2_init 4 = .ok (.aload_n 0, 1) := by decide +kernel
theorem dX2_init_5 : decode cX2_init 5 = .ok (.bipush 12, 2) := by decide +kernel
theorem dX2_init_7 : decode cX2_init 7 = .ok (.anewarray 9, 3) := by decide +kernel
theorem dX2_init_10 : decode cX2_init 10 = .ok (.putfield 11, 3) := by decide +kernel
theorem dX2_init_13 : decode cX2_init 13 = .ok (.iconst 0, 1) := by decide +kernel
theorem dX2_init_14 : decode cX2_init 14 = .ok (.istore_n 1, 1) := by decide +kernel
theorem dX2_init_15 : decode cX2_init 15 = .ok (.iload_n 1, 1) := by decide +kernel
theorem dX2_init_16 : decode cX2_init 16 = .ok (.bipush 12, 2) := by decide +kernel
theorem dX2_init_18 : decode cX2_init 18 = .ok (.if_icmp .ge 22, 3) := by decide +kernel
theorem dX2_init_21 : decode cX2_init 21 = .ok (.aload_n 0, 1) := by decide +kernel
theorem dX2_init_22 : decode cX2_init 22 = .ok (.getfield 11, 3) := by decide +kernel
theorem dX2_init_25 : decode cX2_init 25 = .ok (.iload_n 1, 1) := by decide +kernel
theorem dX2_init_26 : decode cX2_init 26 = .ok (.new 9, 3) := by decide +kernel
theorem dX2_init_29 : decode cX2_init 29 = .ok (.dup, 1) := by decide +kernel
theorem dX2_init_30 : decode cX2_init 30 = .ok (.invokespecial 17, 3) := by decide +kernel
theorem dX2_init_33 : decode cX2_init 33 = .ok (.aastore, 1) := by decide +kernel
theorem dX2_init_34 : decode cX2_init 34 = .ok (.iinc 1 1, 3) := by decide +kernel
theorem dX2_init_37 : decode cX2_init 37 = .ok (.goto (-22), 3) := by decide +kernel
theorem dX2_init_40 : decode cX2_init 40 = .ok (.return_, 1) := by decide +kernel
theorem dX2_push_0 : decode cX2_push 0 = .ok (.aload_n 0, 1) := by decide +kernel
theorem dX2_push_1 : decode cX2_push 1 = .ok (.getfield 18, 3) := by decide +kernel
theorem dX2_push_4 : decode cX2_push 4 = .ok (.bipush 12, 2) := by decide +kernel
theorem dX2_push_6 : decode cX2_push 6 = .ok (.if_icmp .lt 52, 3) := by decide +kernel
theorem dX2_push_9 : decode cX2_push 9 = .ok (.aload_n 0, 1) := by decide +kernel
theorem dX2_push_10 : decode cX2_push 10 = .ok (.getfield 11, 3) := by decide +kernel
theorem dX2_push_13 : decode cX2_push 13 = .ok (.iconst 0, 1) := by decide +kernel
theorem dX2_push_14 : decode cX2_push 14 = .ok (.aaload, 1) := by decide +kernel
theorem dX2_push_15 : decode cX2_push 15 = .ok (.astore_n 2, 1) := by decide +kernel
theorem dX2_push_16 : decode cX2_push 16 = .ok (.iconst 1, 1) := by decide +kernel
theorem dX2_push_17 : decode cX2_push 17 = .ok (.istore_n 3, 1) := by decide +kernel
theorem dX2_push_18 : decode cX2_push 18 = .ok (.iload_n 3, 1) := by decide +kernel
theorem dX2_push_19 : decode cX2_push 19 = .ok (.bipush 12, 2) := by decide +kernel
theorem dX2_push_21 : decode cX2_push 21 = .ok (.if_icmp .ge 23, 3) := by decide +kernel
theorem dX2_push_24 : decode cX2_push 24 = .ok (.aload_n 0, 1) := by decide +kernel
theorem dX2_push_25 : decode cX2_push 25 = .ok (.getfield 11, 3) := by decide +kernel
theorem dX2_push_28 : decode cX2_push 28 = .ok (.iload_n 3, 1) := by decide +kernel
theorem dX2_push_29 : decode cX2_push 29 = .ok (.iconst 1, 1) := by decide +kernel
theorem dX2_push_30 : decode cX2_push 30 = .ok (.isub, 1) := by decide +kernel
theorem dX2_push_31 : decode cX2_push 31 = .ok (.aload_n 0, 1) := by decide +kernel
theorem dX2_push_32 : decode cX2_push 32 = .ok (.getfield 11, 3) := by decide +kernel
theorem dX2_push_35 : decode cX2_push 35 = .ok (.iload_n 3, 1) := by decide +kernel
theorem dX2_push_36 : decode cX2_push 36 = .ok (.aaload, 1) := by decide +kernel
theorem dX2_push_37 : decode cX2_push 37 = .ok (.aastore, 1) := by decide +kernel
theorem dX2_push_38 : decode cX2_push 38 = .ok (.iinc 3 1, 3) := by decide +kernel
theorem dX2_push_41 : decode cX2_push 41 = .ok (.goto (-23), 3) := by decide +kernel
theorem dX2_push_44 : decode cX2_push 44 = .ok (.aload_n 0, 1) := by decide +kernel
theorem dX2_push_45 : decode cX2_push 45 = .ok (.getfield 11, 3) := by decide +kernel
theorem dX2_push_48 : decode cX2_push 48 = .ok (.bipush 11, 2) := by decide +kernel
theorem dX2_push_50 : decode cX2_push 50 = .ok (.aload_n 2, 1) := by decide +kernel
theorem dX2_push_51 : decode cX2_push 51 = .ok (.aastore, 1) := by decide +kernel
theorem dX2_push_52 : decode cX2_push 52 = .ok (.aload_n 0, 1) := by decide +kernel
theorem dX2_push_53 : decode cX2_push 53 = .ok (.bipush 11, 2) := by decide +kernel
theorem dX2_push_55 : decode cX2_push 55 = .ok (.putfield 18, 3) := by decide +kernel
theorem dX2_push_58 : decode cX2_push 58 = .ok (.aload_n 0, 1) := by decide +kernel
theorem dX2_push_59 : decode cX2_push 59 = .ok (.getfield 11, 3) := by decide +kernel
theorem dX2_push_62 : decode cX2_push 62 = .ok (.aload_n 0, 1) := by decide +kernel
theorem dX2_push_63 : decode cX2_push 63 = .ok (.getfield 18, 3) := by decide +kernel
theorem dX2_push_66 : decode cX2_push 66 = .ok (.aaload, 1) := by decide +kernel
theorem dX2_push_67 : decode cX2_push 67 = .ok (.aload_n 1, 1) := by decide +kernel
theorem dX2_push_68 : decode cX2_push 68 = .ok (.invokevirtual 22, 3) := by decide +kernel
theorem dX2_push_71 : decode cX2_push 71 = .ok (.aload_n 0, 1) := by decide +kernel
theorem dX2_push_72 : decode cX2_push 72 = .ok (.dup, 1) := by decide +kernel
theorem dX2_push_73 : decode cX2_push 73 = .ok (.getfield 18, 3) := by decide +kernel
theorem dX2_push_76 : decode cX2_push 76 = .ok (.iconst 1, 1) := by decide +kernel
theorem dX2_push_77 : decode cX2_push 77 = .ok (.iadd, 1) := by decide +kernel
theorem dX2_push_78 : decode cX2_push 78 = .ok (.putfield 18, 3) := by decide +kernel
theorem dX2_push_81 : decode cX2_push 81 = .ok (.return_, 1) := by decide +kernel
theorem dX2_pop_0 : decode cX2_pop 0 = .ok (.aload_n 0, 1) := by decide +kernel
theorem dX2_pop_1 : decode cX2_pop 1 = .ok (.getfield 18, 3) := by decide +kernel
theorem dX2_pop_4 : decode cX2_pop 4 = .ok (.ifCond .gt 5, 3) := by decide +kernel
theorem dX2_pop_7 : decode cX2_pop 7 = .ok (.iconst 0, 1) := by decide +kernel
theorem dX2_pop_8 : decode cX2_pop 8 = .ok (.ireturn, 1) := by decide +kernel
theorem dX2_pop_9 : decode cX2_pop 9 = .ok (.aload_n 0, 1) := by decide +kernel
theorem dX2_pop_10 : decode cX2_pop 10 = .ok (.dup, 1) := by decide +kernel
theorem dX2_pop_11 : decode cX2_pop 11 = .ok (.getfield 18, 3) := by decide +kernel
theorem dX2_pop_14 : decode cX2_pop 14 = .ok (.iconst 1, 1) := by decide +kernel
theorem dX2_pop_15 : decode cX2_pop 15 = .ok (.isub, 1) := by decide +kernel
theorem dX2_pop_16 : decode cX2_pop 16 = .ok (.putfield 18, 3) := by decide +kernel
theorem dX2_pop_19 : decode cX2_pop 19 = .ok (.aload_n 1, 1) := by decide +kernel
theorem dX2_pop_20 : decode cX2_pop 20 = .ok (.aload_n 0, 1) := by decide +kernel
theorem dX2_pop_21 : decode cX2_pop 21 = .ok (.getfield 11, 3) := by decide +kernel
theorem dX2_pop_24 : decode cX2_pop 24 = .ok (.aload_n 0, 1) := by decide +kernel
theorem dX2_pop_25 : decode cX2_pop 25 = .ok (.getfield 18, 3) := by decide +kernel
theorem dX2_pop_28 : decode cX2_pop 28 = .ok (.aaload, 1) := by decide +kernel
theorem dX2_pop_29 : decode cX2_pop 29 = .ok (.invokevirtual 22, 3) := by decide +kernel
theorem dX2_pop_32 : decode cX2_pop 32 = .ok (.iconst 1, 1) := by decide +kernel
theorem dX2_pop_33 : decode cX2_pop 33 = .ok (.ireturn, 1) := by decide +kernel
theorem dX3_init_0 : decode cX3_init 0 = .ok (.aload_n 0, 1) := by decide +kernel
theorem dX3_init_1 : decode cX3_init 1 = .ok (.invokespecial 3, 3) := by decide +kernel
theorem dX3_init_4 : decode cX3_init 4 = .ok (.aload_n 0, 1) := by decide +kernel
theorem dX3_init_5 : decode cX3_init 5 = .ok (.bipush 9, 2) := by decide +kernel
theorem dX3_init_7 : decode cX3_init 7 = .ok (.newarray .long, 2) := by decide +kernel
theorem dX3_init_9 : decode cX3_init 9 = .ok (.putfield 9, 3) := by decide +kernel
theorem dX3_init_12 : decode cX3_init 12 = .ok (.return_, 1) := by decide +kernel
theorem dX3_clear_0 : decode cX3_clear 0 = .ok (.aload_n 0, 1) := by decide +kernel
theorem dX3_clear_1 : decode cX3_clear 1 = .ok (.iconst 0, 1) := by decide +kernel
theorem dX3_clear_2 : decode cX3_clear 2 = .ok (.putfield 15, 3) := by decide +kernel
theorem dX3_clear_5 : decode cX3_clear 5 = .ok (.return_, 1) := by decide +kernel
theorem dX3_add_0 : decode cX3_add 0 = .ok (.aload_n 0, 1) := by decide +kernel
theorem dX3_add_1 : decode cX3_add 1 = .ok (.getfield 15, 3) := by decide +kernel
theorem dX3_add_4 : decode cX3_add 4 = .ok (.ifCond .lt 35, 3) := by decide +kernel
theorem dX3_add_7 : decode cX3_add 7 = .ok (.aload_n 0, 1) := by decide +kernel
theorem dX3_add_8 : decode cX3_add 8 = .ok (.getfield 15, 3) := by decide +kernel
theorem dX3_add_11 : decode cX3_add 11 = .ok (.aload_n 0, 1) := by decide +kernel
theorem dX3_add_12 : decode cX3_add 12 = .ok (.getfield 9, 3) := by decide +kernel
theorem dX3_add_15 : decode cX3_add 15 = .ok (.arraylength, 1) := by decide +kernel
theorem dX3_add_16 : decode cX3_add 16 = .ok (.if_icmp .ge 23, 3) := by decide +kernel
theorem dX3_add_19 : decode cX3_add 19 = .ok (.aload_n 0, 1) := by decide +kernel
theorem dX3_add_20 : decode cX3_add 20 = .ok (.getfield 9, 3) := by decide +kernel
theorem dX3_add_23 : decode cX3_add 23 = .ok (.aload_n 0, 1) := by decide +kernel
theorem dX3_add_24 : decode cX3_add 24 = .ok (.getfield 15, 3) := by decide +kernel
theorem dX3_add_27 : decode cX3_add 27 = .ok (.lload_n 1, 1) := by decide +kernel
theorem dX3_add_28 : decode cX3_add 28 = .ok (.lastore, 1) := by decide +kernel
theorem dX3_add_29 : decode cX3_add 29 = .ok (.aload_n 0, 1) := by decide +kernel
theorem dX3_add_30 : decode cX3_add 30 = .ok (.dup, 1) := by decide +kernel
theorem dX3_add_31 : decode cX3_add 31 = .ok (.getfield 15, 3) := by decide +kernel
theorem dX3_add_34 : decode cX3_add 34 = .ok (.iconst 1, 1) := by decide +kernel
theorem dX3_add_35 : decode cX3_add 35 = .ok (.iadd, 1) := by decide +kernel
theorem dX3_add_36 : decode cX3_add 36 = .ok (.putfield 15, 3) := by decide +kernel
theorem dX3_add_39 : decode cX3_add 39 = .ok (.return_, 1) := by decide +kernel
theorem dX3_tell_0 : decode cX3_tell 0 = .ok (.aload_n 0, 1) := by decide +kernel
theorem dX3_tell_1 : decode cX3_tell 1 = .ok (.invokevirtual 19, 3) := by decide +kernel
theorem dX3_tell_4 : decode cX3_tell 4 = .ok (.aload_n 0, 1) := by decide +kernel
theorem dX3_tell_5 : decode cX3_tell 5 = .ok (.lload_n 1, 1) := by decide +kernel
theorem dX3_tell_6 : decode cX3_tell 6 = .ok (.invokevirtual 22, 3) := by decide +kernel
theorem dX3_tell_9 : decode cX3_tell 9 = .ok (.return_, 1) := by decide +kernel
theorem dX3_tell__0 : decode cX3_tell_ 0 = .ok (.aload_n 0, 1) := by decide +kernel
theorem dX3_tell__1 : decode cX3_tell_ 1 = .ok (.invokevirtual 19, 3) := by decide +kernel
theorem dX3_tell__4 : decode cX3_tell_ 4 = .ok (.aload_n 0, 1) := by decide +kernel
theorem dX3_tell__5 : decode cX3_tell_ 5 = .ok (.lload_n 1, 1) := by decide +kernel
theorem dX3_tell__6 : decode cX3_tell_ 6 = .ok (.invokevirtual 22, 3) := by decide +kernel
theorem dX3_tell__9 : decode cX3_tell_ 9 = .ok (.aload_n 0, 1) := by decide +kernel
theorem dX3_tell__10 : decode cX3_tell_ 10 = .ok (.lload_n 3, 1) := by decide +kernel
theorem dX3_tell__11 : decode cX3_tell_ 11 = .ok (.invokevirtual 22, 3) := by decide +kernel
theorem dX3_tell__14 : decode cX3_tell_ 14 = .ok (.return_, 1) := by decide +kernel
theorem dX4_init_0 : decode cX4_init 0 = .ok (.aload_n 0, 1) := by decide +kernel
theorem dX4_init_1 : decode cX4_init 1 = .ok (.invokespecial 3, 3) := by decide +kernel
theorem dX4_init_4 : decode cX4_init 4 = .ok (.aload_n 0, 1) := by decide +kernel
theorem dX4_init_5 : decode cX4_init 5 = .ok (.bipush 40, 2) := by decide +kernel
theorem dX4_init_7 : decode cX4_init 7 = .ok (.newarray .int, 2) := by decide +kernel
theorem dX4_init_9 : decode cX4_init 9 = .ok (.putfield 9, 3) := by decide +kernel
theorem dX4_init_12 : decode cX4_init 12 = .ok (.aload_n 0, 1) := by decide +kernel
theorem dX4_init_13 : decode cX4_init 13 = .ok (.bipush 40, 2) := by decide +kernel
theorem dX4_init_15 : decode cX4_init 15 = .ok (.newarray .int, 2) := by decide +kernel
theorem dX4_init_17 : decode cX4_init 17 = .ok (.putfield 15, 3) := by decide +kernel
theorem dX4_init_20 : decode cX4_init 20 = .ok (.aload_n 0, 1) := by decide +kernel
theorem dX4_init_21 : decode cX4_init 21 = .ok (.bipush 40, 2) := by decide +kernel
theorem dX4_init_23 : decode cX4_init 23 = .ok (.newarray .int, 2) := by decide +kernel
theorem dX4_init_25 : decode cX4_init 25 = .ok (.putfield 18, 3) := by decide +kernel
theorem dX4_init_28 : decode cX4_init 28 = .ok (.aload_n 0, 1) := by decide +kernel
theorem dX4_init_29 : decode cX4_init 29 = .ok (.ldc 21, 2) := by decide +kernel
theorem dX4_init_31 : decode cX4_init 31 = .ok (.invokevirtual 23, 3) := by decide +kernel
theorem dX4_init_34 : decode cX4_init 34 = .ok (.newarray .int, 2) := by decide +kernel
theorem dX4_init_36 : decode cX4_init 36 = .ok (.putfield 29, 3) := by decide +kernel
theorem dX4_init_39 : decode cX4_init 39 = .ok (.return_, 1) := by decide +kernel
theorem dX4_read_0 : decode cX4_read 0 = .ok (.aload_n 0, 1) := by decide +kernel
theorem dX4_read_1 : decode cX4_read 1 = .ok (.iconst 0, 1) := by decide +kernel
theorem dX4_read_2 : decode cX4_read 2 = .ok (.putfield 32, 3) := by decide +kernel
theorem dX4_read_5 : decode cX4_read 5 = .ok (.aload_n 0, 1) := by decide +kernel
theorem dX4_read_6 : decode cX4_read 6 = .ok (.iconst 0, 1) := by decide +kernel
theorem dX4_read_7 : decode cX4_read 7 = .ok (.putfield 36, 3) := by decide +kernel
theorem dX4_read_10 : decode cX4_read 10 = .ok (.aload_n 0, 1) := by decide +kernel
theorem dX4_read_11 : decode cX4_read 11 = .ok (.iconst 0, 1) := by decide +kernel
theorem dX4_read_12 : decode cX4_read 12 = .ok (.putfield 39, 3) := by decide +kernel
theorem dX4_read_15 : decode cX4_read 15 = .ok (.aload_n 0, 1) := by decide +kernel
theorem dX4_read_16 : decode cX4_read 16 = .ok (.iconst 0, 1) := by decide +kernel
theorem dX4_read_17 : decode cX4_read 17 = .ok (.putfield 42, 3) := by decide +kernel
theorem dX4_read_20 : decode cX4_read 20 = .ok (.aload_n 0, 1) := by decide +kernel
theorem dX4_read_21 : decode cX4_read 21 = .ok (.iconst 1, 1) := by decide +kernel
theorem dX4_read_22 : decode cX4_read 22 = .ok (.putfield 45, 3) := by decide +kernel
theorem dX4_read_25 : decode cX4_read 25 = .ok (.aload_n 1, 1) := by decide +kernel
theorem dX4_read_26 : decode cX4_read 26 = .ok (.getfield 49, 3) := by decide +kernel
theorem dX4_read_29 : decode cX4_read 29 = .ok (.bipush 40, 2) := by decide +kernel
theorem dX4_read_31 : decode cX4_read 31 = .ok (.invokestatic 52, 3) := by decide +kernel
theorem dX4_read_34 : decode cX4_read 34 = .ok (.istore_n 2, 1) := by decide +kernel
theorem dX4_read_35 : decode cX4_read 35 = .ok (.iconst 0, 1) := by decide +kernel
theorem dX4_read_36 : decode cX4_read 36 = .ok (.istore_n 3, 1) := by decide +kernel
theorem dX4_read_37 : decode cX4_read 37 = .ok (.iload_n 3, 1) := by decide +kernel
theorem dX4_read_38 : decode cX4_read 38 = .ok (.iload_n 2, 1) := by decide +kernel
theorem dX4_read_39 : decode cX4_read 39 = .ok (.if_icmp .ge 55, 3) := by decide +kernel
theorem dX4_read_42 : decode cX4_read 42 = .ok (.aload_n 0, 1) := by decide +kernel
theorem dX4_read_43 : decode cX4_read 43 = .ok (.getfield 45, 3) := by decide +kernel
theorem dX4_read_46 : decode cX4_read 46 = .ok (.ifCond .eq 23, 3) := by decide +kernel
theorem dX4_read_49 : decode cX4_read 49 = .ok (.aload_n 0, 1) := by decide +kernel
theorem dX4_read_50 : decode cX4_read 50 = .ok (.aload_n 1, 1) := by decide +kernel
theorem dX4_read_51 : decode cX4_read 51 = .ok (.iload_n 3, 1) := by decide +kernel
theorem dX4_read_52 : decode cX4_read 52 = .ok (.invokevirtual 58, 3) := by decide +kernel
theorem dX4_read_55 : decode cX4_read 55 = .ok (.aload_n 1, 1) := by decide +kernel
theorem dX4_read_56 : decode cX4_read 56 = .ok (.iload_n 3, 1) := by decide +kernel
theorem dX4_read_57 : decode cX4_read 57 = .ok (.invokevirtual 62, 3) := by decide +kernel
theorem dX4_read_60 : decode cX4_read 60 = .ok (.invokevirtual 65, 3) := by decide +kernel
theorem dX4_read_63 : decode cX4_read 63 = .ok (.ifCond .eq 23, 3) := by decide +kernel
theorem dX4_read_66 : decode cX4_read 66 = .ok (.goto 22, 3) := by decide +kernel
theorem dX4_read_69 : decode cX4_read 69 = .ok (.aload_n 0, 1) := by decide +kernel
theorem dX4_read_70 : decode cX4_read 70 = .ok (.aload_n 1, 1) := by decide +kernel
theorem dX4_read_71 : decode cX4_read 71 = .ok (.iload_n 3, 1) := by decide +kernel
theorem dX4_read_72 : decode cX4_read 72 = .ok (.invokevirtual 58, 3) := by decide +kernel
theorem dX4_read_75 : decode cX4_read 75 = .ok (.aload_n 1, 1) := by decide +kernel
theorem dX4_read_76 : decode cX4_read 76 = .ok (.iload_n 3, 1) := by decide +kernel
theorem dX4_read_77 : decode cX4_read 77 = .ok (.invokevirtual 62, 3) := by decide +kernel
theorem dX4_read_80 : decode cX4_read 80 = .ok (.invokevirtual 69, 3) := by decide +kernel
theorem dX4_read_83 : decode cX4_read 83 = .ok (.ifCond .ne 5, 3) := by decide +kernel
theorem dX4_read_86 : decode cX4_read 86 = .ok (.iload_n 3, 1) := by decide +kernel
theorem dX4_read_87 : decode cX4_read 87 = .ok (.ireturn, 1) := by decide +kernel
theorem dX4_read_88 : decode cX4_read 88 = .ok (.iinc 3 1, 3) := by decide +kernel
theorem dX4_read_91 : decode cX4_read 91 = .ok (.goto (-54), 3) := by decide +kernel
theorem dX4_read_94 : decode cX4_read 94 = .ok (.iload_n 2, 1) := by decide +kernel
theorem dX4_read_95 : decode cX4_read 95 = .ok (.ifCond .le 19, 3) := by decide +kernel
theorem dX4_read_98 : decode cX4_read 98 = .ok (.aload_n 0, 1) := by decide +kernel
theorem dX4_read_99 : decode cX4_read 99 = .ok (.getfield 45, 3) := by decide +kernel
theorem dX4_read_102 : decode cX4_read 102 = .ok (.ifCond .ne 10, 3) := by decide +kernel
theorem dX4_read_105 : decode cX4_read 105 = .ok (.aload_n 0, 1) := by decide +kernel
theorem dX4_read_106 : decode cX4_read 106 = .ok (.getfield 39, 3) := by decide +kernel
theorem dX4_read_109 : decode cX4_read 109 = .ok (.ifCond .le 5, 3) := by decide +kernel
theorem dX4_read_112 : decode cX4_read 112 = .ok (.iload_n 2, 1) := by decide +kernel
theorem dX4_read_113 : decode cX4_read 113 = .ok (.ireturn, 1) := by decide +kernel
theorem dX4_read_114 : decode cX4_read 114 = .ok (.aload_n 0, 1) := by decide +kernel
theorem dX4_read_115 : decode cX4_read 115 = .ok (.iconst 0, 1) := by decide +kernel
theorem dX4_read_116 : decode cX4_read 116 = .ok (.invokevirtual 72, 3) := by decide +kernel
theorem dX4_read_119 : decode cX4_read 119 = .ok (.aload_n 1, 1) := by decide +kernel
theorem dX4_read_120 : decode cX4_read 120 = .ok (.getfield 49, 3) := by decide +kernel
theorem dX4_read_123 : decode cX4_read 123 = .ok (.bipush 40, 2) := by decide +kernel
theorem dX4_read_125 : decode cX4_read 125 = .ok (.if_icmp .le 8, 3) := by decide +kernel
theorem dX4_read_128 : decode cX4_read 128 = .ok (.bipush 40, 2) := by decide +kernel
theorem dX4_read_130 : decode cX4_read 130 = .ok (.goto 4, 3) := by decide +kernel
theorem dX4_read_133 : decode cX4_read 133 = .ok (.iconst (-1), 1) := by decide +kernel
theorem dX4_read_134 : decode cX4_read 134 = .ok (.ireturn, 1) := by decide +kernel
theorem dX4_readThing_0 : decode cX4_readThing 0 = .ok (.iload_n 1, 1) := by decide +kernel
theorem dX4_readThing_1 : decode cX4_readThing 1 = .ok (.bipush 45, 2) := by decide +kernel
theorem dX4_readThing_3 : decode cX4_readThing 3 = .ok (.if_icmp .ne 12, 3) := by decide +kernel
theorem dX4_readThing_6 : decode cX4_readThing 6 = .ok (.aload_n 0, 1) := by decide +kernel
theorem dX4_readThing_7 : decode cX4_readThing 7 = .ok (.sipush 256, 3) := by decide +kernel
theorem dX4_readThing_10 : decode cX4_readThing 10 = .ok (.invokevirtual 76, 3) := by decide +kernel
theorem dX4_readThing_13 : decode cX4_readThing 13 = .ok (.iconst 1, 1) := by decide +kernel
theorem dX4_readThing_14 : decode cX4_readThing 14 = .ok (.ireturn, 1) := by decide +kernel
theorem dX4_readThing_15 : decode cX4_readThing 15 = .ok (.iload_n 1, 1) := by decide +kernel
theorem dX4_readThing_16 : decode cX4_readThing 16 = .ok (.bipush 40, 2) := by decide +kernel
theorem dX4_readThing_18 : decode cX4_readThing 18 = .ok (.if_icmp .ne 47, 3) := by decide +kernel
theorem dX4_readThing_21 : decode cX4_readThing 21 = .ok (.aload_n 0, 1) := by decide +kernel
theorem dX4_readThing_22 : decode cX4_readThing 22 = .ok (.getfield 39, 3) := by decide +kernel
theorem dX4_readThing_25 : decode cX4_readThing 25 = .ok (.iconst 4, 1) := by decide +kernel
theorem dX4_readThing_26 : decode cX4_readThing 26 = .ok (.if_icmp .lt 5, 3) := by decide +kernel
theorem dX4_readThing_29 : decode cX4_readThing 29 = .ok (.iconst 0, 1) := by decide +kernel
theorem dX4_readThing_30 : decode cX4_readThing 30 = .ok (.ireturn, 1) := by decide +kernel
theorem dX4_readThing_31 : decode cX4_readThing 31 = .ok (.aload_n 0, 1) := by decide +kernel
theorem dX4_readThing_32 : decode cX4_readThing 32 = .ok (.dup, 1) := by decide +kernel
theorem dX4_readThing_33 : decode cX4_readThing 33 = .ok (.getfield 39, 3) := by decide +kernel
theorem dX4_readThing_36 : decode cX4_readThing 36 = .ok (.iconst 1, 1) := by decide +kernel
theorem dX4_readThing_37 : decode cX4_readThing 37 = .ok (.iadd, 1) := by decide +kernel
theorem dX4_readThing_38 : decode cX4_readThing 38 = .ok (.putfield 39, 3) := by decide +kernel
theorem dX4_readThing_41 : decode cX4_readThing 41 = .ok (.aload_n 0, 1) := by decide +kernel
theorem dX4_readThing_42 : decode cX4_readThing 42 = .ok (.dup, 1) := by decide +kernel
theorem dX4_readThing_43 : decode cX4_readThing 43 = .ok (.getfield 42, 3) := by decide +kernel
theorem dX4_readThing_46 : decode cX4_readThing 46 = .ok (.iconst 1, 1) := by decide +kernel
theorem dX4_readThing_47 : decode cX4_readThing 47 = .ok (.aload_n 0, 1) := by decide +kernel
theorem dX4_readThing_48 : decode cX4_readThing 48 = .ok (.getfield 39, 3) := by decide +kernel
theorem dX4_readThing_51 : decode cX4_readThing 51 = .ok (.ishl, 1) := by decide +kernel
theorem dX4_readThing_52 : decode cX4_readThing 52 = .ok (.iconst (-1), 1) := by decide +kernel
theorem dX4_readThing_53 : decode cX4_readThing 53 = .ok (.ixor, 1) := by decide +kernel
theorem dX4_readThing_54 : decode cX4_readThing 54 = .ok (.iand, 1) := by decide +kernel
theorem dX4_readThing_55 : decode cX4_readThing 55 = .ok (.putfield 42, 3) := by decide +kernel
theorem dX4_readThing_58 : decode cX4_readThing 58 = .ok (.aload_n 0, 1) := by decide +kernel
theorem dX4_readThing_59 : decode cX4_readThing 59 = .ok (.iload_n 1, 1) := by decide +kernel
theorem dX4_readThing_60 : decode cX4_readThing 60 = .ok (.invokevirtual 76, 3) := by decide +kernel
theorem dX4_readThing_63 : decode cX4_readThing 63 = .ok (.iconst 1, 1) := by decide +kernel
theorem dX4_readThing_64 : decode cX4_readThing 64 = .ok (.ireturn, 1) := by decide +kernel
theorem dX4_readThing_65 : decode cX4_readThing 65 = .ok (.ldc 21, 2) := by decide +kernel
theorem dX4_readThing_67 : decode cX4_readThing 67 = .ok (.iload_n 1, 1) := by decide +kernel
theorem dX4_readThing_68 : decode cX4_readThing 68 = .ok (.i2c, 1) := by decide +kernel
theorem dX4_readThing_69 : decode cX4_readThing 69 = .ok (.invokevirtual 79, 3) := by decide +kernel
theorem dX4_readThing_72 : decode cX4_readThing 72 = .ok (.istore_n 3, 1) := by decide +kernel
theorem dX4_readThing_73 : decode cX4_readThing 73 = .ok (.iload_n 2, 1) := by decide +kernel
theorem dX4_readThing_74 : decode cX4_readThing 74 = .ok (.ifCond .ge 9, 3) := by decide +kernel
theorem dX4_readThing_77 : decode cX4_readThing 77 = .ok (.iload_n 3, 1) := by decide +kernel
theorem dX4_readThing_78 : decode cX4_readThing 78 = .ok (.ifCond .ge 5, 3) := by decide +kernel
theorem dX4_readThing_81 : decode cX4_readThing 81 = .ok (.iconst 0, 1) := by decide +kernel
theorem dX4_readThing_82 : decode cX4_readThing 82 = .ok (.ireturn, 1) := by decide +kernel
theorem dX4_readThing_83 : decode cX4_readThing 83 = .ok (.aload_n 0, 1) := by decide +kernel
theorem dX4_readThing_84 : decode cX4_readThing 84 = .ok (.iload_n 2, 1) := by decide +kernel
theorem dX4_readThing_85 : decode cX4_readThing 85 = .ok (.ifCond .lt 7, 3) := by decide +kernel
theorem dX4_readThing_88 : decode cX4_readThing 88 = .ok (.iload_n 2, 1) := by decide +kernel
theorem dX4_readThing_89 : decode cX4_readThing 89 = .ok (.goto 6, 3) := by decide +kernel
theorem dX4_readThing_92 : decode cX4_readThing 92 = .ok (.iconst (-1), 1) := by decide +kernel
theorem dX4_readThing_93 : decode cX4_readThing 93 = .ok (.iload_n 3, 1) := by decide +kernel
theorem dX4_readThing_94 : decode cX4_readThing 94 = .ok (.isub, 1) := by decide +kernel
theorem dX4_readThing_95 : decode cX4_readThing 95 = .ok (.invokevirtual 82, 3) := by decide +kernel
theorem dX4_readThing_98 : decode cX4_readThing 98 = .ok (.aload_n 0, 1) := by decide +kernel
theorem dX4_readThing_99 : decode cX4_readThing 99 = .ok (.iload_n 2, 1) := by decide +kernel
theorem dX4_readThing_100 : decode cX4_readThing 100 = .ok (.ifCond .lt 7, 3) := by decide +kernel
theorem dX4_readThing_103 : decode cX4_readThing 103 = .ok (.iconst 1, 1) := by decide +kernel
theorem dX4_readThing_104 : decode cX4_readThing 104 = .ok (.goto 4, 3) := by decide +kernel
theorem dX4_readThing_107 : decode cX4_readThing 107 = .ok (.iconst 3, 1) := by decide +kernel
theorem dX4_readThing_108 : decode cX4_readThing 108 = .ok (.putfield 85, 3) := by decide +kernel
theorem dX4_readThing_111 : decode cX4_readThing 111 = .ok (.aload_n 0, 1) := by decide +kernel
theorem dX4_readThing_112 : decode cX4_readThing 112 = .ok (.iconst 0, 1) := by decide +kernel
theorem dX4_readThing_113 : decode cX4_readThing 113 = .ok (.putfield 45, 3) := by decide +kernel
theorem dX4_readThing_116 : decode cX4_readThing 116 = .ok (.iconst 1, 1) := by decide +kernel
theorem dX4_readThing_117 : decode cX4_readThing 117 = .ok (.ireturn, 1) := by decide +kernel
theorem dX4_readNext_0 : decode cX4_readNext 0 = .ok (.iload_n 2, 1) := by decide +kernel
theorem dX4_readNext_1 : decode cX4_readNext 1 = .ok (.ifCond .lt 9, 3) := by decide +kernel
theorem dX4_readNext_4 : decode cX4_readNext 4 = .ok (.aload_n 0, 1) := by decide +kernel
theorem dX4_readNext_5 : decode cX4_readNext 5 = .ok (.iload_n 2, 1) := by decide +kernel
theorem dX4_readNext_6 : decode cX4_readNext 6 = .ok (.invokevirtual 88, 3) := by decide +kernel
theorem dX4_readNext_9 : decode cX4_readNext 9 = .ok (.ireturn, 1) := by decide +kernel
theorem dX4_readNext_10 : decode cX4_readNext 10 = .ok (.iload_n 1, 1) := by decide +kernel
theorem dX4_readNext_11 : decode cX4_readNext 11 = .ok (.bipush 41, 2) := by decide +kernel
theorem dX4_readNext_13 : decode cX4_readNext 13 = .ok (.if_icmp .ne 8, 3) := by decide +kernel
theorem dX4_readNext_16 : decode cX4_readNext 16 = .ok (.aload_n 0, 1) := by decide +kernel
theorem dX4_readNext_17 : decode cX4_readNext 17 = .ok (.invokevirtual 92, 3) := by decide +kernel
theorem dX4_readNext_20 : decode cX4_readNext 20 = .ok (.ireturn, 1) := by decide +kernel
theorem dX4_readNext_21 : decode cX4_readNext 21 = .ok (.iload_n 1, 1) := by decide +kernel
theorem dX4_readNext_22 : decode cX4_readNext 22 = .ok (.invokestatic 96, 3) := by decide +kernel
theorem dX4_readNext_25 : decode cX4_readNext 25 = .ok (.istore_n 3, 1) := by decide +kernel
theorem dX4_readNext_26 : decode cX4_readNext 26 = .ok (.iload_n 3, 1) := by decide +kernel
theorem dX4_readNext_27 : decode cX4_readNext 27 = .ok (.ifCond .eq 22, 3) := by decide +kernel
theorem dX4_readNext_30 : decode cX4_readNext 30 = .ok (.iload_n 3, 1) := by decide +kernel
theorem dX4_readNext_31 : decode cX4_readNext 31 = .ok (.iconst 1, 1) := by decide +kernel
theorem dX4_readNext_32 : decode cX4_readNext 32 = .ok (.if_icmp .ne 19, 3) := by decide +kernel
theorem dX4_readNext_35 : decode cX4_readNext 35 = .ok (.aload_n 0, 1) := by decide +kernel
theorem dX4_readNext_36 : decode cX4_readNext 36 = .ok (.getfield 42, 3) := by decide +kernel
theorem dX4_readNext_39 : decode cX4_readNext 39 = .ok (.aload_n 0, 1) := by decide +kernel
theorem dX4_readNext_40 : decode cX4_readNext 40 = .ok (.getfield 39, 3) := by decide +kernel
theorem dX4_readNext_43 : decode cX4_readNext 43 = .ok (.ishr, 1) := by decide +kernel
theorem dX4_readNext_44 : decode cX4_readNext 44 = .ok (.iconst 1, 1) := by decide +kernel
theorem dX4_readNext_45 : decode cX4_readNext 45 = .ok (.iand, 1) := by decide +kernel
theorem dX4_readNext_46 : decode cX4_readNext 46 = .ok (.ifCond .eq 5, 3) := by decide +kernel
theorem dX4_readNext_49 : decode cX4_readNext 49 = .ok (.iconst 0, 1) := by decide +kernel
theorem dX4_readNext_50 : decode cX4_readNext 50 = .ok (.ireturn, 1) := by decide +kernel
theorem dX4_readNext_51 : decode cX4_readNext 51 = .ok (.iload_n 3, 1) := by decide +kernel
theorem dX4_readNext_52 : decode cX4_readNext 52 = .ok (.iconst 1, 1) := by decide +kernel
theorem dX4_readNext_53 : decode cX4_readNext 53 = .ok (.if_icmp .ne 18, 3) := by decide +kernel
theorem dX4_readNext_56 : decode cX4_readNext 56 = .ok (.aload_n 0, 1) := by decide +kernel
theorem dX4_readNext_57 : decode cX4_readNext 57 = .ok (.dup, 1) := by decide +kernel
theorem dX4_readNext_58 : decode cX4_readNext 58 = .ok (.getfield 42, 3) := by decide +kernel
theorem dX4_readNext_61 : decode cX4_readNext 61 = .ok (.iconst 1, 1) := by decide +kernel
theorem dX4_readNext_62 : decode cX4_readNext 62 = .ok (.aload_n 0, 1) := by decide +kernel
theorem dX4_readNext_63 : decode cX4_readNext 63 = .ok (.getfield 39, 3) := by decide +kernel
theorem dX4_readNext_66 : decode cX4_readNext 66 = .ok (.ishl, 1) := by decide +kernel
theorem dX4_readNext_67 : decode cX4_readNext 67 = .ok (.ior, 1) := by decide +kernel
theorem dX4_readNext_68 : decode cX4_readNext 68 = .ok (.putfield 42, 3) := by decide +kernel
theorem dX4_readNext_71 : decode cX4_readNext 71 = .ok (.aload_n 0, 1) := by decide +kernel
theorem dX4_readNext_72 : decode cX4_readNext 72 = .ok (.iload_n 3, 1) := by decide +kernel
theorem dX4_readNext_73 : decode cX4_readNext 73 = .ok (.invokevirtual 72, 3) := by decide +kernel
theorem dX4_readNext_76 : decode cX4_readNext 76 = .ok (.aload_n 0, 1) := by decide +kernel
theorem dX4_readNext_77 : decode cX4_readNext 77 = .ok (.iload_n 1, 1) := by decide +kernel
theorem dX4_readNext_78 : decode cX4_readNext 78 = .ok (.invokevirtual 76, 3) := by decide +kernel
theorem dX4_readNext_81 : decode cX4_readNext 81 = .ok (.aload_n 0, 1) := by decide +kernel
theorem dX4_readNext_82 : decode cX4_readNext 82 = .ok (.iconst 1, 1) := by decide +kernel
theorem dX4_readNext_83 : decode cX4_readNext 83 = .ok (.putfield 45, 3) := by decide +kernel
theorem dX4_readNext_86 : decode cX4_readNext 86 = .ok (.iconst 1, 1) := by decide +kernel
theorem dX4_readNext_87 : decode cX4_readNext 87 = .ok (.ireturn, 1) := by decide +kernel
theorem dX4_readDigit_0 : decode cX4_readDigit 0 = .ok (.aload_n 0, 1) := by decide +kernel
theorem dX4_readDigit_1 : decode cX4_readDigit 1 = .ok (.getfield 85, 3) := by decide +kernel
theorem dX4_readDigit_4 : decode cX4_readDigit 4 = .ok (.iconst 3, 1) := by decide +kernel
theorem dX4_readDigit_5 : decode cX4_readDigit 5 = .ok (.if_icmp .ge 10, 3) := by decide +kernel
theorem dX4_readDigit_8 : decode cX4_readDigit 8 = .ok (.aload_n 0, 1) := by decide +kernel
theorem dX4_readDigit_9 : decode cX4_readDigit 9 = .ok (.getfield 32, 3) := by decide +kernel
theorem dX4_readDigit_12 : decode cX4_readDigit 12 = .ok (.ifCond .gt 5, 3) := by decide +kernel
theorem dX4_readDigit_15 : decode cX4_readDigit 15 = .ok (.iconst 0, 1) := by decide +kernel
theorem dX4_readDigit_16 : decode cX4_readDigit 16 = .ok (.ireturn, 1) := by decide +kernel
theorem dX4_readDigit_17 : decode cX4_readDigit 17 = .ok (.aload_n 0, 1) := by decide +kernel
theorem dX4_readDigit_18 : decode cX4_readDigit 18 = .ok (.getfield 9, 3) := by decide +kernel
theorem dX4_readDigit_21 : decode cX4_readDigit 21 = .ok (.aload_n 0, 1) := by decide +kernel
theorem dX4_readDigit_22 : decode cX4_readDigit 22 = .ok (.getfield 32, 3) := by decide +kernel
theorem dX4_readDigit_25 : decode cX4_readDigit 25 = .ok (.iconst 1, 1) := by decide +kernel
theorem dX4_readDigit_26 : decode cX4_readDigit 26 = .ok (.isub, 1) := by decide +kernel
theorem dX4_readDigit_27 : decode cX4_readDigit 27 = .ok (.aload_n 0, 1) := by decide +kernel
theorem dX4_readDigit_28 : decode cX4_readDigit 28 = .ok (.getfield 9, 3) := by decide +kernel
theorem dX4_readDigit_31 : decode cX4_readDigit 31 = .ok (.aload_n 0, 1) := by decide +kernel
theorem dX4_readDigit_32 : decode cX4_readDigit 32 = .ok (.getfield 32, 3) := by decide +kernel
theorem dX4_readDigit_35 : decode cX4_readDigit 35 = .ok (.iconst 1, 1) := by decide +kernel
theorem dX4_readDigit_36 : decode cX4_readDigit 36 = .ok (.isub, 1) := by decide +kernel
theorem dX4_readDigit_37 : decode cX4_readDigit 37 = .ok (.iaload, 1) := by decide +kernel
theorem dX4_readDigit_38 : decode cX4_readDigit 38 = .ok (.bipush 10, 2) := by decide +kernel
theorem dX4_readDigit_40 : decode cX4_readDigit 40 = .ok (.imul, 1) := by decide +kernel
theorem dX4_readDigit_41 : decode cX4_readDigit 41 = .ok (.iload_n 1, 1) := by decide +kernel
theorem dX4_readDigit_42 : decode cX4_readDigit 42 = .ok (.iadd, 1) := by decide +kernel
theorem dX4_readDigit_43 : decode cX4_readDigit 43 = .ok (.iastore, 1) := by decide +kernel
theorem dX4_readDigit_44 : decode cX4_readDigit 44 = .ok (.aload_n 0, 1) := by decide +kernel
theorem dX4_readDigit_45 : decode cX4_readDigit 45 = .ok (.dup, 1) := by decide +kernel
theorem dX4_readDigit_46 : decode cX4_readDigit 46 = .ok (.getfield 85, 3) := by decide +kernel
theorem dX4_readDigit_49 : decode cX4_readDigit 49 = .ok (.iconst 1, 1) := by decide +kernel
theorem dX4_readDigit_50 : decode cX4_readDigit 50 = .ok (.iadd, 1) := by decide +kernel
theorem dX4_readDigit_51 : decode cX4_readDigit 51 = .ok (.putfield 85, 3) := by decide +kernel
theorem dX4_readDigit_54 : decode cX4_readDigit 54 = .ok (.iconst 1, 1) := by decide +kernel
theorem dX4_readDigit_55 : decode cX4_readDigit 55 = .ok (.ireturn, 1) := by decide +kernel
theorem dX4_close_0 : decode cX4_close 0 = .ok (.aload_n 0, 1) := by decide +kernel
theorem dX4_close_1 : decode cX4_close 1 = .ok (.getfield 39, 3) := by decide +kernel
theorem dX4_close_4 : decode cX4_close 4 = .ok (.ifCond .ne 5, 3) := by decide +kernel
theorem dX4_close_7 : decode cX4_close 7 = .ok (.iconst 0, 1) := by decide +kernel
theorem dX4_close_8 : decode cX4_close 8 = .ok (.ireturn, 1) := by decide +kernel
theorem dX4_close_9 : decode cX4_close 9 = .ok (.aload_n 0, 1) := by decide +kernel
theorem dX4_close_10 : decode cX4_close 10 = .ok (.iconst 1, 1) := by decide +kernel
theorem dX4_close_11 : decode cX4_close 11 = .ok (.invokevirtual 72, 3) := by decide +kernel
theorem dX4_close_14 : decode cX4_close 14 = .ok (.aload_n 0, 1) := by decide +kernel
theorem dX4_close_15 : decode cX4_close 15 = .ok (.iconst 0, 1) := by decide +kernel
theorem dX4_close_16 : decode cX4_close 16 = .ok (.aload_n 0, 1) := by decide +kernel
theorem dX4_close_17 : decode cX4_close 17 = .ok (.getfield 36, 3) := by decide +kernel
theorem dX4_close_20 : decode cX4_close 20 = .ok (.iconst 1, 1) := by decide +kernel
theorem dX4_close_21 : decode cX4_close 21 = .ok (.isub, 1) := by decide +kernel
theorem dX4_close_22 : decode cX4_close 22 = .ok (.invokestatic 99, 3) := by decide +kernel
theorem dX4_close_25 : decode cX4_close 25 = .ok (.putfield 36, 3) := by decide +kernel
theorem dX4_close_28 : decode cX4_close 28 = .ok (.aload_n 0, 1) := by decide +kernel
theorem dX4_close_29 : decode cX4_close 29 = .ok (.dup, 1) := by decide +kernel
theorem dX4_close_30 : decode cX4_close 30 = .ok (.getfield 39, 3) := by decide +kernel
theorem dX4_close_33 : decode cX4_close 33 = .ok (.iconst 1, 1) := by decide +kernel
theorem dX4_close_34 : decode cX4_close 34 = .ok (.isub, 1) := by decide +kernel
theorem dX4_close_35 : decode cX4_close 35 = .ok (.putfield 39, 3) := by decide +kernel
theorem dX4_close_38 : decode cX4_close 38 = .ok (.aload_n 0, 1) := by decide +kernel
theorem dX4_close_39 : decode cX4_close 39 = .ok (.iconst 3, 1) := by decide +kernel
theorem dX4_close_40 : decode cX4_close 40 = .ok (.putfield 85, 3) := by decide +kernel
theorem dX4_close_43 : decode cX4_close 43 = .ok (.iconst 1, 1) := by decide +kernel
theorem dX4_close_44 : decode cX4_close 44 = .ok (.ireturn, 1) := by decide +kernel
theorem dX4_bindingOf_0 : decode cX4_bindingOf 0 = .ok (.iload_n 0, 1) := by decide +kernel
theorem dX4_bindingOf_1 : decode cX4_bindingOf 1 = .ok (.lookupswitch 83 #[(42, 79), (43, 77), (45, 77), (47, 79), (60, 75), (61, 75), (62, 75), (256, 81)], 75) := by decide +kernel
theorem dX4_bindingOf_76 : decode cX4_bindingOf 76 = .ok (.iconst 1, 1) := by decide +kernel
theorem dX4_bindingOf_77 : decode cX4_bindingOf 77 = .ok (.ireturn, 1) := by decide +kernel
theorem dX4_bindingOf_78 : decode cX4_bindingOf 78 = .ok (.iconst 2, 1) := by decide +kernel
theorem dX4_bindingOf_79 : decode cX4_bindingOf 79 = .ok (.ireturn, 1) := by decide +kernel
theorem dX4_bindingOf_80 : decode cX4_bindingOf 80 = .ok (.iconst 3, 1) := by decide +kernel
theorem dX4_bindingOf_81 : decode cX4_bindingOf 81 = .ok (.ireturn, 1) := by decide +kernel
theorem dX4_bindingOf_82 : decode cX4_bindingOf 82 = .ok (.iconst 4, 1) := by decide +kernel
theorem dX4_bindingOf_83 : decode cX4_bindingOf 83 = .ok (.ireturn, 1) := by decide +kernel
theorem dX4_bindingOf_84 : decode cX4_bindingOf 84 = .ok (.iconst 0, 1) := by decide +kernel
theorem dX4_bindingOf_85 : decode cX4_bindingOf 85 = .ok (.ireturn, 1) := by decide +kernel
theorem dX4_hold_0 : decode cX4_hold 0 = .ok (.aload_n 0, 1) := by decide +kernel
theorem dX4_hold_1 : decode cX4_hold 1 = .ok (.getfield 36, 3) := by decide +kernel
theorem dX4_hold_4 : decode cX4_hold 4 = .ok (.bipush 40, 2) := by decide +kernel
theorem dX4_hold_6 : decode cX4_hold 6 = .ok (.if_icmp .ge 23, 3) := by decide +kernel
theorem dX4_hold_9 : decode cX4_hold 9 = .ok (.aload_n 0, 1) := by decide +kernel
theorem dX4_hold_10 : decode cX4_hold 10 = .ok (.getfield 15, 3) := by decide +kernel
theorem dX4_hold_13 : decode cX4_hold 13 = .ok (.aload_n 0, 1) := by decide +kernel
theorem dX4_hold_14 : decode cX4_hold 14 = .ok (.getfield 36, 3) := by decide +kernel
theorem dX4_hold_17 : decode cX4_hold 17 = .ok (.iload_n 1, 1) := by decide +kernel
theorem dX4_hold_18 : decode cX4_hold 18 = .ok (.iastore, 1) := by decide +kernel
theorem dX4_hold_19 : decode cX4_hold 19 = .ok (.aload_n 0, 1) := by decide +kernel
theorem dX4_hold_20 : decode cX4_hold 20 = .ok (.dup, 1) := by decide +kernel
theorem dX4_hold_21 : decode cX4_hold 21 = .ok (.getfield 36, 3) := by decide +kernel
theorem dX4_hold_24 : decode cX4_hold 24 = .ok (.iconst 1, 1) := by decide +kernel
theorem dX4_hold_25 : decode cX4_hold 25 = .ok (.iadd, 1) := by decide +kernel
theorem dX4_hold_26 : decode cX4_hold 26 = .ok (.putfield 36, 3) := by decide +kernel
theorem dX4_hold_29 : decode cX4_hold 29 = .ok (.return_, 1) := by decide +kernel
theorem dX4_emit_0 : decode cX4_emit 0 = .ok (.aload_n 0, 1) := by decide +kernel
theorem dX4_emit_1 : decode cX4_emit 1 = .ok (.getfield 32, 3) := by decide +kernel
theorem dX4_emit_4 : decode cX4_emit 4 = .ok (.bipush 40, 2) := by decide +kernel
theorem dX4_emit_6 : decode cX4_emit 6 = .ok (.if_icmp .ge 23, 3) := by decide +kernel
theorem dX4_emit_9 : decode cX4_emit 9 = .ok (.aload_n 0, 1) := by decide +kernel
theorem dX4_emit_10 : decode cX4_emit 10 = .ok (.getfield 9, 3) := by decide +kernel
theorem dX4_emit_13 : decode cX4_emit 13 = .ok (.aload_n 0, 1) := by decide +kernel
theorem dX4_emit_14 : decode cX4_emit 14 = .ok (.getfield 32, 3) := by decide +kernel
theorem dX4_emit_17 : decode cX4_emit 17 = .ok (.iload_n 1, 1) := by decide +kernel
theorem dX4_emit_18 : decode cX4_emit 18 = .ok (.iastore, 1) := by decide +kernel
theorem dX4_emit_19 : decode cX4_emit 19 = .ok (.aload_n 0, 1) := by decide +kernel
theorem dX4_emit_20 : decode cX4_emit 20 = .ok (.dup, 1) := by decide +kernel
theorem dX4_emit_21 : decode cX4_emit 21 = .ok (.getfield 32, 3) := by decide +kernel
theorem dX4_emit_24 : decode cX4_emit 24 = .ok (.iconst 1, 1) := by decide +kernel
theorem dX4_emit_25 : decode cX4_emit 25 = .ok (.iadd, 1) := by decide +kernel
theorem dX4_emit_26 : decode cX4_emit 26 = .ok (.putfield 32, 3) := by decide +kernel
theorem dX4_emit_29 : decode cX4_emit 29 = .ok (.return_, 1) := by decide +kernel
theorem dX4_release_0 : decode cX4_release 0 = .ok (.aload_n 0, 1) := by decide +kernel
theorem dX4_release_1 : decode cX4_release 1 = .ok (.getfield 36, 3) := by decide +kernel
theorem dX4_release_4 : decode cX4_release 4 = .ok (.ifCond .le 48, 3) := by decide +kernel
theorem dX4_release_7 : decode cX4_release 7 = .ok (.aload_n 0, 1) := by decide +kernel
theorem dX4_release_8 : decode cX4_release 8 = .ok (.getfield 15, 3) := by decide +kernel
theorem dX4_release_11 : decode cX4_release 11 = .ok (.aload_n 0, 1) := by decide +kernel
theorem dX4_release_12 : decode cX4_release 12 = .ok (.getfield 36, 3) := by decide +kernel
theorem dX4_release_15 : decode cX4_release 15 = .ok (.iconst 1, 1) := by decide +kernel
theorem dX4_release_16 : decode cX4_release 16 = .ok (.isub, 1) := by decide +kernel
theorem dX4_release_17 : decode cX4_release 17 = .ok (.iaload, 1) := by decide +kernel
theorem dX4_release_18 : decode cX4_release 18 = .ok (.invokestatic 96, 3) := by decide +kernel
theorem dX4_release_21 : decode cX4_release 21 = .ok (.iload_n 1, 1) := by decide +kernel
theorem dX4_release_22 : decode cX4_release 22 = .ok (.if_icmp .lt 30, 3) := by decide +kernel
theorem dX4_release_25 : decode cX4_release 25 = .ok (.aload_n 0, 1) := by decide +kernel
theorem dX4_release_26 : decode cX4_release 26 = .ok (.dup, 1) := by decide +kernel
theorem dX4_release_27 : decode cX4_release 27 = .ok (.getfield 36, 3) := by decide +kernel
theorem dX4_release_30 : decode cX4_release 30 = .ok (.iconst 1, 1) := by decide +kernel
theorem dX4_release_31 : decode cX4_release 31 = .ok (.isub, 1) := by decide +kernel
theorem dX4_release_32 : decode cX4_release 32 = .ok (.putfield 36, 3) := by decide +kernel
theorem dX4_release_35 : decode cX4_release 35 = .ok (.aload_n 0, 1) := by decide +kernel
theorem dX4_release_36 : decode cX4_release 36 = .ok (.aload_n 0, 1) := by decide +kernel
theorem dX4_release_37 : decode cX4_release 37 = .ok (.getfield 15, 3) := by decide +kernel
theorem dX4_release_40 : decode cX4_release 40 = .ok (.aload_n 0, 1) := by decide +kernel
theorem dX4_release_41 : decode cX4_release 41 = .ok (.getfield 36, 3) := by decide +kernel
theorem dX4_release_44 : decode cX4_release 44 = .ok (.iaload, 1) := by decide +kernel
theorem dX4_release_45 : decode cX4_release 45 = .ok (.ineg, 1) := by decide +kernel
theorem dX4_release_46 : decode cX4_release 46 = .ok (.invokevirtual 82, 3) := by decide +kernel
theorem dX4_release_49 : decode cX4_release 49 = .ok (.goto (-49), 3) := by decide +kernel
theorem dX4_release_52 : decode cX4_release 52 = .ok (.return_, 1) := by decide +kernel
theorem dX4_answer_0 : decode cX4_answer 0 = .ok (.aload_n 0, 1) := by decide +kernel
theorem dX4_answer_1 : decode cX4_answer 1 = .ok (.getfield 32, 3) := by decide +kernel
theorem dX4_answer_4 : decode cX4_answer 4 = .ok (.ifCond .ne 27, 3) := by decide +kernel
theorem dX4_answer_7 : decode cX4_answer 7 = .ok (.aload_n 0, 1) := by decide +kernel
theorem dX4_answer_8 : decode cX4_answer 8 = .ok (.getfield 29, 3) := by decide +kernel
theorem dX4_answer_11 : decode cX4_answer 11 = .ok (.iconst 0, 1) := by decide +kernel
theorem dX4_answer_12 : decode cX4_answer 12 = .ok (.iaload, 1) := by decide +kernel
theorem dX4_answer_13 : decode cX4_answer 13 = .ok (.aload_n 0, 1) := by decide +kernel
theorem dX4_answer_14 : decode cX4_answer 14 = .ok (.getfield 29, 3) := by decide +kernel
theorem dX4_answer_17 : decode cX4_answer 17 = .ok (.iconst 1, 1) := by decide +kernel
theorem dX4_answer_18 : decode cX4_answer 18 = .ok (.iaload, 1) := by decide +kernel
theorem dX4_answer_19 : decode cX4_answer 19 = .ok (.isub, 1) := by decide +kernel
theorem dX4_answer_20 : decode cX4_answer 20 = .ok (.aload_n 0, 1) := by decide +kernel
theorem dX4_answer_21 : decode cX4_answer 21 = .ok (.getfield 29, 3) := by decide +kernel
theorem dX4_answer_24 : decode cX4_answer 24 = .ok (.iconst 2, 1) := by decide +kernel
theorem dX4_answer_25 : decode cX4_answer 25 = .ok (.iaload, 1) := by decide +kernel
theorem dX4_answer_26 : decode cX4_answer 26 = .ok (.bipush 10, 2) := by decide +kernel
theorem dX4_answer_28 : decode cX4_answer 28 = .ok (.idiv, 1) := by decide +kernel
theorem dX4_answer_29 : decode cX4_answer 29 = .ok (.isub, 1) := by decide +kernel
theorem dX4_answer_30 : decode cX4_answer 30 = .ok (.ireturn, 1) := by decide +kernel
theorem dX4_answer_31 : decode cX4_answer 31 = .ok (.iconst 0, 1) := by decide +kernel
theorem dX4_answer_32 : decode cX4_answer 32 = .ok (.istore_n 1, 1) := by decide +kernel
theorem dX4_answer_33 : decode cX4_answer 33 = .ok (.iconst 0, 1) := by decide +kernel
theorem dX4_answer_34 : decode cX4_answer 34 = .ok (.istore_n 2, 1) := by decide +kernel
theorem dX4_answer_35 : decode cX4_answer 35 = .ok (.iload_n 2, 1) := by decide +kernel
theorem dX4_answer_36 : decode cX4_answer 36 = .ok (.aload_n 0, 1) := by decide +kernel
theorem dX4_answer_37 : decode cX4_answer 37 = .ok (.getfield 32, 3) := by decide +kernel
theorem dX4_answer_40 : decode cX4_answer 40 = .ok (.if_icmp .ge 126, 3) := by decide +kernel
theorem dX4_answer_43 : decode cX4_answer 43 = .ok (.aload_n 0, 1) := by decide +kernel
theorem dX4_answer_44 : decode cX4_answer 44 = .ok (.getfield 9, 3) := by decide +kernel
theorem dX4_answer_47 : decode cX4_answer 47 = .ok (.iload_n 2, 1) := by decide +kernel
theorem dX4_answer_48 : decode cX4_answer 48 = .ok (.iaload, 1) := by decide +kernel
theorem dX4_answer_49 : decode cX4_answer 49 = .ok (.istore_n 3, 1) := by decide +kernel
theorem dX4_answer_50 : decode cX4_answer 50 = .ok (.iload_n 3, 1) := by decide +kernel
theorem dX4_answer_51 : decode cX4_answer 51 = .ok (.ldc 21, 2) := by decide +kernel
theorem dX4_answer_53 : decode cX4_answer 53 = .ok (.invokevirtual 23, 3) := by decide +kernel
theorem dX4_answer_56 : decode cX4_answer 56 = .ok (.ineg, 1) := by decide +kernel
theorem dX4_answer_57 : decode cX4_answer 57 = .ok (.if_icmp .lt 37, 3) := by decide +kernel
theorem dX4_answer_60 : decode cX4_answer 60 = .ok (.iload_n 1, 1) := by decide +kernel
theorem dX4_answer_61 : decode cX4_answer 61 = .ok (.bipush 40, 2) := by decide +kernel
theorem dX4_answer_63 : decode cX4_answer 63 = .ok (.if_icmp .ge 31, 3) := by decide +kernel
theorem dX4_answer_66 : decode cX4_answer 66 = .ok (.aload_n 0, 1) := by decide +kernel
theorem dX4_answer_67 : decode cX4_answer 67 = .ok (.getfield 18, 3) := by decide +kernel
theorem dX4_answer_70 : decode cX4_answer 70 = .ok (.iload_n 1, 1) := by decide +kernel
theorem dX4_answer_71 : decode cX4_answer 71 = .ok (.iload_n 3, 1) := by decide +kernel
theorem dX4_answer_72 : decode cX4_answer 72 = .ok (.ifCond .lt 7, 3) := by decide +kernel
theorem dX4_answer_75 : decode cX4_answer 75 = .ok (.iload_n 3, 1) := by decide +kernel
theorem dX4_answer_76 : decode cX4_answer 76 = .ok (.goto 11, 3) := by decide +kernel
theorem dX4_answer_79 : decode cX4_answer 79 = .ok (.aload_n 0, 1) := by decide +kernel
theorem dX4_answer_80 : decode cX4_answer 80 = .ok (.getfield 29, 3) := by decide +kernel
theorem dX4_answer_83 : decode cX4_answer 83 = .ok (.iconst (-1), 1) := by decide +kernel
theorem dX4_answer_84 : decode cX4_answer 84 = .ok (.iload_n 3, 1) := by decide +kernel
theorem dX4_answer_85 : decode cX4_answer 85 = .ok (.isub, 1) := by decide +kernel
theorem dX4_answer_86 : decode cX4_answer 86 = .ok (.iaload, 1) := by decide +kernel
theorem dX4_answer_87 : decode cX4_answer 87 = .ok (.iastore, 1) := by decide +kernel
theorem dX4_answer_88 : decode cX4_answer 88 = .ok (.iinc 1 1, 3) := by decide +kernel
theorem dX4_answer_91 : decode cX4_answer 91 = .ok (.goto 69, 3) := by decide +kernel
theorem dX4_answer_94 : decode cX4_answer 94 = .ok (.iload_n 3, 1) := by decide +kernel
theorem dX4_answer_95 : decode cX4_answer 95 = .ok (.sipush (-256), 3) := by decide +kernel
theorem dX4_answer_98 : decode cX4_answer 98 = .ok (.if_icmp .ne 27, 3) := by decide +kernel
theorem dX4_answer_101 : decode cX4_answer 101 = .ok (.iload_n 1, 1) := by decide +kernel
theorem dX4_answer_102 : decode cX4_answer 102 = .ok (.ifCond .le 23, 3) := by decide +kernel
theorem dX4_answer_105 : decode cX4_answer 105 = .ok (.aload_n 0, 1) := by decide +kernel
theorem dX4_answer_106 : decode cX4_answer 106 = .ok (.getfield 18, 3) := by decide +kernel
theorem dX4_answer_109 : decode cX4_answer 109 = .ok (.iload_n 1, 1) := by decide +kernel
theorem dX4_answer_110 : decode cX4_answer 110 = .ok (.iconst 1, 1) := by decide +kernel
theorem dX4_answer_111 : decode cX4_answer 111 = .ok (.isub, 1) := by decide +kernel
theorem dX4_answer_112 : decode cX4_answer 112 = .ok (.aload_n 0, 1) := by decide +kernel
theorem dX4_answer_113 : decode cX4_answer 113 = .ok (.getfield 18, 3) := by decide +kernel
theorem dX4_answer_116 : decode cX4_answer 116 = .ok (.iload_n 1, 1) := by decide +kernel
theorem dX4_answer_117 : decode cX4_answer 117 = .ok (.iconst 1, 1) := by decide +kernel
theorem dX4_answer_118 : decode cX4_answer 118 = .ok (.isub, 1) := by decide +kernel
theorem dX4_answer_119 : decode cX4_answer 119 = .ok (.iaload, 1) := by decide +kernel
theorem dX4_answer_120 : decode cX4_answer 120 = .ok (.ineg, 1) := by decide +kernel
theorem dX4_answer_121 : decode cX4_answer 121 = .ok (.iastore, 1) := by decide +kernel
theorem dX4_answer_122 : decode cX4_answer 122 = .ok (.goto 38, 3) := by decide +kernel
theorem dX4_answer_125 : decode cX4_answer 125 = .ok (.iload_n 1, 1) := by decide +kernel
theorem dX4_answer_126 : decode cX4_answer 126 = .ok (.iconst 1, 1) := by decide +kernel
theorem dX4_answer_127 : decode cX4_answer 127 = .ok (.if_icmp .le 33, 3) := by decide +kernel
theorem dX4_answer_130 : decode cX4_answer 130 = .ok (.iinc 1 (-1), 3) := by decide +kernel
theorem dX4_answer_133 : decode cX4_answer 133 = .ok (.aload_n 0, 1) := by decide +kernel
theorem dX4_answer_134 : decode cX4_answer 134 = .ok (.getfield 18, 3) := by decide +kernel
theorem dX4_answer_137 : decode cX4_answer 137 = .ok (.iload_n 1, 1) := by decide +kernel
theorem dX4_answer_138 : decode cX4_answer 138 = .ok (.iconst 1, 1) := by decide +kernel
theorem dX4_answer_139 : decode cX4_answer 139 = .ok (.isub, 1) := by decide +kernel
theorem dX4_answer_140 : decode cX4_answer 140 = .ok (.iload_n 3, 1) := by decide +kernel
theorem dX4_answer_141 : decode cX4_answer 141 = .ok (.ineg, 1) := by decide +kernel
theorem dX4_answer_142 : decode cX4_answer 142 = .ok (.aload_n 0, 1) := by decide +kernel
theorem dX4_answer_143 : decode cX4_answer 143 = .ok (.getfield 18, 3) := by decide +kernel
theorem dX4_answer_146 : decode cX4_answer 146 = .ok (.iload_n 1, 1) := by decide +kernel
theorem dX4_answer_147 : decode cX4_answer 147 = .ok (.iconst 1, 1) := by decide +kernel
theorem dX4_answer_148 : decode cX4_answer 148 = .ok (.isub, 1) := by decide +kernel
theorem dX4_answer_149 : decode cX4_answer 149 = .ok (.iaload, 1) := by decide +kernel
theorem dX4_answer_150 : decode cX4_answer 150 = .ok (.aload_n 0, 1) := by decide +kernel
theorem dX4_answer_151 : decode cX4_answer 151 = .ok (.getfield 18, 3) := by decide +kernel
theorem dX4_answer_154 : decode cX4_answer 154 = .ok (.iload_n 1, 1) := by decide +kernel
theorem dX4_answer_155 : decode cX4_answer 155 = .ok (.iaload, 1) := by decide +kernel
theorem dX4_answer_156 : decode cX4_answer 156 = .ok (.invokestatic 102, 3) := by decide +kernel
theorem dX4_answer_159 : decode cX4_answer 159 = .ok (.iastore, 1) := by decide +kernel
theorem dX4_answer_160 : decode cX4_answer 160 = .ok (.iinc 2 1, 3) := by decide +kernel
theorem dX4_answer_163 : decode cX4_answer 163 = .ok (.goto (-128), 3) := by decide +kernel
theorem dX4_answer_166 : decode cX4_answer 166 = .ok (.aload_n 0, 1) := by decide +kernel
theorem dX4_answer_167 : decode cX4_answer 167 = .ok (.getfield 18, 3) := by decide +kernel
theorem dX4_answer_170 : decode cX4_answer 170 = .ok (.iconst 0, 1) := by decide +kernel
theorem dX4_answer_171 : decode cX4_answer 171 = .ok (.iaload, 1) := by decide +kernel
theorem dX4_answer_172 : decode cX4_answer 172 = .ok (.ireturn, 1) := by decide +kernel
theorem dX4_join_0 : decode cX4_join 0 = .ok (.iload_n 0, 1) := by decide +kernel
theorem dX4_join_1 : decode cX4_join 1 = .ok (.lookupswitch 104 #[(42, 100), (43, 92), (45, 96), (60, 59), (61, 81), (62, 70)], 59) := by decide +kernel
theorem dX4_join_60 : decode cX4_join 60 = .ok (.iload_n 1, 1) := by decide +kernel
theorem dX4_join_61 : decode cX4_join 61 = .ok (.iload_n 2, 1) := by decide +kernel
theorem dX4_join_62 : decode cX4_join 62 = .ok (.if_icmp .ge 7, 3) := by decide +kernel
theorem dX4_join_65 : decode cX4_join 65 = .ok (.iconst 1, 1) := by decide +kernel
theorem dX4_join_66 : decode cX4_join 66 = .ok (.goto 4, 3) := by decide +kernel
theorem dX4_join_69 : decode cX4_join 69 = .ok (.iconst 0, 1) := by decide +kernel
theorem dX4_join_70 : decode cX4_join 70 = .ok (.ireturn, 1) := by decide +kernel
theorem dX4_join_71 : decode cX4_join 71 = .ok (.iload_n 1, 1) := by decide +kernel
theorem dX4_join_72 : decode cX4_join 72 = .ok (.iload_n 2, 1) := by decide +kernel
theorem dX4_join_73 : decode cX4_join 73 = .ok (.if_icmp .le 7, 3) := by decide +kernel
theorem dX4_join_76 : decode cX4_join 76 = .ok (.iconst 1, 1) := by decide +kernel
theorem dX4_join_77 : decode cX4_join 77 = .ok (.goto 4, 3) := by decide +kernel
theorem dX4_join_80 : decode cX4_join 80 = .ok (.iconst 0, 1) := by decide +kernel
theorem dX4_join_81 : decode cX4_join 81 = .ok (.ireturn, 1) := by decide +kernel
theorem dX4_join_82 : decode cX4_join 82 = .ok (.iload_n 1, 1) := by decide +kernel
theorem dX4_join_83 : decode cX4_join 83 = .ok (.iload_n 2, 1) := by decide +kernel
theorem dX4_join_84 : decode cX4_join 84 = .ok (.if_icmp .ne 7, 3) := by decide +kernel
theorem dX4_join_87 : decode cX4_join 87 = .ok (.iconst 1, 1) := by decide +kernel
theorem dX4_join_88 : decode cX4_join 88 = .ok (.goto 4, 3) := by decide +kernel
theorem dX4_join_91 : decode cX4_join 91 = .ok (.iconst 0, 1) := by decide +kernel
theorem dX4_join_92 : decode cX4_join 92 = .ok (.ireturn, 1) := by decide +kernel
theorem dX4_join_93 : decode cX4_join 93 = .ok (.iload_n 1, 1) := by decide +kernel
theorem dX4_join_94 : decode cX4_join 94 = .ok (.iload_n 2, 1) := by decide +kernel
theorem dX4_join_95 : decode cX4_join 95 = .ok (.iadd, 1) := by decide +kernel
theorem dX4_join_96 : decode cX4_join 96 = .ok (.ireturn, 1) := by decide +kernel
theorem dX4_join_97 : decode cX4_join 97 = .ok (.iload_n 1, 1) := by decide +kernel
theorem dX4_join_98 : decode cX4_join 98 = .ok (.iload_n 2, 1) := by decide +kernel
theorem dX4_join_99 : decode cX4_join 99 = .ok (.isub, 1) := by decide +kernel
theorem dX4_join_100 : decode cX4_join 100 = .ok (.ireturn, 1) := by decide +kernel
theorem dX4_join_101 : decode cX4_join 101 = .ok (.iload_n 1, 1) := by decide +kernel
theorem dX4_join_102 : decode cX4_join 102 = .ok (.iload_n 2, 1) := by decide +kernel
theorem dX4_join_103 : decode cX4_join 103 = .ok (.imul, 1) := by decide +kernel
theorem dX4_join_104 : decode cX4_join 104 = .ok (.ireturn, 1) := by decide +kernel
theorem dX4_join_105 : decode cX4_join 105 = .ok (.iload_n 2, 1) := by decide +kernel
theorem dX4_join_106 : decode cX4_join 106 = .ok (.ifCond .ne 7, 3) := by decide +kernel
theorem dX4_join_109 : decode cX4_join 109 = .ok (.iconst 0, 1) := by decide +kernel
theorem dX4_join_110 : decode cX4_join 110 = .ok (.goto 6, 3) := by decide +kernel
theorem dX4_join_113 : decode cX4_join 113 = .ok (.iload_n 1, 1) := by decide +kernel
theorem dX4_join_114 : decode cX4_join 114 = .ok (.iload_n 2, 1) := by decide +kernel
theorem dX4_join_115 : decode cX4_join 115 = .ok (.idiv, 1) := by decide +kernel
theorem dX4_join_116 : decode cX4_join 116 = .ok (.ireturn, 1) := by decide +kernel
theorem dX5_init_0 : decode cX5_init 0 = .ok (.aload_n 0, 1) := by decide +kernel
theorem dX5_init_1 : decode cX5_init 1 = .ok (.invokespecial 3, 3) := by decide +kernel
theorem dX5_init_4 : decode cX5_init 4 = .ok (.aload_n 0, 1) := by decide +kernel
theorem dX5_init_5 : decode cX5_init 5 = .ok (.bipush 12, 2) := by decide +kernel
theorem dX5_init_7 : decode cX5_init 7 = .ok (.newarray .int, 2) := by decide +kernel
theorem dX5_init_9 : decode cX5_init 9 = .ok (.putfield 9, 3) := by decide +kernel
theorem dX5_init_12 : decode cX5_init 12 = .ok (.aload_n 0, 1) := by decide +kernel
theorem dX5_init_13 : decode cX5_init 13 = .ok (.bipush 12, 2) := by decide +kernel
theorem dX5_init_15 : decode cX5_init 15 = .ok (.newarray .int, 2) := by decide +kernel
theorem dX5_init_17 : decode cX5_init 17 = .ok (.putfield 15, 3) := by decide +kernel
theorem dX5_init_20 : decode cX5_init 20 = .ok (.return_, 1) := by decide +kernel
theorem dX5_add_0 : decode cX5_add 0 = .ok (.aload_n 0, 1) := by decide +kernel
theorem dX5_add_1 : decode cX5_add 1 = .ok (.getfield 18, 3) := by decide +kernel
theorem dX5_add_4 : decode cX5_add 4 = .ok (.ifCond .lt 12, 3) := by decide +kernel
theorem dX5_add_7 : decode cX5_add 7 = .ok (.aload_n 0, 1) := by decide +kernel
theorem dX5_add_8 : decode cX5_add 8 = .ok (.getfield 18, 3) := by decide +kernel
theorem dX5_add_11 : decode cX5_add 11 = .ok (.bipush 12, 2) := by decide +kernel
theorem dX5_add_13 : decode cX5_add 13 = .ok (.if_icmp .lt 5, 3) := by decide +kernel
theorem dX5_add_16 : decode cX5_add 16 = .ok (.iconst 0, 1) := by decide +kernel
theorem dX5_add_17 : decode cX5_add 17 = .ok (.ireturn, 1) := by decide +kernel
theorem dX5_add_18 : decode cX5_add 18 = .ok (.aload_n 0, 1) := by decide +kernel
theorem dX5_add_19 : decode cX5_add 19 = .ok (.getfield 9, 3) := by decide +kernel
theorem dX5_add_22 : decode cX5_add 22 = .ok (.aload_n 0, 1) := by decide +kernel
theorem dX5_add_23 : decode cX5_add 23 = .ok (.getfield 18, 3) := by decide +kernel
theorem dX5_add_26 : decode cX5_add 26 = .ok (.iload_n 1, 1) := by decide +kernel
theorem dX5_add_27 : decode cX5_add 27 = .ok (.iastore, 1) := by decide +kernel
theorem dX5_add_28 : decode cX5_add 28 = .ok (.aload_n 0, 1) := by decide +kernel
theorem dX5_add_29 : decode cX5_add 29 = .ok (.getfield 15, 3) := by decide +kernel
theorem dX5_add_32 : decode cX5_add 32 = .ok (.aload_n 0, 1) := by decide +kernel
theorem dX5_add_33 : decode cX5_add 33 = .ok (.getfield 18, 3) := by decide +kernel
theorem dX5_add_36 : decode cX5_add 36 = .ok (.iload_n 2, 1) := by decide +kernel
theorem dX5_add_37 : decode cX5_add 37 = .ok (.iastore, 1) := by decide +kernel
theorem dX5_add_38 : decode cX5_add 38 = .ok (.aload_n 0, 1) := by decide +kernel
theorem dX5_add_39 : decode cX5_add 39 = .ok (.dup, 1) := by decide +kernel
theorem dX5_add_40 : decode cX5_add 40 = .ok (.getfield 18, 3) := by decide +kernel
theorem dX5_add_43 : decode cX5_add 43 = .ok (.iconst 1, 1) := by decide +kernel
theorem dX5_add_44 : decode cX5_add 44 = .ok (.iadd, 1) := by decide +kernel
theorem dX5_add_45 : decode cX5_add 45 = .ok (.putfield 18, 3) := by decide +kernel
theorem dX5_add_48 : decode cX5_add 48 = .ok (.iconst 1, 1) := by decide +kernel
theorem dX5_add_49 : decode cX5_add 49 = .ok (.ireturn, 1) := by decide +kernel
theorem dX6_init_0 : decode cX6_init 0 = .ok (.aload_n 0, 1) := by decide +kernel
theorem dX6_init_1 : decode cX6_init 1 = .ok (.invokespecial 3, 3) := by decide +kernel
theorem dX6_init_4 : decode cX6_init 4 = .ok (.aload_n 0, 1) := by decide +kernel
theorem dX6_init_5 : decode cX6_init 5 = .ok (.bipush 16, 2) := by decide +kernel
theorem dX6_init_7 : decode cX6_init 7 = .ok (.newarray .int, 2) := by decide +kernel
theorem dX6_init_9 : decode cX6_init 9 = .ok (.putfield 9, 3) := by decide +kernel
theorem dX6_init_12 : decode cX6_init 12 = .ok (.aload_n 0, 1) := by decide +kernel
theorem dX6_init_13 : decode cX6_init 13 = .ok (.bipush 8, 2) := by decide +kernel
theorem dX6_init_15 : decode cX6_init 15 = .ok (.newarray .int, 2) := by decide +kernel
theorem dX6_init_17 : decode cX6_init 17 = .ok (.putfield 15, 3) := by decide +kernel
theorem dX6_init_20 : decode cX6_init 20 = .ok (.aload_n 0, 1) := by decide +kernel
theorem dX6_init_21 : decode cX6_init 21 = .ok (.bipush 8, 2) := by decide +kernel
theorem dX6_init_23 : decode cX6_init 23 = .ok (.newarray .int, 2) := by decide +kernel
theorem dX6_init_25 : decode cX6_init 25 = .ok (.putfield 18, 3) := by decide +kernel
theorem dX6_init_28 : decode cX6_init 28 = .ok (.aload_n 0, 1) := by decide +kernel
theorem dX6_init_29 : decode cX6_init 29 = .ok (.bipush 8, 2) := by decide +kernel
theorem dX6_init_31 : decode cX6_init 31 = .ok (.newarray .int, 2) := by decide +kernel
theorem dX6_init_33 : decode cX6_init 33 = .ok (.putfield 21, 3) := by decide +kernel
theorem dX6_init_36 : decode cX6_init 36 = .ok (.aload_n 0, 1) := by decide +kernel
theorem dX6_init_37 : decode cX6_init 37 = .ok (.bipush 8, 2) := by decide +kernel
theorem dX6_init_39 : decode cX6_init 39 = .ok (.newarray .int, 2) := by decide +kernel
theorem dX6_init_41 : decode cX6_init 41 = .ok (.putfield 24, 3) := by decide +kernel
theorem dX6_init_44 : decode cX6_init 44 = .ok (.aload_n 0, 1) := by decide +kernel
theorem dX6_init_45 : decode cX6_init 45 = .ok (.iconst 1, 1) := by decide +kernel
theorem dX6_init_46 : decode cX6_init 46 = .ok (.putfield 27, 3) := by decide +kernel
theorem dX6_init_49 : decode cX6_init 49 = .ok (.aload_n 0, 1) := by decide +kernel
theorem dX6_init_50 : decode cX6_init 50 = .ok (.new 31, 3) := by decide +kernel
theorem dX6_init_53 : decode cX6_init 53 = .ok (.dup, 1) := by decide +kernel
theorem dX6_init_54 : decode cX6_init 54 = .ok (.invokespecial 33, 3) := by decide +kernel
theorem dX6_init_57 : decode cX6_init 57 = .ok (.putfield 34, 3) := by decide +kernel
theorem dX6_init_60 : decode cX6_init 60 = .ok (.return_, 1) := by decide +kernel
theorem dX6_has_0 : decode cX6_has 0 = .ok (.iload_n 1, 1) := by decide +kernel
theorem dX6_has_1 : decode cX6_has 1 = .ok (.ifCond .lt 15, 3) := by decide +kernel
theorem dX6_has_4 : decode cX6_has 4 = .ok (.iload_n 1, 1) := by decide +kernel
theorem dX6_has_5 : decode cX6_has 5 = .ok (.aload_n 0, 1) := by decide +kernel
theorem dX6_has_6 : decode cX6_has 6 = .ok (.getfield 38, 3) := by decide +kernel
theorem dX6_has_9 : decode cX6_has 9 = .ok (.if_icmp .ge 7, 3) := by decide +kernel
theorem dX6_has_12 : decode cX6_has 12 = .ok (.iconst 1, 1) := by decide +kernel
theorem dX6_has_13 : decode cX6_has 13 = .ok (.goto 4, 3) := by decide +kernel
theorem dX6_has_16 : decode cX6_has 16 = .ok (.iconst 0, 1) := by decide +kernel
theorem dX6_has_17 : decode cX6_has 17 = .ok (.ireturn, 1) := by decide +kernel
theorem dX6_learn_0 : decode cX6_learn 0 = .ok (.aload_n 0, 1) := by decide +kernel
theorem dX6_learn_1 : decode cX6_learn 1 = .ok (.aload_n 1, 1) := by decide +kernel
theorem dX6_learn_2 : decode cX6_learn 2 = .ok (.getfield 41, 3) := by decide +kernel
theorem dX6_learn_5 : decode cX6_learn 5 = .ok (.bipush 16, 2) := by decide +kernel
theorem dX6_learn_7 : decode cX6_learn 7 = .ok (.invokestatic 44, 3) := by decide +kernel
theorem dX6_learn_10 : decode cX6_learn 10 = .ok (.putfield 27, 3) := by decide +kernel
theorem dX6_learn_13 : decode cX6_learn 13 = .ok (.iconst 0, 1) := by decide +kernel
theorem dX6_learn_14 : decode cX6_learn 14 = .ok (.istore_n 2, 1) := by decide +kernel
theorem dX6_learn_15 : decode cX6_learn 15 = .ok (.iload_n 2, 1) := by decide +kernel
theorem dX6_learn_16 : decode cX6_learn 16 = .ok (.aload_n 0, 1) := by decide +kernel
theorem dX6_learn_17 : decode cX6_learn 17 = .ok (.getfield 27, 3) := by decide +kernel
theorem dX6_learn_20 : decode cX6_learn 20 = .ok (.if_icmp .ge 20, 3) := by decide +kernel
theorem dX6_learn_23 : decode cX6_learn 23 = .ok (.aload_n 0, 1) := by decide +kernel
theorem dX6_learn_24 : decode cX6_learn 24 = .ok (.getfield 9, 3) := by decide +kernel
theorem dX6_learn_27 : decode cX6_learn 27 = .ok (.iload_n 2, 1) := by decide +kernel
theorem dX6_learn_28 : decode cX6_learn 28 = .ok (.aload_n 1, 1) := by decide +kernel
theorem dX6_learn_29 : decode cX6_learn 29 = .ok (.iload_n 2, 1) := by decide +kernel
theorem dX6_learn_30 : decode cX6_learn 30 = .ok (.invokevirtual 50, 3) := by decide +kernel
theorem dX6_learn_33 : decode cX6_learn 33 = .ok (.iastore, 1) := by decide +kernel
theorem dX6_learn_34 : decode cX6_learn 34 = .ok (.iinc 2 1, 3) := by decide +kernel
theorem dX6_learn_37 : decode cX6_learn 37 = .ok (.goto (-22), 3) := by decide +kernel
theorem dX6_learn_40 : decode cX6_learn 40 = .ok (.return_, 1) := by decide +kernel
theorem dX6_songOn_0 : decode cX6_songOn 0 = .ok (.aload_n 0, 1) := by decide +kernel
theorem dX6_songOn_1 : decode cX6_songOn 1 = .ok (.getfield 27, 3) := by decide +kernel
theorem dX6_songOn_4 : decode cX6_songOn 4 = .ok (.ifCond .le 21, 3) := by decide +kernel
theorem dX6_songOn_7 : decode cX6_songOn 7 = .ok (.iload_n 1, 1) := by decide +kernel
theorem dX6_songOn_8 : decode cX6_songOn 8 = .ok (.ifCond .lt 17, 3) := by decide +kernel
theorem dX6_songOn_11 : decode cX6_songOn 11 = .ok (.aload_n 0, 1) := by decide +kernel
theorem dX6_songOn_12 : decode cX6_songOn 12 = .ok (.getfield 9, 3) := by decide +kernel
theorem dX6_songOn_15 : decode cX6_songOn 15 = .ok (.iload_n 1, 1) := by decide +kernel
theorem dX6_songOn_16 : decode cX6_songOn 16 = .ok (.aload_n 0, 1) := by decide +kernel
theorem dX6_songOn_17 : decode cX6_songOn 17 = .ok (.getfield 27, 3) := by decide +kernel
theorem dX6_songOn_20 : decode cX6_songOn 20 = .ok (.irem, 1) := by decide +kernel
theorem dX6_songOn_21 : decode cX6_songOn 21 = .ok (.iaload, 1) := by decide +kernel
theorem dX6_songOn_22 : decode cX6_songOn 22 = .ok (.goto 4, 3) := by decide +kernel
theorem dX6_songOn_25 : decode cX6_songOn 25 = .ok (.iconst 0, 1) := by decide +kernel
theorem dX6_songOn_26 : decode cX6_songOn 26 = .ok (.ireturn, 1) := by decide +kernel
theorem dX6_may_0 : decode cX6_may 0 = .ok (.aload_n 1, 1) := by decide +kernel
theorem dX6_may_1 : decode cX6_may 1 = .ok (.getfield 54, 3) := by decide +kernel
theorem dX6_may_4 : decode cX6_may 4 = .ok (.astore 6, 2) := by decide +kernel
theorem dX6_may_6 : decode cX6_may 6 = .ok (.aload 6, 2) := by decide +kernel
theorem dX6_may_8 : decode cX6_may 8 = .ok (.iconst 0, 1) := by decide +kernel
theorem dX6_may_9 : decode cX6_may 9 = .ok (.aload_n 0, 1) := by decide +kernel
theorem dX6_may_10 : decode cX6_may 10 = .ok (.iload_n 2, 1) := by decide +kernel
theorem dX6_may_11 : decode cX6_may 11 = .ok (.invokevirtual 57, 3) := by decide +kernel
theorem dX6_may_14 : decode cX6_may 14 = .ok (.iastore, 1) := by decide +kernel
theorem dX6_may_15 : decode cX6_may 15 = .ok (.aload 6, 2) := by decide +kernel
theorem dX6_may_17 : decode cX6_may 17 = .ok (.iconst 1, 1) := by decide +kernel
theorem dX6_may_18 : decode cX6_may 18 = .ok (.aload_n 0, 1) := by decide +kernel
theorem dX6_may_19 : decode cX6_may 19 = .ok (.getfield 15, 3) := by decide +kernel
theorem dX6_may_22 : decode cX6_may 22 = .ok (.iload_n 3, 1) := by decide +kernel
theorem dX6_may_23 : decode cX6_may 23 = .ok (.iaload, 1) := by decide +kernel
theorem dX6_may_24 : decode cX6_may 24 = .ok (.iastore, 1) := by decide +kernel
theorem dX6_may_25 : decode cX6_may 25 = .ok (.aload 6, 2) := by decide +kernel
theorem dX6_may_27 : decode cX6_may 27 = .ok (.iconst 2, 1) := by decide +kernel
theorem dX6_may_28 : decode cX6_may 28 = .ok (.iload 4, 2) := by decide +kernel
theorem dX6_may_30 : decode cX6_may 30 = .ok (.iastore, 1) := by decide +kernel
theorem dX6_may_31 : decode cX6_may 31 = .ok (.aload 6, 2) := by decide +kernel
theorem dX6_may_33 : decode cX6_may 33 = .ok (.iconst 3, 1) := by decide +kernel
theorem dX6_may_34 : decode cX6_may 34 = .ok (.aload_n 0, 1) := by decide +kernel
theorem dX6_may_35 : decode cX6_may 35 = .ok (.getfield 18, 3) := by decide +kernel
theorem dX6_may_38 : decode cX6_may 38 = .ok (.iload_n 3, 1) := by decide +kernel
theorem dX6_may_39 : decode cX6_may 39 = .ok (.iaload, 1) := by decide +kernel
theorem dX6_may_40 : decode cX6_may 40 = .ok (.iastore, 1) := by decide +kernel
theorem dX6_may_41 : decode cX6_may 41 = .ok (.aload 6, 2) := by decide +kernel
theorem dX6_may_43 : decode cX6_may 43 = .ok (.iconst 4, 1) := by decide +kernel
theorem dX6_may_44 : decode cX6_may 44 = .ok (.aload_n 0, 1) := by decide +kernel
theorem dX6_may_45 : decode cX6_may 45 = .ok (.getfield 21, 3) := by decide +kernel
theorem dX6_may_48 : decode cX6_may 48 = .ok (.iload_n 3, 1) := by decide +kernel
theorem dX6_may_49 : decode cX6_may 49 = .ok (.iaload, 1) := by decide +kernel
theorem dX6_may_50 : decode cX6_may 50 = .ok (.iastore, 1) := by decide +kernel
theorem dX6_may_51 : decode cX6_may 51 = .ok (.aload 6, 2) := by decide +kernel
theorem dX6_may_53 : decode cX6_may 53 = .ok (.iconst 5, 1) := by decide +kernel
theorem dX6_may_54 : decode cX6_may 54 = .ok (.iload_n 2, 1) := by decide +kernel
theorem dX6_may_55 : decode cX6_may 55 = .ok (.bipush 7, 2) := by decide +kernel
theorem dX6_may_57 : decode cX6_may 57 = .ok (.irem, 1) := by decide +kernel
theorem dX6_may_58 : decode cX6_may 58 = .ok (.iastore, 1) := by decide +kernel
theorem dX6_may_59 : decode cX6_may 59 = .ok (.aload 6, 2) := by decide +kernel
theorem dX6_may_61 : decode cX6_may 61 = .ok (.bipush 6, 2) := by decide +kernel
theorem dX6_may_63 : decode cX6_may 63 = .ok (.iload 5, 2) := by decide +kernel
theorem dX6_may_65 : decode cX6_may 65 = .ok (.iastore, 1) := by decide +kernel
theorem dX6_may_66 : decode cX6_may 66 = .ok (.aload_n 1, 1) := by decide +kernel
theorem dX6_may_67 : decode cX6_may 67 = .ok (.invokevirtual 60, 3) := by decide +kernel
theorem dX6_may_70 : decode cX6_may 70 = .ok (.iconst 0, 1) := by decide +kernel
theorem dX6_may_71 : decode cX6_may 71 = .ok (.aload_n 0, 1) := by decide +kernel
theorem dX6_may_72 : decode cX6_may 72 = .ok (.getfield 18, 3) := by decide +kernel
theorem dX6_may_75 : decode cX6_may 75 = .ok (.iload_n 3, 1) := by decide +kernel
theorem dX6_may_76 : decode cX6_may 76 = .ok (.iaload, 1) := by decide +kernel
theorem dX6_may_77 : decode cX6_may 77 = .ok (.invokestatic 64, 3) := by decide +kernel
theorem dX6_may_80 : decode cX6_may 80 = .ok (.ireturn, 1) := by decide +kernel
theorem dX6_part_0 : decode cX6_part 0 = .ok (.iload_n 2, 1) := by decide +kernel
theorem dX6_part_1 : decode cX6_part 1 = .ok (.invokestatic 68, 3) := by decide +kernel
theorem dX6_part_4 : decode cX6_part 4 = .ok (.istore 4, 2) := by decide +kernel
theorem dX6_part_6 : decode cX6_part 6 = .ok (.aload_n 0, 1) := by decide +kernel
theorem dX6_part_7 : decode cX6_part 7 = .ok (.aload_n 0, 1) := by decide +kernel
theorem dX6_part_8 : decode cX6_part 8 = .ok (.aload_n 1, 1) := by decide +kernel
theorem dX6_part_9 : decode cX6_part 9 = .ok (.getfield 73, 3) := by decide +kernel
theorem dX6_part_12 : decode cX6_part 12 = .ok (.invokevirtual 57, 3) := by decide +kernel
theorem dX6_part_15 : decode cX6_part 15 = .ok (.putfield 78, 3) := by decide +kernel
theorem dX6_part_18 : decode cX6_part 18 = .ok (.aload_n 0, 1) := by decide +kernel
theorem dX6_part_19 : decode cX6_part 19 = .ok (.iconst 0, 1) := by decide +kernel
theorem dX6_part_20 : decode cX6_part 20 = .ok (.putfield 81, 3) := by decide +kernel
theorem dX6_part_23 : decode cX6_part 23 = .ok (.aload_n 0, 1) := by decide +kernel
theorem dX6_part_24 : decode cX6_part 24 = .ok (.iconst 0, 1) := by decide +kernel
theorem dX6_part_25 : decode cX6_part 25 = .ok (.putfield 84, 3) := by decide +kernel
theorem dX6_part_28 : decode cX6_part 28 = .ok (.iconst 0, 1) := by decide +kernel
theorem dX6_part_29 : decode cX6_part 29 = .ok (.istore 5, 2) := by decide +kernel
theorem dX6_part_31 : decode cX6_part 31 = .ok (.iload 5, 2) := by decide +kernel
theorem dX6_part_33 : decode cX6_part 33 = .ok (.aload_n 0, 1) := by decide +kernel
theorem dX6_part_34 : decode cX6_part 34 = .ok (.getfield 38, 3) := by decide +kernel
theorem dX6_part_37 : decode cX6_part 37 = .ok (.if_icmp .ge 134, 3) := by decide +kernel
theorem dX6_part_40 : decode cX6_part 40 = .ok (.aload_n 0, 1) := by decide +kernel
theorem dX6_part_41 : decode cX6_part 41 = .ok (.getfield 24, 3) := by decide +kernel
theorem dX6_part_44 : decode cX6_part 44 = .ok (.iload 5, 2) := by decide +kernel
theorem dX6_part_46 : decode cX6_part 46 = .ok (.iconst 0, 1) := by decide +kernel
theorem dX6_part_47 : decode cX6_part 47 = .ok (.iastore, 1) := by decide +kernel
theorem dX6_part_48 : decode cX6_part 48 = .ok (.iload_n 2, 1) := by decide +kernel
theorem dX6_part_49 : decode cX6_part 49 = .ok (.iload 5, 2) := by decide +kernel
theorem dX6_part_51 : decode cX6_part 51 = .ok (.ishr, 1) := by decide +kernel
theorem dX6_part_52 : decode cX6_part 52 = .ok (.iconst 1, 1) := by decide +kernel
theorem dX6_part_53 : decode cX6_part 53 = .ok (.iand, 1) := by decide +kernel
theorem dX6_part_54 : decode cX6_part 54 = .ok (.ifCond .eq 111, 3) := by decide +kernel
theorem dX6_part_57 : decode cX6_part 57 = .ok (.aload_n 0, 1) := by decide +kernel
theorem dX6_part_58 : decode cX6_part 58 = .ok (.getfield 78, 3) := by decide +kernel
theorem dX6_part_61 : decode cX6_part 61 = .ok (.ifCond .le 104, 3) := by decide +kernel
theorem dX6_part_64 : decode cX6_part 64 = .ok (.aload_n 0, 1) := by decide +kernel
theorem dX6_part_65 : decode cX6_part 65 = .ok (.getfield 24, 3) := by decide +kernel
theorem dX6_part_68 : decode cX6_part 68 = .ok (.iload 5, 2) := by decide +kernel
theorem dX6_part_70 : decode cX6_part 70 = .ok (.aload_n 0, 1) := by decide +kernel
theorem dX6_part_71 : decode cX6_part 71 = .ok (.getfield 78, 3) := by decide +kernel
theorem dX6_part_74 : decode cX6_part 74 = .ok (.aload_n 0, 1) := by decide +kernel
theorem dX6_part_75 : decode cX6_part 75 = .ok (.aload_n 3, 1) := by decide +kernel
theorem dX6_part_76 : decode cX6_part 76 = .ok (.aload_n 1, 1) := by decide +kernel
theorem dX6_part_77 : decode cX6_part 77 = .ok (.getfield 73, 3) := by decide +kernel
theorem dX6_part_80 : decode cX6_part 80 = .ok (.iload 5, 2) := by decide +kernel
theorem dX6_part_82 : decode cX6_part 82 = .ok (.aload_n 1, 1) := by decide +kernel
theorem dX6_part_83 : decode cX6_part 83 = .ok (.getfield 87, 3) := by decide +kernel
theorem dX6_part_86 : decode cX6_part 86 = .ok (.iload 5, 2) := by decide +kernel
theorem dX6_part_88 : decode cX6_part 88 = .ok (.iaload, 1) := by decide +kernel
theorem dX6_part_89 : decode cX6_part 89 = .ok (.iload 4, 2) := by decide +kernel
theorem dX6_part_91 : decode cX6_part 91 = .ok (.invokevirtual 90, 3) := by decide +kernel
theorem dX6_part_94 : decode cX6_part 94 = .ok (.invokestatic 44, 3) := by decide +kernel
theorem dX6_part_97 : decode cX6_part 97 = .ok (.iastore, 1) := by decide +kernel
theorem dX6_part_98 : decode cX6_part 98 = .ok (.aload_n 0, 1) := by decide +kernel
theorem dX6_part_99 : decode cX6_part 99 = .ok (.dup, 1) := by decide +kernel
theorem dX6_part_100 : decode cX6_part 100 = .ok (.getfield 78, 3) := by decide +kernel
theorem dX6_part_103 : decode cX6_part 103 = .ok (.aload_n 0, 1) := by decide +kernel
theorem dX6_part_104 : decode cX6_part 104 = .ok (.getfield 24, 3) := by decide +kernel
theorem dX6_part_107 : decode cX6_part 107 = .ok (.iload 5, 2) := by decide +kernel
theorem dX6_part_109 : decode cX6_part 109 = .ok (.iaload, 1) := by decide +kernel
theorem dX6_part_110 : decode cX6_part 110 = .ok (.isub, 1) := by decide +kernel
theorem dX6_part_111 : decode cX6_part 111 = .ok (.putfield 78, 3) := by decide +kernel
theorem dX6_part_114 : decode cX6_part 114 = .ok (.aload_n 0, 1) := by decide +kernel
theorem dX6_part_115 : decode cX6_part 115 = .ok (.dup, 1) := by decide +kernel
theorem dX6_part_116 : decode cX6_part 116 = .ok (.getfield 81, 3) := by decide +kernel
theorem dX6_part_119 : decode cX6_part 119 = .ok (.aload_n 0, 1) := by decide +kernel
theorem dX6_part_120 : decode cX6_part 120 = .ok (.getfield 24, 3) := by decide +kernel
theorem dX6_part_123 : decode cX6_part 123 = .ok (.iload 5, 2) := by decide +kernel
theorem dX6_part_125 : decode cX6_part 125 = .ok (.iaload, 1) := by decide +kernel
theorem dX6_part_126 : decode cX6_part 126 = .ok (.aload_n 0, 1) := by decide +kernel
theorem dX6_part_127 : decode cX6_part 127 = .ok (.getfield 21, 3) := by decide +kernel
theorem dX6_part_130 : decode cX6_part 130 = .ok (.iload 5, 2) := by decide +kernel
theorem dX6_part_132 : decode cX6_part 132 = .ok (.iaload, 1) := by decide +kernel
theorem dX6_part_133 : decode cX6_part 133 = .ok (.imul, 1) := by decide +kernel
theorem dX6_part_134 : decode cX6_part 134 = .ok (.iadd, 1) := by decide +kernel
theorem dX6_part_135 : decode cX6_part 135 = .ok (.putfield 81, 3) := by decide +kernel
theorem dX6_part_138 : decode cX6_part 138 = .ok (.aload_n 0, 1) := by decide +kernel
theorem dX6_part_139 : decode cX6_part 139 = .ok (.dup, 1) := by decide +kernel
theorem dX6_part_140 : decode cX6_part 140 = .ok (.getfield 84, 3) := by decide +kernel
theorem dX6_part_143 : decode cX6_part 143 = .ok (.aload_n 0, 1) := by decide +kernel
theorem dX6_part_144 : decode cX6_part 144 = .ok (.getfield 24, 3) := by decide +kernel
theorem dX6_part_147 : decode cX6_part 147 = .ok (.iload 5, 2) := by decide +kernel
theorem dX6_part_149 : decode cX6_part 149 = .ok (.iaload, 1) := by decide +kernel
theorem dX6_part_150 : decode cX6_part 150 = .ok (.ifCond .le 10, 3) := by decide +kernel
theorem dX6_part_153 : decode cX6_part 153 = .ok (.iconst 1, 1) := by decide +kernel
theorem dX6_part_154 : decode cX6_part 154 = .ok (.iload 5, 2) := by decide +kernel
theorem dX6_part_156 : decode cX6_part 156 = .ok (.ishl, 1) := by decide +kernel
theorem dX6_part_157 : decode cX6_part 157 = .ok (.goto 4, 3) := by decide +kernel
theorem dX6_part_160 : decode cX6_part 160 = .ok (.iconst 0, 1) := by decide +kernel
theorem dX6_part_161 : decode cX6_part 161 = .ok (.ior, 1) := by decide +kernel
theorem dX6_part_162 : decode cX6_part 162 = .ok (.putfield 84, 3) := by decide +kernel
theorem dX6_part_165 : decode cX6_part 165 = .ok (.iinc 5 1, 3) := by decide +kernel
theorem dX6_part_168 : decode cX6_part 168 = .ok (.goto (-137), 3) := by decide +kernel
theorem dX6_part_171 : decode cX6_part 171 = .ok (.return_, 1) := by decide +kernel
theorem dX6_pass_0 : decode cX6_pass 0 = .ok (.aload_n 0, 1) := by decide +kernel
theorem dX6_pass_1 : decode cX6_pass 1 = .ok (.aload_n 1, 1) := by decide +kernel
theorem dX6_pass_2 : decode cX6_pass 2 = .ok (.aload_n 1, 1) := by decide +kernel
theorem dX6_pass_3 : decode cX6_pass 3 = .ok (.getfield 94, 3) := by decide +kernel
theorem dX6_pass_6 : decode cX6_pass 6 = .ok (.aload_n 2, 1) := by decide +kernel
theorem dX6_pass_7 : decode cX6_pass 7 = .ok (.invokevirtual 97, 3) := by decide +kernel
theorem dX6_pass_10 : decode cX6_pass 10 = .ok (.iconst 0, 1) := by decide +kernel
theorem dX6_pass_11 : decode cX6_pass 11 = .ok (.istore_n 3, 1) := by decide +kernel
theorem dX6_pass_12 : decode cX6_pass 12 = .ok (.iload_n 3, 1) := by decide +kernel
theorem dX6_pass_13 : decode cX6_pass 13 = .ok (.aload_n 0, 1) := by decide +kernel
theorem dX6_pass_14 : decode cX6_pass 14 = .ok (.getfield 38, 3) := by decide +kernel
theorem dX6_pass_17 : decode cX6_pass 17 = .ok (.if_icmp .ge 20, 3) := by decide +kernel
theorem dX6_pass_20 : decode cX6_pass 20 = .ok (.aload_n 1, 1) := by decide +kernel
theorem dX6_pass_21 : decode cX6_pass 21 = .ok (.iload_n 3, 1) := by decide +kernel
theorem dX6_pass_22 : decode cX6_pass 22 = .ok (.aload_n 0, 1) := by decide +kernel
theorem dX6_pass_23 : decode cX6_pass 23 = .ok (.getfield 24, 3) := by decide +kernel
theorem dX6_pass_26 : decode cX6_pass 26 = .ok (.iload_n 3, 1) := by decide +kernel
theorem dX6_pass_27 : decode cX6_pass 27 = .ok (.iaload, 1) := by decide +kernel
theorem dX6_pass_28 : decode cX6_pass 28 = .ok (.invokevirtual 101, 3) := by decide +kernel
theorem dX6_pass_31 : decode cX6_pass 31 = .ok (.iinc 3 1, 3) := by decide +kernel
theorem dX6_pass_34 : decode cX6_pass 34 = .ok (.goto (-22), 3) := by decide +kernel
theorem dX6_pass_37 : decode cX6_pass 37 = .ok (.aload_n 1, 1) := by decide +kernel
theorem dX6_pass_38 : decode cX6_pass 38 = .ok (.aload_n 0, 1) := by decide +kernel
theorem dX6_pass_39 : decode cX6_pass 39 = .ok (.getfield 81, 3) := by decide +kernel
theorem dX6_pass_42 : decode cX6_pass 42 = .ok (.invokevirtual 105, 3) := by decide +kernel
theorem dX6_pass_45 : decode cX6_pass 45 = .ok (.aload_n 1, 1) := by decide +kernel
theorem dX6_pass_46 : decode cX6_pass 46 = .ok (.sipush 9999, 3) := by decide +kernel
theorem dX6_pass_49 : decode cX6_pass 49 = .ok (.aload_n 1, 1) := by decide +kernel
theorem dX6_pass_50 : decode cX6_pass 50 = .ok (.getfield 109, 3) := by decide +kernel
theorem dX6_pass_53 : decode cX6_pass 53 = .ok (.aload_n 0, 1) := by decide +kernel
theorem dX6_pass_54 : decode cX6_pass 54 = .ok (.getfield 78, 3) := by decide +kernel
theorem dX6_pass_57 : decode cX6_pass 57 = .ok (.iadd, 1) := by decide +kernel
theorem dX6_pass_58 : decode cX6_pass 58 = .ok (.invokestatic 44, 3) := by decide +kernel
theorem dX6_pass_61 : decode cX6_pass 61 = .ok (.putfield 109, 3) := by decide +kernel
theorem dX6_pass_64 : decode cX6_pass 64 = .ok (.aload_n 1, 1) := by decide +kernel
theorem dX6_pass_65 : decode cX6_pass 65 = .ok (.getfield 73, 3) := by decide +kernel
theorem dX6_pass_68 : decode cX6_pass 68 = .ok (.bipush 7, 2) := by decide +kernel
theorem dX6_pass_70 : decode cX6_pass 70 = .ok (.irem, 1) := by decide +kernel
theorem dX6_pass_71 : decode cX6_pass 71 = .ok (.bipush 6, 2) := by decide +kernel
theorem dX6_pass_73 : decode cX6_pass 73 = .ok (.if_icmp .ne 18, 3) := by decide +kernel
theorem dX6_pass_76 : decode cX6_pass 76 = .ok (.aload_n 1, 1) := by decide +kernel
theorem dX6_pass_77 : decode cX6_pass 77 = .ok (.aload_n 1, 1) := by decide +kernel
theorem dX6_pass_78 : decode cX6_pass 78 = .ok (.getfield 112, 3) := by decide +kernel
theorem dX6_pass_81 : decode cX6_pass 81 = .ok (.aload_n 1, 1) := by decide +kernel
theorem dX6_pass_82 : decode cX6_pass 82 = .ok (.getfield 115, 3) := by decide +kernel
theorem dX6_pass_85 : decode cX6_pass 85 = .ok (.invokestatic 118, 3) := by decide +kernel
theorem dX6_pass_88 : decode cX6_pass 88 = .ok (.putfield 112, 3) := by decide +kernel
theorem dX6_pass_91 : decode cX6_pass 91 = .ok (.aload_n 1, 1) := by decide +kernel
theorem dX6_pass_92 : decode cX6_pass 92 = .ok (.dup, 1) := by decide +kernel
theorem dX6_pass_93 : decode cX6_pass 93 = .ok (.getfield 73, 3) := by decide +kernel
theorem dX6_pass_96 : decode cX6_pass 96 = .ok (.iconst 1, 1) := by decide +kernel
theorem dX6_pass_97 : decode cX6_pass 97 = .ok (.iadd, 1) := by decide +kernel
theorem dX6_pass_98 : decode cX6_pass 98 = .ok (.putfield 73, 3) := by decide +kernel
theorem dX6_pass_101 : decode cX6_pass 101 = .ok (.return_, 1) := by decide +kernel
theorem dX7_init_0 : decode cX7_init 0 = .ok (.aload_n 0, 1) := by decide +kernel
theorem dX7_init_1 : decode cX7_init 1 = .ok (.invokespecial 3, 3) := by decide +kernel
theorem dX7_init_4 : decode cX7_init 4 = .ok (.aload_n 0, 1) := by decide +kernel
theorem dX7_init_5 : decode cX7_init 5 = .ok (.bipush 80, 2) := by decide +kernel
theorem dX7_init_7 : decode cX7_init 7 = .ok (.newarray .int, 2) := by decide +kernel
theorem dX7_init_9 : decode cX7_init 9 = .ok (.putfield 9, 3) := by decide +kernel
theorem dX7_init_12 : decode cX7_init 12 = .ok (.return_, 1) := by decide +kernel
theorem dX7_add_0 : decode cX7_add 0 = .ok (.aload_n 0, 1) := by decide +kernel
theorem dX7_add_1 : decode cX7_add 1 = .ok (.getfield 15, 3) := by decide +kernel
theorem dX7_add_4 : decode cX7_add 4 = .ok (.ifCond .lt 12, 3) := by decide +kernel
theorem dX7_add_7 : decode cX7_add 7 = .ok (.aload_n 0, 1) := by decide +kernel
theorem dX7_add_8 : decode cX7_add 8 = .ok (.getfield 15, 3) := by decide +kernel
theorem dX7_add_11 : decode cX7_add 11 = .ok (.bipush 76, 2) := by decide +kernel
theorem dX7_add_13 : decode cX7_add 13 = .ok (.if_icmp .le 5, 3) := by decide +kernel
theorem dX7_add_16 : decode cX7_add 16 = .ok (.iconst 0, 1) := by decide +kernel
theorem dX7_add_17 : decode cX7_add 17 = .ok (.ireturn, 1) := by decide +kernel
theorem dX7_add_18 : decode cX7_add 18 = .ok (.bipush 24, 2) := by decide +kernel
theorem dX7_add_20 : decode cX7_add 20 = .ok (.istore_n 2, 1) := by decide +kernel
theorem dX7_add_21 : decode cX7_add 21 = .ok (.iload_n 2, 1) := by decide +kernel
theorem dX7_add_22 : decode cX7_add 22 = .ok (.ifCond .lt 35, 3) := by decide +kernel
theorem dX7_add_25 : decode cX7_add 25 = .ok (.aload_n 0, 1) := by decide +kernel
theorem dX7_add_26 : decode cX7_add 26 = .ok (.getfield 9, 3) := by decide +kernel
theorem dX7_add_29 : decode cX7_add 29 = .ok (.aload_n 0, 1) := by decide +kernel
theorem dX7_add_30 : decode cX7_add 30 = .ok (.getfield 15, 3) := by decide +kernel
theorem dX7_add_33 : decode cX7_add 33 = .ok (.iload_n 1, 1) := by decide +kernel
theorem dX7_add_34 : decode cX7_add 34 = .ok (.iload_n 2, 1) := by decide +kernel
theorem dX7_add_35 : decode cX7_add 35 = .ok (.iushr, 1) := by decide +kernel
theorem dX7_add_36 : decode cX7_add 36 = .ok (.sipush 255, 3) := by decide +kernel
theorem dX7_add_39 : decode cX7_add 39 = .ok (.iand, 1) := by decide +kernel
theorem dX7_add_40 : decode cX7_add 40 = .ok (.iastore, 1) := by decide +kernel
theorem dX7_add_41 : decode cX7_add 41 = .ok (.aload_n 0, 1) := by decide +kernel
theorem dX7_add_42 : decode cX7_add 42 = .ok (.dup, 1) := by decide +kernel
theorem dX7_add_43 : decode cX7_add 43 = .ok (.getfield 15, 3) := by decide +kernel
theorem dX7_add_46 : decode cX7_add 46 = .ok (.iconst 1, 1) := by decide +kernel
theorem dX7_add_47 : decode cX7_add 47 = .ok (.iadd, 1) := by decide +kernel
theorem dX7_add_48 : decode cX7_add 48 = .ok (.putfield 15, 3) := by decide +kernel
theorem dX7_add_51 : decode cX7_add 51 = .ok (.iinc 2 (-8), 3) := by decide +kernel
theorem dX7_add_54 : decode cX7_add 54 = .ok (.goto (-33), 3) := by decide +kernel
theorem dX7_add_57 : decode cX7_add 57 = .ok (.iconst 1, 1) := by decide +kernel
theorem dX7_add_58 : decode cX7_add 58 = .ok (.ireturn, 1) := by decide +kernel
theorem dX7_at_0 : decode cX7_at 0 = .ok (.iload_n 1, 1) := by decide +kernel
theorem dX7_at_1 : decode cX7_at 1 = .ok (.ifCond .lt 20, 3) := by decide +kernel
theorem dX7_at_4 : decode cX7_at 4 = .ok (.iload_n 1, 1) := by decide +kernel
theorem dX7_at_5 : decode cX7_at 5 = .ok (.aload_n 0, 1) := by decide +kernel
theorem dX7_at_6 : decode cX7_at 6 = .ok (.getfield 15, 3) := by decide +kernel
theorem dX7_at_9 : decode cX7_at 9 = .ok (.if_icmp .ge 12, 3) := by decide +kernel
theorem dX7_at_12 : decode cX7_at 12 = .ok (.aload_n 0, 1) := by decide +kernel
theorem dX7_at_13 : decode cX7_at 13 = .ok (.getfield 9, 3) := by decide +kernel
theorem dX7_at_16 : decode cX7_at 16 = .ok (.iload_n 1, 1) := by decide +kernel
theorem dX7_at_17 : decode cX7_at 17 = .ok (.iaload, 1) := by decide +kernel
theorem dX7_at_18 : decode cX7_at 18 = .ok (.goto 4, 3) := by decide +kernel
theorem dX7_at_21 : decode cX7_at 21 = .ok (.iconst (-1), 1) := by decide +kernel
theorem dX7_at_22 : decode cX7_at 22 = .ok (.ireturn, 1) := by decide +kernel
theorem dX7_digit_0 : decode cX7_digit 0 = .ok (.aload_n 0, 1) := by decide +kernel
theorem dX7_digit_1 : decode cX7_digit 1 = .ok (.iload_n 1, 1) := by decide +kernel
theorem dX7_digit_2 : decode cX7_digit 2 = .ok (.invokevirtual 19, 3) := by decide +kernel
theorem dX7_digit_5 : decode cX7_digit 5 = .ok (.istore_n 2, 1) := by decide +kernel
theorem dX7_digit_6 : decode cX7_digit 6 = .ok (.iload_n 2, 1) := by decide +kernel
theorem dX7_digit_7 : decode cX7_digit 7 = .ok (.bipush 48, 2) := by decide +kernel
theorem dX7_digit_9 : decode cX7_digit 9 = .ok (.if_icmp .lt 16, 3) := by decide +kernel
theorem dX7_digit_12 : decode cX7_digit 12 = .ok (.iload_n 2, 1) := by decide +kernel
theorem dX7_digit_13 : decode cX7_digit 13 = .ok (.bipush 57, 2) := by decide +kernel
theorem dX7_digit_15 : decode cX7_digit 15 = .ok (.if_icmp .gt 10, 3) := by decide +kernel
theorem dX7_digit_18 : decode cX7_digit 18 = .ok (.iload_n 2, 1) := by decide +kernel
theorem dX7_digit_19 : decode cX7_digit 19 = .ok (.bipush 48, 2) := by decide +kernel
theorem dX7_digit_21 : decode cX7_digit 21 = .ok (.isub, 1) := by decide +kernel
theorem dX7_digit_22 : decode cX7_digit 22 = .ok (.goto 4, 3) := by decide +kernel
theorem dX7_digit_25 : decode cX7_digit 25 = .ok (.iconst (-1), 1) := by decide +kernel
theorem dX7_digit_26 : decode cX7_digit 26 = .ok (.ireturn, 1) := by decide +kernel
