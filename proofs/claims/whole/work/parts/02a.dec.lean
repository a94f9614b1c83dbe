theorem dX0_init_0 : decode cX0_init 0 = .ok (.aload_n 0, 1) := by decide +kernel
theorem dX0_init_1 : decode cX0_init 1 = .ok (.invokespecial 3, 3) := by decide +kernel
theorem dX0_init_4 : decode cX0_init 4 = .ok (.aload_n 0, 1) := by decide +kernel
theorem dX0_init_5 : decode cX0_init 5 = .ok (.bipush 6, 2) := by decide +kernel
theorem dX0_init_7 : decode cX0_init 7 = .ok (.newarray .int, 2) := by decide +kernel
theorem dX0_init_9 : decode cX0_init 9 = .ok (.putfield 9, 3) := by decide +kernel
theorem dX0_init_12 : decode cX0_init 12 = .ok (.aload_n 0, 1) := by decide +kernel
theorem dX0_init_13 : decode cX0_init 13 = .ok (.bipush 6, 2) := by decide +kernel
theorem dX0_init_15 : decode cX0_init 15 = .ok (.newarray .int, 2) := by decide +kernel
theorem dX0_init_17 : decode cX0_init 17 = .ok (.putfield 15, 3) := by decide +kernel
theorem dX0_init_20 : decode cX0_init 20 = .ok (.return_, 1) := by decide +kernel
theorem dX0_spread_0 : decode cX0_spread 0 = .ok (.iconst 0, 1) := by decide +kernel
theorem dX0_spread_1 : decode cX0_spread 1 = .ok (.istore_n 3, 1) := by decide +kernel
theorem dX0_spread_2 : decode cX0_spread 2 = .ok (.iconst 0, 1) := by decide +kernel
theorem dX0_spread_3 : decode cX0_spread 3 = .ok (.istore 4, 2) := by decide +kernel
theorem dX0_spread_5 : decode cX0_spread 5 = .ok (.iload 4, 2) := by decide +kernel
theorem dX0_spread_7 : decode cX0_spread 7 = .ok (.bipush 6, 2) := by decide +kernel
theorem dX0_spread_9 : decode cX0_spread 9 = .ok (.if_icmp .ge 57, 3) := by decide +kernel
theorem dX0_spread_12 : decode cX0_spread 12 = .ok (.aload_n 0, 1) := by decide +kernel
theorem dX0_spread_13 : decode cX0_spread 13 = .ok (.getfield 15, 3) := by decide +kernel
theorem dX0_spread_16 : decode cX0_spread 16 = .ok (.iload 4, 2) := by decide +kernel
theorem dX0_spread_18 : decode cX0_spread 18 = .ok (.aload_n 1, 1) := by decide +kernel
theorem dX0_spread_19 : decode cX0_spread 19 = .ok (.iload 4, 2) := by decide +kernel
theorem dX0_spread_21 : decode cX0_spread 21 = .ok (.invokevirtual 18, 3) := by decide +kernel
theorem dX0_spread_24 : decode cX0_spread 24 = .ok (.invokestatic 24, 3) := by decide +kernel
theorem dX0_spread_27 : decode cX0_spread 27 = .ok (.iastore, 1) := by decide +kernel
theorem dX0_spread_28 : decode cX0_spread 28 = .ok (.aload_n 0, 1) := by decide +kernel
theorem dX0_spread_29 : decode cX0_spread 29 = .ok (.getfield 9, 3) := by decide +kernel
theorem dX0_spread_32 : decode cX0_spread 32 = .ok (.iload 4, 2) := by decide +kernel
theorem dX0_spread_34 : decode cX0_spread 34 = .ok (.aload_n 0, 1) := by decide +kernel
theorem dX0_spread_35 : decode cX0_spread 35 = .ok (.getfield 15, 3) := by decide +kernel
theorem dX0_spread_38 : decode cX0_spread 38 = .ok (.iload 4, 2) := by decide +kernel
theorem dX0_spread_40 : decode cX0_spread 40 = .ok (.iaload, 1) := by decide +kernel
theorem dX0_spread_41 : decode cX0_spread 41 = .ok (.ifCond .le 7, 3) := by decide +kernel
theorem dX0_spread_44 : decode cX0_spread 44 = .ok (.iconst 1, 1) := by decide +kernel
theorem dX0_spread_45 : decode cX0_spread 45 = .ok (.goto 4, 3) := by decide +kernel
theorem dX0_spread_48 : decode cX0_spread 48 = .ok (.iconst 0, 1) := by decide +kernel
theorem dX0_spread_49 : decode cX0_spread 49 = .ok (.iastore, 1) := by decide +kernel
theorem dX0_spread_50 : decode cX0_spread 50 = .ok (.iload_n 3, 1) := by decide +kernel
theorem dX0_spread_51 : decode cX0_spread 51 = .ok (.aload_n 0, 1) := by decide +kernel
theorem dX0_spread_52 : decode cX0_spread 52 = .ok (.getfield 9, 3) := by decide +kernel
theorem dX0_spread_55 : decode cX0_spread 55 = .ok (.iload 4, 2) := by decide +kernel
theorem dX0_spread_57 : decode cX0_spread 57 = .ok (.iaload, 1) := by decide +kernel
theorem dX0_spread_58 : decode cX0_spread 58 = .ok (.iadd, 1) := by decide +kernel
theorem dX0_spread_59 : decode cX0_spread 59 = .ok (.istore_n 3, 1) := by decide +kernel
theorem dX0_spread_60 : decode cX0_spread 60 = .ok (.iinc 4 1, 3) := by decide +kernel
theorem dX0_spread_63 : decode cX0_spread 63 = .ok (.goto (-58), 3) := by decide +kernel
theorem dX0_spread_66 : decode cX0_spread 66 = .ok (.iload_n 3, 1) := by decide +kernel
theorem dX0_spread_67 : decode cX0_spread 67 = .ok (.istore 4, 2) := by decide +kernel
theorem dX0_spread_69 : decode cX0_spread 69 = .ok (.iload 4, 2) := by decide +kernel
theorem dX0_spread_71 : decode cX0_spread 71 = .ok (.iload_n 2, 1) := by decide +kernel
theorem dX0_spread_72 : decode cX0_spread 72 = .ok (.if_icmp .ge 38, 3) := by decide +kernel
theorem dX0_spread_75 : decode cX0_spread 75 = .ok (.aload_n 0, 1) := by decide +kernel
theorem dX0_spread_76 : decode cX0_spread 76 = .ok (.invokevirtual 29, 3) := by decide +kernel
theorem dX0_spread_79 : decode cX0_spread 79 = .ok (.istore 5, 2) := by decide +kernel
theorem dX0_spread_81 : decode cX0_spread 81 = .ok (.iload 5, 2) := by decide +kernel
theorem dX0_spread_83 : decode cX0_spread 83 = .ok (.iconst (-1), 1) := by decide +kernel
theorem dX0_spread_84 : decode cX0_spread 84 = .ok (.if_icmp .ne 6, 3) := by decide +kernel
theorem dX0_spread_87 : decode cX0_spread 87 = .ok (.goto 23, 3) := by decide +kernel
theorem dX0_spread_90 : decode cX0_spread 90 = .ok (.aload_n 0, 1) := by decide +kernel
theorem dX0_spread_91 : decode cX0_spread 91 = .ok (.getfield 9, 3) := by decide +kernel
theorem dX0_spread_94 : decode cX0_spread 94 = .ok (.iload 5, 2) := by decide +kernel
theorem dX0_spread_96 : decode cX0_spread 96 = .ok (.dup2, 1) := by decide +kernel
theorem dX0_spread_97 : decode cX0_spread 97 = .ok (.iaload, 1) := by decide +kernel
theorem dX0_spread_98 : decode cX0_spread 98 = .ok (.iconst 1, 1) := by decide +kernel
theorem dX0_spread_99 : decode cX0_spread 99 = .ok (.iadd, 1) := by decide +kernel
theorem dX0_spread_100 : decode cX0_spread 100 = .ok (.iastore, 1) := by decide +kernel
theorem dX0_spread_101 : decode cX0_spread 101 = .ok (.iinc 3 1, 3) := by decide +kernel
theorem dX0_spread_104 : decode cX0_spread 104 = .ok (.iinc 4 1, 3) := by decide +kernel
theorem dX0_spread_107 : decode cX0_spread 107 = .ok (.goto (-38), 3) := by decide +kernel
theorem dX0_spread_110 : decode cX0_spread 110 = .ok (.iload_n 3, 1) := by decide +kernel
theorem dX0_spread_111 : decode cX0_spread 111 = .ok (.ireturn, 1) := by decide +kernel
theorem dX0_neediest_0 : decode cX0_neediest 0 = .ok (.iconst (-1), 1) := by decide +kernel
theorem dX0_neediest_1 : decode cX0_neediest 1 = .ok (.istore_n 1, 1) := by decide +kernel
theorem dX0_neediest_2 : decode cX0_neediest 2 = .ok (.iconst 0, 1) := by decide +kernel
theorem dX0_neediest_3 : decode cX0_neediest 3 = .ok (.istore_n 2, 1) := by decide +kernel
theorem dX0_neediest_4 : decode cX0_neediest 4 = .ok (.iload_n 2, 1) := by decide +kernel
theorem dX0_neediest_5 : decode cX0_neediest 5 = .ok (.bipush 6, 2) := by decide +kernel
theorem dX0_neediest_7 : decode cX0_neediest 7 = .ok (.if_icmp .ge 55, 3) := by decide +kernel
theorem dX0_neediest_10 : decode cX0_neediest 10 = .ok (.aload_n 0, 1) := by decide +kernel
theorem dX0_neediest_11 : decode cX0_neediest 11 = .ok (.getfield 15, 3) := by decide +kernel
theorem dX0_neediest_14 : decode cX0_neediest 14 = .ok (.iload_n 2, 1) := by decide +kernel
theorem dX0_neediest_15 : decode cX0_neediest 15 = .ok (.iaload, 1) := by decide +kernel
theorem dX0_neediest_16 : decode cX0_neediest 16 = .ok (.ifCond .le 18, 3) := by decide +kernel
theorem dX0_neediest_19 : decode cX0_neediest 19 = .ok (.aload_n 0, 1) := by decide +kernel
theorem dX0_neediest_20 : decode cX0_neediest 20 = .ok (.getfield 9, 3) := by decide +kernel
theorem dX0_neediest_23 : decode cX0_neediest 23 = .ok (.iload_n 2, 1) := by decide +kernel
theorem dX0_neediest_24 : decode cX0_neediest 24 = .ok (.iaload, 1) := by decide +kernel
theorem dX0_neediest_25 : decode cX0_neediest 25 = .ok (.bipush 20, 2) := by decide +kernel
theorem dX0_neediest_27 : decode cX0_neediest 27 = .ok (.if_icmp .ge 7, 3) := by decide +kernel
theorem dX0_neediest_30 : decode cX0_neediest 30 = .ok (.iconst 1, 1) := by decide +kernel
theorem dX0_neediest_31 : decode cX0_neediest 31 = .ok (.goto 4, 3) := by decide +kernel
theorem dX0_neediest_34 : decode cX0_neediest 34 = .ok (.iconst 0, 1) := by decide +kernel
theorem dX0_neediest_35 : decode cX0_neediest 35 = .ok (.istore_n 3, 1) := by decide +kernel
theorem dX0_neediest_36 : decode cX0_neediest 36 = .ok (.iload_n 3, 1) := by decide +kernel
theorem dX0_neediest_37 : decode cX0_neediest 37 = .ok (.ifCond .eq 19, 3) := by decide +kernel
theorem dX0_neediest_40 : decode cX0_neediest 40 = .ok (.iload_n 1, 1) := by decide +kernel
theorem dX0_neediest_41 : decode cX0_neediest 41 = .ok (.iconst (-1), 1) := by decide +kernel
theorem dX0_neediest_42 : decode cX0_neediest 42 = .ok (.if_icmp .eq 12, 3) := by decide +kernel
theorem dX0_neediest_45 : decode cX0_neediest 45 = .ok (.aload_n 0, 1) := by decide +kernel
theorem dX0_neediest_46 : decode cX0_neediest 46 = .ok (.iload_n 2, 1) := by decide +kernel
theorem dX0_neediest_47 : decode cX0_neediest 47 = .ok (.iload_n 1, 1) := by decide +kernel
theorem dX0_neediest_48 : decode cX0_neediest 48 = .ok (.invokevirtual 33, 3) := by decide +kernel
theorem dX0_neediest_51 : decode cX0_neediest 51 = .ok (.ifCond .eq 5, 3) := by decide +kernel
theorem dX0_neediest_54 : decode cX0_neediest 54 = .ok (.iload_n 2, 1) := by decide +kernel
theorem dX0_neediest_55 : decode cX0_neediest 55 = .ok (.istore_n 1, 1) := by decide +kernel
theorem dX0_neediest_56 : decode cX0_neediest 56 = .ok (.iinc 2 1, 3) := by decide +kernel
theorem dX0_neediest_59 : decode cX0_neediest 59 = .ok (.goto (-55), 3) := by decide +kernel
theorem dX0_neediest_62 : decode cX0_neediest 62 = .ok (.iload_n 1, 1) := by decide +kernel
theorem dX0_neediest_63 : decode cX0_neediest 63 = .ok (.ireturn, 1) := by decide +kernel
theorem dX0_needier_0 : decode cX0_needier 0 = .ok (.aload_n 0, 1) := by decide +kernel
theorem dX0_needier_1 : decode cX0_needier 1 = .ok (.getfield 9, 3) := by decide +kernel
theorem dX0_needier_4 : decode cX0_needier 4 = .ok (.iload_n 1, 1) := by decide +kernel
theorem dX0_needier_5 : decode cX0_needier 5 = .ok (.iaload, 1) := by decide +kernel
theorem dX0_needier_6 : decode cX0_needier 6 = .ok (.aload_n 0, 1) := by decide +kernel
theorem dX0_needier_7 : decode cX0_needier 7 = .ok (.getfield 15, 3) := by decide +kernel
theorem dX0_needier_10 : decode cX0_needier 10 = .ok (.iload_n 2, 1) := by decide +kernel
theorem dX0_needier_11 : decode cX0_needier 11 = .ok (.iaload, 1) := by decide +kernel
theorem dX0_needier_12 : decode cX0_needier 12 = .ok (.imul, 1) := by decide +kernel
theorem dX0_needier_13 : decode cX0_needier 13 = .ok (.aload_n 0, 1) := by decide +kernel
theorem dX0_needier_14 : decode cX0_needier 14 = .ok (.getfield 9, 3) := by decide +kernel
theorem dX0_needier_17 : decode cX0_needier 17 = .ok (.iload_n 2, 1) := by decide +kernel
theorem dX0_needier_18 : decode cX0_needier 18 = .ok (.iaload, 1) := by decide +kernel
theorem dX0_needier_19 : decode cX0_needier 19 = .ok (.aload_n 0, 1) := by decide +kernel
theorem dX0_needier_20 : decode cX0_needier 20 = .ok (.getfield 15, 3) := by decide +kernel
theorem dX0_needier_23 : decode cX0_needier 23 = .ok (.iload_n 1, 1) := by decide +kernel
theorem dX0_needier_24 : decode cX0_needier 24 = .ok (.iaload, 1) := by decide +kernel
theorem dX0_needier_25 : decode cX0_needier 25 = .ok (.imul, 1) := by decide +kernel
theorem dX0_needier_26 : decode cX0_needier 26 = .ok (.if_icmp .ge 7, 3) := by decide +kernel
theorem dX0_needier_29 : decode cX0_needier 29 = .ok (.iconst 1, 1) := by decide +kernel
theorem dX0_needier_30 : decode cX0_needier 30 = .ok (.goto 4, 3) := by decide +kernel
theorem dX0_needier_33 : decode cX0_needier 33 = .ok (.iconst 0, 1) := by decide +kernel
theorem dX0_needier_34 : decode cX0_needier 34 = .ok (.ireturn, 1) := by decide +kernel
theorem dX1_init_0 : decode cX1_init 0 = .ok (.aload_n 0, 1) := by decide +kernel
theorem dX1_init_1 : decode cX1_init 1 = .ok (.invokespecial 3, 3) := by decide +kernel
theorem dX1_init_4 : decode cX1_init 4 = .ok (.aload_n 0, 1) := by decide +kernel
theorem dX1_init_5 : decode cX1_init 5 = .ok (.new 9, 3) := by decide +kernel
theorem dX1_init_8 : decode cX1_init 8 = .ok (.dup, 1) := by decide +kernel
theorem dX1_init_9 : decode cX1_init 9 = .ok (.invokespecial 11, 3) := by decide +kernel
theorem dX1_init_12 : decode cX1_init 12 = .ok (.putfield 12, 3) := by decide +kernel
theorem dX1_init_15 : decode cX1_init 15 = .ok (.aload_n 0, 1) := by decide +kernel
theorem dX1_init_16 : decode cX1_init 16 = .ok (.bipush 48, 2) := by decide +kernel
theorem dX1_init_18 : decode cX1_init 18 = .ok (.newarray .int, 2) := by decide +kernel
theorem dX1_init_20 : decode cX1_init 20 = .ok (.putfield 18, 3) := by decide +kernel
theorem dX1_init_23 : decode cX1_init 23 = .ok (.aload_n 0, 1) := by decide +kernel
theorem dX1_init_24 : decode cX1_init 24 = .ok (.bipush 48, 2) := by decide +kernel
theorem dX1_init_26 : decode cX1_init 26 = .ok (.newarray .int, 2) := by decide +kernel
theorem dX1_init_28 : decode cX1_init 28 = .ok (.putfield 22, 3) := by decide +kernel
theorem dX1_init_31 : decode cX1_init 31 = .ok (.aload_n 0, 1) := by decide +kernel
theorem dX1_init_32 : decode cX1_init 32 = .ok (.bipush 48, 2) := by decide +kernel
theorem dX1_init_34 : decode cX1_init 34 = .ok (.newarray .int, 2) := by decide +kernel
theorem dX1_init_36 : decode cX1_init 36 = .ok (.putfield 25, 3) := by decide +kernel
theorem dX1_init_39 : decode cX1_init 39 = .ok (.aload_n 0, 1) := by decide +kernel
theorem dX1_init_40 : decode cX1_init 40 = .ok (.bipush 6, 2) := by decide +kernel
theorem dX1_init_42 : decode cX1_init 42 = .ok (.newarray .boolean, 2) := by decide +kernel
theorem dX1_init_44 : decode cX1_init 44 = .ok (.putfield 28, 3) := by decide +kernel
theorem dX1_init_47 : decode cX1_init 47 = .ok (.aload_n 0, 1) := by decide +kernel
theorem dX1_init_48 : decode cX1_init 48 = .ok (.new 32, 3) := by decide +kernel
theorem dX1_init_51 : decode cX1_init 51 = .ok (.dup, 1) := by decide +kernel
theorem dX1_init_52 : decode cX1_init 52 = .ok (.invokespecial 34, 3) := by decide +kernel
theorem dX1_init_55 : decode cX1_init 55 = .ok (.putfield 35, 3) := by decide +kernel
theorem dX1_init_58 : decode cX1_init 58 = .ok (.return_, 1) := by decide +kernel
theorem dX1_forget_0 : decode cX1_forget 0 = .ok (.iconst 0, 1) := by decide +kernel
theorem dX1_forget_1 : decode cX1_forget 1 = .ok (.istore_n 1, 1) := by decide +kernel
theorem dX1_forget_2 : decode cX1_forget 2 = .ok (.iload_n 1, 1) := by decide +kernel
theorem dX1_forget_3 : decode cX1_forget 3 = .ok (.bipush 6, 2) := by decide +kernel
theorem dX1_forget_5 : decode cX1_forget 5 = .ok (.if_icmp .ge 16, 3) := by decide +kernel
theorem dX1_forget_8 : decode cX1_forget 8 = .ok (.aload_n 0, 1) := by decide +kernel
theorem dX1_forget_9 : decode cX1_forget 9 = .ok (.getfield 28, 3) := by decide +kernel
theorem dX1_forget_12 : decode cX1_forget 12 = .ok (.iload_n 1, 1) := by decide +kernel
theorem dX1_forget_13 : decode cX1_forget 13 = .ok (.iconst 0, 1) := by decide +kernel
theorem dX1_forget_14 : decode cX1_forget 14 = .ok (.bastore, 1) := by decide +kernel
theorem dX1_forget_15 : decode cX1_forget 15 = .ok (.iinc 1 1, 3) := by decide +kernel
theorem dX1_forget_18 : decode cX1_forget 18 = .ok (.goto (-16), 3) := by decide +kernel
theorem dX1_forget_21 : decode cX1_forget 21 = .ok (.return_, 1) := by decide +kernel
theorem dX1_look_0 : decode cX1_look 0 = .ok (.aload_n 0, 1) := by decide +kernel
theorem dX1_look_1 : decode cX1_look 1 = .ok (.getfield 28, 3) := by decide +kernel
theorem dX1_look_4 : decode cX1_look 4 = .ok (.iload_n 1, 1) := by decide +kernel
theorem dX1_look_5 : decode cX1_look 5 = .ok (.baload, 1) := by decide +kernel
theorem dX1_look_6 : decode cX1_look 6 = .ok (.ifCond .eq 4, 3) := by decide +kernel
theorem dX1_look_9 : decode cX1_look 9 = .ok (.return_, 1) := by decide +kernel
theorem dX1_look_10 : decode cX1_look 10 = .ok (.aload_n 0, 1) := by decide +kernel
theorem dX1_look_11 : decode cX1_look 11 = .ok (.getfield 35, 3) := by decide +kernel
theorem dX1_look_14 : decode cX1_look 14 = .ok (.aload_n 0, 1) := by decide +kernel
theorem dX1_look_15 : decode cX1_look 15 = .ok (.getfield 12, 3) := by decide +kernel
theorem dX1_look_18 : decode cX1_look 18 = .ok (.iload_n 1, 1) := by decide +kernel
theorem dX1_look_19 : decode cX1_look 19 = .ok (.invokevirtual 39, 3) := by decide +kernel
theorem dX1_look_22 : decode cX1_look 22 = .ok (.iconst 0, 1) := by decide +kernel
theorem dX1_look_23 : decode cX1_look 23 = .ok (.istore_n 2, 1) := by decide +kernel
theorem dX1_look_24 : decode cX1_look 24 = .ok (.iload_n 2, 1) := by decide +kernel
theorem dX1_look_25 : decode cX1_look 25 = .ok (.bipush 8, 2) := by decide +kernel
theorem dX1_look_27 : decode cX1_look 27 = .ok (.if_icmp .ge 20, 3) := by decide +kernel
theorem dX1_look_30 : decode cX1_look 30 = .ok (.aload_n 0, 1) := by decide +kernel
theorem dX1_look_31 : decode cX1_look 31 = .ok (.iload_n 1, 1) := by decide +kernel
theorem dX1_look_32 : decode cX1_look 32 = .ok (.bipush 8, 2) := by decide +kernel
theorem dX1_look_34 : decode cX1_look 34 = .ok (.imul, 1) := by decide +kernel
theorem dX1_look_35 : decode cX1_look 35 = .ok (.iload_n 2, 1) := by decide +kernel
theorem dX1_look_36 : decode cX1_look 36 = .ok (.iadd, 1) := by decide +kernel
theorem dX1_look_37 : decode cX1_look 37 = .ok (.iload_n 2, 1) := by decide +kernel
theorem dX1_look_38 : decode cX1_look 38 = .ok (.invokevirtual 43, 3) := by decide +kernel
theorem dX1_look_41 : decode cX1_look 41 = .ok (.iinc 2 1, 3) := by decide +kernel
theorem dX1_look_44 : decode cX1_look 44 = .ok (.goto (-20), 3) := by decide +kernel
theorem dX1_look_47 : decode cX1_look 47 = .ok (.aload_n 0, 1) := by decide +kernel
theorem dX1_look_48 : decode cX1_look 48 = .ok (.getfield 28, 3) := by decide +kernel
theorem dX1_look_51 : decode cX1_look 51 = .ok (.iload_n 1, 1) := by decide +kernel
theorem dX1_look_52 : decode cX1_look 52 = .ok (.iconst 1, 1) := by decide +kernel
theorem dX1_look_53 : decode cX1_look 53 = .ok (.bastore, 1) := by decide +kernel
theorem dX1_look_54 : decode cX1_look 54 = .ok (.return_, 1) := by decide +kernel
theorem dX1_lookAt_0 : decode cX1_lookAt 0 = .ok (.aload_n 0, 1) := by decide +kernel
theorem dX1_lookAt_1 : decode cX1_lookAt 1 = .ok (.getfield 35, 3) := by decide +kernel
theorem dX1_lookAt_4 : decode cX1_lookAt 4 = .ok (.invokevirtual 47, 3) := by decide +kernel
theorem dX1_lookAt_7 : decode cX1_lookAt 7 = .ok (.istore_n 3, 1) := by decide +kernel
theorem dX1_lookAt_8 : decode cX1_lookAt 8 = .ok (.aload_n 0, 1) := by decide +kernel
theorem dX1_lookAt_9 : decode cX1_lookAt 9 = .ok (.getfield 12, 3) := by decide +kernel
theorem dX1_lookAt_12 : decode cX1_lookAt 12 = .ok (.getfield 51, 3) := by decide +kernel
theorem dX1_lookAt_15 : decode cX1_lookAt 15 = .ok (.iload_n 1, 1) := by decide +kernel
theorem dX1_lookAt_16 : decode cX1_lookAt 16 = .ok (.iaload, 1) := by decide +kernel
theorem dX1_lookAt_17 : decode cX1_lookAt 17 = .ok (.istore 4, 2) := by decide +kernel
theorem dX1_lookAt_19 : decode cX1_lookAt 19 = .ok (.iconst 0, 1) := by decide +kernel
theorem dX1_lookAt_20 : decode cX1_lookAt 20 = .ok (.istore 5, 2) := by decide +kernel
theorem dX1_lookAt_22 : decode cX1_lookAt 22 = .ok (.iconst 0, 1) := by decide +kernel
theorem dX1_lookAt_23 : decode cX1_lookAt 23 = .ok (.istore 6, 2) := by decide +kernel
theorem dX1_lookAt_25 : decode cX1_lookAt 25 = .ok (.iconst 0, 1) := by decide +kernel
theorem dX1_lookAt_26 : decode cX1_lookAt 26 = .ok (.istore 7, 2) := by decide +kernel
theorem dX1_lookAt_28 : decode cX1_lookAt 28 = .ok (.iconst 0, 1) := by decide +kernel
theorem dX1_lookAt_29 : decode cX1_lookAt 29 = .ok (.istore 8, 2) := by decide +kernel
theorem dX1_lookAt_31 : decode cX1_lookAt 31 = .ok (.iload 8, 2) := by decide +kernel
theorem dX1_lookAt_33 : decode cX1_lookAt 33 = .ok (.bipush 8, 2) := by decide +kernel
theorem dX1_lookAt_35 : decode cX1_lookAt 35 = .ok (.if_icmp .ge 95, 3) := by decide +kernel
theorem dX1_lookAt_38 : decode cX1_lookAt 38 = .ok (.iload 4, 2) := by decide +kernel
theorem dX1_lookAt_40 : decode cX1_lookAt 40 = .ok (.istore 9, 2) := by decide +kernel
theorem dX1_lookAt_42 : decode cX1_lookAt 42 = .ok (.iconst 0, 1) := by decide +kernel
theorem dX1_lookAt_43 : decode cX1_lookAt 43 = .ok (.istore 5, 2) := by decide +kernel
theorem dX1_lookAt_45 : decode cX1_lookAt 45 = .ok (.iconst 0, 1) := by decide +kernel
theorem dX1_lookAt_46 : decode cX1_lookAt 46 = .ok (.istore 6, 2) := by decide +kernel
theorem dX1_lookAt_48 : decode cX1_lookAt 48 = .ok (.iload_n 3, 1) := by decide +kernel
theorem dX1_lookAt_49 : decode cX1_lookAt 49 = .ok (.ifCond .le 8, 3) := by decide +kernel
theorem dX1_lookAt_52 : decode cX1_lookAt 52 = .ok (.ldc 54, 2) := by decide +kernel
theorem dX1_lookAt_54 : decode cX1_lookAt 54 = .ok (.goto 4, 3) := by decide +kernel
theorem dX1_lookAt_57 : decode cX1_lookAt 57 = .ok (.iconst 0, 1) := by decide +kernel
theorem dX1_lookAt_58 : decode cX1_lookAt 58 = .ok (.istore 7, 2) := by decide +kernel
theorem dX1_lookAt_60 : decode cX1_lookAt 60 = .ok (.iconst 0, 1) := by decide +kernel
theorem dX1_lookAt_61 : decode cX1_lookAt 61 = .ok (.istore 10, 2) := by decide +kernel
theorem dX1_lookAt_63 : decode cX1_lookAt 63 = .ok (.iload 10, 2) := by decide +kernel
theorem dX1_lookAt_65 : decode cX1_lookAt 65 = .ok (.iload_n 3, 1) := by decide +kernel
theorem dX1_lookAt_66 : decode cX1_lookAt 66 = .ok (.if_icmp .ge 48, 3) := by decide +kernel
theorem dX1_lookAt_69 : decode cX1_lookAt 69 = .ok (.aload_n 0, 1) := by decide +kernel
theorem dX1_lookAt_70 : decode cX1_lookAt 70 = .ok (.getfield 35, 3) := by decide +kernel
theorem dX1_lookAt_73 : decode cX1_lookAt 73 = .ok (.iload 10, 2) := by decide +kernel
theorem dX1_lookAt_75 : decode cX1_lookAt 75 = .ok (.iload 4, 2) := by decide +kernel
theorem dX1_lookAt_77 : decode cX1_lookAt 77 = .ok (.iload_n 2, 1) := by decide +kernel
theorem dX1_lookAt_78 : decode cX1_lookAt 78 = .ok (.invokevirtual 55, 3) := by decide +kernel
theorem dX1_lookAt_81 : decode cX1_lookAt 81 = .ok (.istore 4, 2) := by decide +kernel
theorem dX1_lookAt_83 : decode cX1_lookAt 83 = .ok (.iload 5, 2) := by decide +kernel
theorem dX1_lookAt_85 : decode cX1_lookAt 85 = .ok (.iload 4, 2) := by decide +kernel
theorem dX1_lookAt_87 : decode cX1_lookAt 87 = .ok (.iadd, 1) := by decide +kernel
theorem dX1_lookAt_88 : decode cX1_lookAt 88 = .ok (.istore 5, 2) := by decide +kernel
theorem dX1_lookAt_90 : decode cX1_lookAt 90 = .ok (.iload 6, 2) := by decide +kernel
theorem dX1_lookAt_92 : decode cX1_lookAt 92 = .ok (.iload 4, 2) := by decide +kernel
theorem dX1_lookAt_94 : decode cX1_lookAt 94 = .ok (.invokestatic 59, 3) := by decide +kernel
theorem dX1_lookAt_97 : decode cX1_lookAt 97 = .ok (.istore 6, 2) := by decide +kernel
theorem dX1_lookAt_99 : decode cX1_lookAt 99 = .ok (.iload 7, 2) := by decide +kernel
theorem dX1_lookAt_101 : decode cX1_lookAt 101 = .ok (.iload 4, 2) := by decide +kernel
theorem dX1_lookAt_103 : decode cX1_lookAt 103 = .ok (.invokestatic 65, 3) := by decide +kernel
theorem dX1_lookAt_106 : decode cX1_lookAt 106 = .ok (.istore 7, 2) := by decide +kernel
theorem dX1_lookAt_108 : decode cX1_lookAt 108 = .ok (.iinc 10 1, 3) := by decide +kernel
theorem dX1_lookAt_111 : decode cX1_lookAt 111 = .ok (.goto (-48), 3) := by decide +kernel
theorem dX1_lookAt_114 : decode cX1_lookAt 114 = .ok (.iload 4, 2) := by decide +kernel
theorem dX1_lookAt_116 : decode cX1_lookAt 116 = .ok (.iload 9, 2) := by decide +kernel
theorem dX1_lookAt_118 : decode cX1_lookAt 118 = .ok (.if_icmp .ne 6, 3) := by decide +kernel
theorem dX1_lookAt_121 : decode cX1_lookAt 121 = .ok (.goto 9, 3) := by decide +kernel
theorem dX1_lookAt_124 : decode cX1_lookAt 124 = .ok (.iinc 8 1, 3) := by decide +kernel
theorem dX1_lookAt_127 : decode cX1_lookAt 127 = .ok (.goto (-96), 3) := by decide +kernel
theorem dX1_lookAt_130 : decode cX1_lookAt 130 = .ok (.aload_n 0, 1) := by decide +kernel
theorem dX1_lookAt_131 : decode cX1_lookAt 131 = .ok (.getfield 18, 3) := by decide +kernel
theorem dX1_lookAt_134 : decode cX1_lookAt 134 = .ok (.iload_n 1, 1) := by decide +kernel
theorem dX1_lookAt_135 : decode cX1_lookAt 135 = .ok (.iload_n 3, 1) := by decide +kernel
theorem dX1_lookAt_136 : decode cX1_lookAt 136 = .ok (.ifCond .le 10, 3) := by decide +kernel
theorem dX1_lookAt_139 : decode cX1_lookAt 139 = .ok (.iload 5, 2) := by decide +kernel
theorem dX1_lookAt_141 : decode cX1_lookAt 141 = .ok (.iload_n 3, 1) := by decide +kernel
theorem dX1_lookAt_142 : decode cX1_lookAt 142 = .ok (.idiv, 1) := by decide +kernel
theorem dX1_lookAt_143 : decode cX1_lookAt 143 = .ok (.goto 4, 3) := by decide +kernel
theorem dX1_lookAt_146 : decode cX1_lookAt 146 = .ok (.iconst 0, 1) := by decide +kernel
theorem dX1_lookAt_147 : decode cX1_lookAt 147 = .ok (.iastore, 1) := by decide +kernel
theorem dX1_lookAt_148 : decode cX1_lookAt 148 = .ok (.aload_n 0, 1) := by decide +kernel
theorem dX1_lookAt_149 : decode cX1_lookAt 149 = .ok (.getfield 22, 3) := by decide +kernel
theorem dX1_lookAt_152 : decode cX1_lookAt 152 = .ok (.iload_n 1, 1) := by decide +kernel
theorem dX1_lookAt_153 : decode cX1_lookAt 153 = .ok (.iload 6, 2) := by decide +kernel
theorem dX1_lookAt_155 : decode cX1_lookAt 155 = .ok (.iastore, 1) := by decide +kernel
theorem dX1_lookAt_156 : decode cX1_lookAt 156 = .ok (.aload_n 0, 1) := by decide +kernel
theorem dX1_lookAt_157 : decode cX1_lookAt 157 = .ok (.getfield 25, 3) := by decide +kernel
theorem dX1_lookAt_160 : decode cX1_lookAt 160 = .ok (.iload_n 1, 1) := by decide +kernel
theorem dX1_lookAt_161 : decode cX1_lookAt 161 = .ok (.iload 7, 2) := by decide +kernel
theorem dX1_lookAt_163 : decode cX1_lookAt 163 = .ok (.iastore, 1) := by decide +kernel
theorem dX1_lookAt_164 : decode cX1_lookAt 164 = .ok (.return_, 1) := by decide +kernel
theorem dX1_seen_0 : decode cX1_seen 0 = .ok (.iconst 0, 1) := by decide +kernel
theorem dX1_seen_1 : decode cX1_seen 1 = .ok (.istore_n 2, 1) := by decide +kernel
theorem dX1_seen_2 : decode cX1_seen 2 = .ok (.iconst 0, 1) := by decide +kernel
theorem dX1_seen_3 : decode cX1_seen 3 = .ok (.istore_n 3, 1) := by decide +kernel
theorem dX1_seen_4 : decode cX1_seen 4 = .ok (.iload_n 3, 1) := by decide +kernel
theorem dX1_seen_5 : decode cX1_seen 5 = .ok (.bipush 8, 2) := by decide +kernel
theorem dX1_seen_7 : decode cX1_seen 7 = .ok (.if_icmp .ge 38, 3) := by decide +kernel
theorem dX1_seen_10 : decode cX1_seen 10 = .ok (.aload_n 0, 1) := by decide +kernel
theorem dX1_seen_11 : decode cX1_seen 11 = .ok (.getfield 18, 3) := by decide +kernel
theorem dX1_seen_14 : decode cX1_seen 14 = .ok (.iload_n 1, 1) := by decide +kernel
theorem dX1_seen_15 : decode cX1_seen 15 = .ok (.bipush 8, 2) := by decide +kernel
theorem dX1_seen_17 : decode cX1_seen 17 = .ok (.imul, 1) := by decide +kernel
theorem dX1_seen_18 : decode cX1_seen 18 = .ok (.iload_n 3, 1) := by decide +kernel
theorem dX1_seen_19 : decode cX1_seen 19 = .ok (.iadd, 1) := by decide +kernel
theorem dX1_seen_20 : decode cX1_seen 20 = .ok (.iaload, 1) := by decide +kernel
theorem dX1_seen_21 : decode cX1_seen 21 = .ok (.aload_n 0, 1) := by decide +kernel
theorem dX1_seen_22 : decode cX1_seen 22 = .ok (.getfield 12, 3) := by decide +kernel
theorem dX1_seen_25 : decode cX1_seen 25 = .ok (.getfield 68, 3) := by decide +kernel
theorem dX1_seen_28 : decode cX1_seen 28 = .ok (.iconst 3, 1) := by decide +kernel
theorem dX1_seen_29 : decode cX1_seen 29 = .ok (.iaload, 1) := by decide +kernel
theorem dX1_seen_30 : decode cX1_seen 30 = .ok (.if_icmp .lt 9, 3) := by decide +kernel
theorem dX1_seen_33 : decode cX1_seen 33 = .ok (.iload_n 2, 1) := by decide +kernel
theorem dX1_seen_34 : decode cX1_seen 34 = .ok (.iconst 1, 1) := by decide +kernel
theorem dX1_seen_35 : decode cX1_seen 35 = .ok (.iload_n 3, 1) := by decide +kernel
theorem dX1_seen_36 : decode cX1_seen 36 = .ok (.ishl, 1) := by decide +kernel
theorem dX1_seen_37 : decode cX1_seen 37 = .ok (.ior, 1) := by decide +kernel
theorem dX1_seen_38 : decode cX1_seen 38 = .ok (.istore_n 2, 1) := by decide +kernel
theorem dX1_seen_39 : decode cX1_seen 39 = .ok (.iinc 3 1, 3) := by decide +kernel
theorem dX1_seen_42 : decode cX1_seen 42 = .ok (.goto (-38), 3) := by decide +kernel
theorem dX1_seen_45 : decode cX1_seen 45 = .ok (.iload_n 2, 1) := by decide +kernel
theorem dX1_seen_46 : decode cX1_seen 46 = .ok (.ireturn, 1) := by decide +kernel
theorem dX1_readAs_0 : decode cX1_readAs 0 = .ok (.aload_n 0, 1) := by decide +kernel
theorem dX1_readAs_1 : decode cX1_readAs 1 = .ok (.iload_n 1, 1) := by decide +kernel
theorem dX1_readAs_2 : decode cX1_readAs 2 = .ok (.invokevirtual 71, 3) := by decide +kernel
theorem dX1_readAs_5 : decode cX1_readAs 5 = .ok (.bipush 127, 2) := by decide +kernel
theorem dX1_readAs_7 : decode cX1_readAs 7 = .ok (.iand, 1) := by decide +kernel
theorem dX1_readAs_8 : decode cX1_readAs 8 = .ok (.istore_n 2, 1) := by decide +kernel
theorem dX1_readAs_9 : decode cX1_readAs 9 = .ok (.iconst 0, 1) := by decide +kernel
theorem dX1_readAs_10 : decode cX1_readAs 10 = .ok (.istore_n 3, 1) := by decide +kernel
theorem dX1_readAs_11 : decode cX1_readAs 11 = .ok (.iload_n 3, 1) := by decide +kernel
theorem dX1_readAs_12 : decode cX1_readAs 12 = .ok (.bipush 18, 2) := by decide +kernel
theorem dX1_readAs_14 : decode cX1_readAs 14 = .ok (.if_icmp .ge 19, 3) := by decide +kernel
theorem dX1_readAs_17 : decode cX1_readAs 17 = .ok (.iload_n 3, 1) := by decide +kernel
theorem dX1_readAs_18 : decode cX1_readAs 18 = .ok (.invokestatic 75, 3) := by decide +kernel
theorem dX1_readAs_21 : decode cX1_readAs 21 = .ok (.iload_n 2, 1) := by decide +kernel
theorem dX1_readAs_22 : decode cX1_readAs 22 = .ok (.if_icmp .ne 5, 3) := by decide +kernel
theorem dX1_readAs_25 : decode cX1_readAs 25 = .ok (.iload_n 3, 1) := by decide +kernel
theorem dX1_readAs_26 : decode cX1_readAs 26 = .ok (.ireturn, 1) := by decide +kernel
theorem dX1_readAs_27 : decode cX1_readAs 27 = .ok (.iinc 3 1, 3) := by decide +kernel
theorem dX1_readAs_30 : decode cX1_readAs 30 = .ok (.goto (-19), 3) := by decide +kernel
theorem dX1_readAs_33 : decode cX1_readAs 33 = .ok (.iconst (-1), 1) := by decide +kernel
theorem dX1_readAs_34 : decode cX1_readAs 34 = .ok (.ireturn, 1) := by decide +kernel
theorem dX1_mean_0 : decode cX1_mean 0 = .ok (.aload_n 0, 1) := by decide +kernel
theorem dX1_mean_1 : decode cX1_mean 1 = .ok (.getfield 12, 3) := by decide +kernel
theorem dX1_mean_4 : decode cX1_mean 4 = .ok (.iload_n 1, 1) := by decide +kernel
theorem dX1_mean_5 : decode cX1_mean 5 = .ok (.invokevirtual 78, 3) := by decide +kernel
theorem dX1_mean_8 : decode cX1_mean 8 = .ok (.istore_n 2, 1) := by decide +kernel
theorem dX1_mean_9 : decode cX1_mean 9 = .ok (.iload_n 2, 1) := by decide +kernel
theorem dX1_mean_10 : decode cX1_mean 10 = .ok (.invokestatic 81, 3) := by decide +kernel
theorem dX1_mean_13 : decode cX1_mean 13 = .ok (.istore_n 3, 1) := by decide +kernel
theorem dX1_mean_14 : decode cX1_mean 14 = .ok (.iconst 0, 1) := by decide +kernel
theorem dX1_mean_15 : decode cX1_mean 15 = .ok (.istore 4, 2) := by decide +kernel
theorem dX1_mean_17 : decode cX1_mean 17 = .ok (.iconst 0, 1) := by decide +kernel
theorem dX1_mean_18 : decode cX1_mean 18 = .ok (.istore 5, 2) := by decide +kernel
theorem dX1_mean_20 : decode cX1_mean 20 = .ok (.iload 5, 2) := by decide +kernel
theorem dX1_mean_22 : decode cX1_mean 22 = .ok (.bipush 8, 2) := by decide +kernel
theorem dX1_mean_24 : decode cX1_mean 24 = .ok (.if_icmp .ge 36, 3) := by decide +kernel
theorem dX1_mean_27 : decode cX1_mean 27 = .ok (.iload_n 2, 1) := by decide +kernel
theorem dX1_mean_28 : decode cX1_mean 28 = .ok (.iload 5, 2) := by decide +kernel
theorem dX1_mean_30 : decode cX1_mean 30 = .ok (.invokestatic 86, 3) := by decide +kernel
theorem dX1_mean_33 : decode cX1_mean 33 = .ok (.iconst 1, 1) := by decide +kernel
theorem dX1_mean_34 : decode cX1_mean 34 = .ok (.if_icmp .ne 20, 3) := by decide +kernel
theorem dX1_mean_37 : decode cX1_mean 37 = .ok (.iload 4, 2) := by decide +kernel
theorem dX1_mean_39 : decode cX1_mean 39 = .ok (.aload_n 0, 1) := by decide +kernel
theorem dX1_mean_40 : decode cX1_mean 40 = .ok (.getfield 18, 3) := by decide +kernel
theorem dX1_mean_43 : decode cX1_mean 43 = .ok (.iload_n 1, 1) := by decide +kernel
theorem dX1_mean_44 : decode cX1_mean 44 = .ok (.bipush 8, 2) := by decide +kernel
theorem dX1_mean_46 : decode cX1_mean 46 = .ok (.imul, 1) := by decide +kernel
theorem dX1_mean_47 : decode cX1_mean 47 = .ok (.iload 5, 2) := by decide +kernel
theorem dX1_mean_49 : decode cX1_mean 49 = .ok (.iadd, 1) := by decide +kernel
theorem dX1_mean_50 : decode cX1_mean 50 = .ok (.iaload, 1) := by decide +kernel
theorem dX1_mean_51 : decode cX1_mean 51 = .ok (.iadd, 1) := by decide +kernel
theorem dX1_mean_52 : decode cX1_mean 52 = .ok (.istore 4, 2) := by decide +kernel
theorem dX1_mean_54 : decode cX1_mean 54 = .ok (.iinc 5 1, 3) := by decide +kernel
theorem dX1_mean_57 : decode cX1_mean 57 = .ok (.goto (-37), 3) := by decide +kernel
theorem dX1_mean_60 : decode cX1_mean 60 = .ok (.iload_n 3, 1) := by decide +kernel
theorem dX1_mean_61 : decode cX1_mean 61 = .ok (.ifCond .le 10, 3) := by decide +kernel
theorem dX1_mean_64 : decode cX1_mean 64 = .ok (.iload 4, 2) := by decide +kernel
theorem dX1_mean_66 : decode cX1_mean 66 = .ok (.iload_n 3, 1) := by decide +kernel
theorem dX1_mean_67 : decode cX1_mean 67 = .ok (.idiv, 1) := by decide +kernel
theorem dX1_mean_68 : decode cX1_mean 68 = .ok (.goto 4, 3) := by decide +kernel
theorem dX1_mean_71 : decode cX1_mean 71 = .ok (.iconst 0, 1) := by decide +kernel
theorem dX1_mean_72 : decode cX1_mean 72 = .ok (.ireturn, 1) := by decide +kernel
theorem dX2_init_0 : decode cX2_init 0 = .ok (.aload_n 0, 1) := by decide +kernel
theorem dX2_init_1 : decode cX2_init 1 = .ok (.invokespecial 3, 3) := by decide +kernel
theorem dX2_init_4 : decode cX2_init 4 = .ok (.aload_n 0, 1) := by decide +kernel
theorem dX2_init_5 : decode cX2_init 5 = .ok (.bipush 6, 2) := by decide +kernel
theorem dX2_init_7 : decode cX2_init 7 = .ok (.newarray .int, 2) := by decide +kernel
theorem dX2_init_9 : decode cX2_init 9 = .ok (.putfield 9, 3) := by decide +kernel
theorem dX2_init_12 : decode cX2_init 12 = .ok (.aload_n 0, 1) := by decide +kernel
theorem dX2_init_13 : decode cX2_init 13 = .ok (.bipush 6, 2) := by decide +kernel
theorem dX2_init_15 : decode cX2_init 15 = .ok (.newarray .int, 2) := by decide +kernel
theorem dX2_init_17 : decode cX2_init 17 = .ok (.putfield 15, 3) := by decide +kernel
theorem dX2_init_20 : decode cX2_init 20 = .ok (.aload_n 0, 1) := by decide +kernel
theorem dX2_init_21 : decode cX2_init 21 = .ok (.bipush 6, 2) := by decide +kernel
theorem dX2_init_23 : decode cX2_init 23 = .ok (.newarray .int, 2) := by decide +kernel
theorem dX2_init_25 : decode cX2_init 25 = .ok (.putfield 18, 3) := by decide +kernel
theorem dX2_init_28 : decode cX2_init 28 = .ok (.aload_n 0, 1) := by decide +kernel
theorem dX2_init_29 : decode cX2_init 29 = .ok (.bipush 48, 2) := by decide +kernel
theorem dX2_init_31 : decode cX2_init 31 = .ok (.newarray .int, 2) := by decide +kernel
theorem dX2_init_33 : decode cX2_init 33 = .ok (.putfield 21, 3) := by decide +kernel
theorem dX2_init_36 : decode cX2_init 36 = .ok (.aload_n 0, 1) := by decide +kernel
theorem dX2_init_37 : decode cX2_init 37 = .ok (.iconst 4, 1) := by decide +kernel
theorem dX2_init_38 : decode cX2_init 38 = .ok (.newarray .int, 2) := by decide +kernel
theorem dX2_init_40 : decode cX2_init 40 = .ok (.putfield 24, 3) := by decide +kernel
theorem dX2_init_43 : decode cX2_init 43 = .ok (.iconst 0, 1) := by decide +kernel
theorem dX2_init_44 : decode cX2_init 44 = .ok (.istore_n 1, 1) := by decide +kernel
theorem dX2_init_45 : decode cX2_init 45 = .ok (.iload_n 1, 1) := by decide +kernel
theorem dX2_init_46 : decode cX2_init 46 = .ok (.bipush 6, 2) := by decide +kernel
theorem dX2_init_48 : decode cX2_init 48 = .ok (.if_icmp .ge 24, 3) := by decide +kernel
theorem dX2_init_51 : decode cX2_init 51 = .ok (.aload_n 0, 1) := by decide +kernel
theorem dX2_init_52 : decode cX2_init 52 = .ok (.getfield 9, 3) := by decide +kernel
theorem dX2_init_55 : decode cX2_init 55 = .ok (.iload_n 1, 1) := by decide +kernel
theorem dX2_init_56 : decode cX2_init 56 = .ok (.bipush 17, 2) := by decide +kernel
theorem dX2_init_58 : decode cX2_init 58 = .ok (.iastore, 1) := by decide +kernel
theorem dX2_init_59 : decode cX2_init 59 = .ok (.aload_n 0, 1) := by decide +kernel
theorem dX2_init_60 : decode cX2_init 60 = .ok (.getfield 18, 3) := by decide +kernel
theorem dX2_init_63 : decode cX2_init 63 = .ok (.iload_n 1, 1) := by decide +kernel
theorem dX2_init_64 : decode cX2_init 64 = .ok (.iconst 2, 1) := by decide +kernel
theorem dX2_init_65 : decode cX2_init 65 = .ok (.iastore, 1) := by decide +kernel
theorem dX2_init_66 : decode cX2_init 66 = .ok (.iinc 1 1, 3) := by decide +kernel
theorem dX2_init_69 : decode cX2_init 69 = .ok (.goto (-24), 3) := by decide +kernel
theorem dX2_init_72 : decode cX2_init 72 = .ok (.iconst 0, 1) := by decide +kernel
theorem dX2_init_73 : decode cX2_init 73 = .ok (.istore_n 1, 1) := by decide +kernel
theorem dX2_init_74 : decode cX2_init 74 = .ok (.iload_n 1, 1) := by decide +kernel
theorem dX2_init_75 : decode cX2_init 75 = .ok (.iconst 4, 1) := by decide +kernel
theorem dX2_init_76 : decode cX2_init 76 = .ok (.if_icmp .ge 20, 3) := by decide +kernel
theorem dX2_init_79 : decode cX2_init 79 = .ok (.aload_n 0, 1) := by decide +kernel
theorem dX2_init_80 : decode cX2_init 80 = .ok (.getfield 24, 3) := by decide +kernel
theorem dX2_init_83 : decode cX2_init 83 = .ok (.iload_n 1, 1) := by decide +kernel
theorem dX2_init_84 : decode cX2_init 84 = .ok (.getstatic 27, 3) := by decide +kernel
theorem dX2_init_87 : decode cX2_init 87 = .ok (.iload_n 1, 1) := by decide +kernel
theorem dX2_init_88 : decode cX2_init 88 = .ok (.iaload, 1) := by decide +kernel
theorem dX2_init_89 : decode cX2_init 89 = .ok (.iastore, 1) := by decide +kernel
theorem dX2_init_90 : decode cX2_init 90 = .ok (.iinc 1 1, 3) := by decide +kernel
theorem dX2_init_93 : decode cX2_init 93 = .ok (.goto (-19), 3) := by decide +kernel
theorem dX2_init_96 : decode cX2_init 96 = .ok (.return_, 1) := by decide +kernel
theorem dX2_copyFrom_0 : decode cX2_copyFrom 0 = .ok (.aload_n 1, 1) := by decide +kernel
theorem dX2_copyFrom_1 : decode cX2_copyFrom 1 = .ok (.getfield 9, 3) := by decide +kernel
theorem dX2_copyFrom_4 : decode cX2_copyFrom 4 = .ok (.iconst 0, 1) := by decide +kernel
theorem dX2_copyFrom_5 : decode cX2_copyFrom 5 = .ok (.aload_n 0, 1) := by decide +kernel
theorem dX2_copyFrom_6 : decode cX2_copyFrom 6 = .ok (.getfield 9, 3) := by decide +kernel
theorem dX2_copyFrom_9 : decode cX2_copyFrom 9 = .ok (.iconst 0, 1) := by decide +kernel
theorem dX2_copyFrom_10 : decode cX2_copyFrom 10 = .ok (.bipush 6, 2) := by decide +kernel
theorem dX2_copyFrom_12 : decode cX2_copyFrom 12 = .ok (.invokestatic 30, 3) := by decide +kernel
theorem dX2_copyFrom_15 : decode cX2_copyFrom 15 = .ok (.aload_n 1, 1) := by decide +kernel
theorem dX2_copyFrom_16 : decode cX2_copyFrom 16 = .ok (.getfield 15, 3) := by decide +kernel
theorem dX2_copyFrom_19 : decode cX2_copyFrom 19 = .ok (.iconst 0, 1) := by decide +kernel
theorem dX2_copyFrom_20 : decode cX2_copyFrom 20 = .ok (.aload_n 0, 1) := by decide +kernel
theorem dX2_copyFrom_21 : decode cX2_copyFrom 21 = .ok (.getfield 15, 3) := by decide +kernel
theorem dX2_copyFrom_24 : decode cX2_copyFrom 24 = .ok (.iconst 0, 1) := by decide +kernel
theorem dX2_copyFrom_25 : decode cX2_copyFrom 25 = .ok (.bipush 6, 2) := by decide +kernel
theorem dX2_copyFrom_27 : decode cX2_copyFrom 27 = .ok (.invokestatic 30, 3) := by decide +kernel
theorem dX2_copyFrom_30 : decode cX2_copyFrom 30 = .ok (.aload_n 1, 1) := by decide +kernel
theorem dX2_copyFrom_31 : decode cX2_copyFrom 31 = .ok (.getfield 18, 3) := by decide +kernel
theorem dX2_copyFrom_34 : decode cX2_copyFrom 34 = .ok (.iconst 0, 1) := by decide +kernel
theorem dX2_copyFrom_35 : decode cX2_copyFrom 35 = .ok (.aload_n 0, 1) := by decide +kernel
theorem dX2_copyFrom_36 : decode cX2_copyFrom 36 = .ok (.getfield 18, 3) := by decide +kernel
theorem dX2_copyFrom_39 : decode cX2_copyFrom 39 = .ok (.iconst 0, 1) := by decide +kernel
theorem dX2_copyFrom_40 : decode cX2_copyFrom 40 = .ok (.bipush 6, 2) := by decide +kernel
theorem dX2_copyFrom_42 : decode cX2_copyFrom 42 = .ok (.invokestatic 30, 3) := by decide +kernel
theorem dX2_copyFrom_45 : decode cX2_copyFrom 45 = .ok (.aload_n 1, 1) := by decide +kernel
theorem dX2_copyFrom_46 : decode cX2_copyFrom 46 = .ok (.getfield 21, 3) := by decide +kernel
theorem dX2_copyFrom_49 : decode cX2_copyFrom 49 = .ok (.iconst 0, 1) := by decide +kernel
theorem dX2_copyFrom_50 : decode cX2_copyFrom 50 = .ok (.aload_n 0, 1) := by decide +kernel
theorem dX2_copyFrom_51 : decode cX2_copyFrom 51 = .ok (.getfield 21, 3) := by decide +kernel
theorem dX2_copyFrom_54 : decode cX2_copyFrom 54 = .ok (.iconst 0, 1) := by decide +kernel
theorem dX2_copyFrom_55 : decode cX2_copyFrom 55 = .ok (.bipush 48, 2) := by decide +kernel
theorem dX2_copyFrom_57 : decode cX2_copyFrom 57 = .ok (.invokestatic 30, 3) := by decide +kernel
theorem dX2_copyFrom_60 : decode cX2_copyFrom 60 = .ok (.aload_n 1, 1) := by decide +kernel
theorem dX2_copyFrom_61 : decode cX2_copyFrom 61 = .ok (.getfield 24, 3) := by decide +kernel
theorem dX2_copyFrom_64 : decode cX2_copyFrom 64 = .ok (.iconst 0, 1) := by decide +kernel
theorem dX2_copyFrom_65 : decode cX2_copyFrom 65 = .ok (.aload_n 0, 1) := by decide +kernel
theorem dX2_copyFrom_66 : decode cX2_copyFrom 66 = .ok (.getfield 24, 3) := by decide +kernel
theorem dX2_copyFrom_69 : decode cX2_copyFrom 69 = .ok (.iconst 0, 1) := by decide +kernel
theorem dX2_copyFrom_70 : decode cX2_copyFrom 70 = .ok (.iconst 4, 1) := by decide +kernel
theorem dX2_copyFrom_71 : decode cX2_copyFrom 71 = .ok (.invokestatic 30, 3) := by decide +kernel
theorem dX2_copyFrom_74 : decode cX2_copyFrom 74 = .ok (.aload_n 0, 1) := by decide +kernel
theorem dX2_copyFrom_75 : decode cX2_copyFrom 75 = .ok (.aload_n 1, 1) := by decide +kernel
theorem dX2_copyFrom_76 : decode cX2_copyFrom 76 = .ok (.getfield 36, 3) := by decide +kernel
theorem dX2_copyFrom_79 : decode cX2_copyFrom 79 = .ok (.putfield 36, 3) := by decide +kernel
theorem dX2_copyFrom_82 : decode cX2_copyFrom 82 = .ok (.aload_n 0, 1) := by decide +kernel
theorem dX2_copyFrom_83 : decode cX2_copyFrom 83 = .ok (.aload_n 1, 1) := by decide +kernel
theorem dX2_copyFrom_84 : decode cX2_copyFrom 84 = .ok (.getfield 40, 3) := by decide +kernel
theorem dX2_copyFrom_87 : decode cX2_copyFrom 87 = .ok (.putfield 40, 3) := by decide +kernel
theorem dX2_copyFrom_90 : decode cX2_copyFrom 90 = .ok (.aload_n 0, 1) := by decide +kernel
theorem dX2_copyFrom_91 : decode cX2_copyFrom 91 = .ok (.aload_n 1, 1) := by decide +kernel
theorem dX2_copyFrom_92 : decode cX2_copyFrom 92 = .ok (.getfield 43, 3) := by decide +kernel
theorem dX2_copyFrom_95 : decode cX2_copyFrom 95 = .ok (.putfield 43, 3) := by decide +kernel
theorem dX2_copyFrom_98 : decode cX2_copyFrom 98 = .ok (.aload_n 0, 1) := by decide +kernel
theorem dX2_copyFrom_99 : decode cX2_copyFrom 99 = .ok (.aload_n 1, 1) := by decide +kernel
theorem dX2_copyFrom_100 : decode cX2_copyFrom 100 = .ok (.getfield 46, 3) := by decide +kernel
theorem dX2_copyFrom_103 : decode cX2_copyFrom 103 = .ok (.putfield 46, 3) := by decide +kernel
theorem dX2_copyFrom_106 : decode cX2_copyFrom 106 = .ok (.aload_n 0, 1) := by decide +kernel
theorem dX2_copyFrom_107 : decode cX2_copyFrom 107 = .ok (.aload_n 1, 1) := by decide +kernel
theorem dX2_copyFrom_108 : decode cX2_copyFrom 108 = .ok (.getfield 49, 3) := by decide +kernel
theorem dX2_copyFrom_111 : decode cX2_copyFrom 111 = .ok (.putfield 49, 3) := by decide +kernel
theorem dX2_copyFrom_114 : decode cX2_copyFrom 114 = .ok (.return_, 1) := by decide +kernel
theorem dX2_failing_0 : decode cX2_failing 0 = .ok (.aload_n 0, 1) := by decide +kernel
theorem dX2_failing_1 : decode cX2_failing 1 = .ok (.getfield 15, 3) := by decide +kernel
theorem dX2_failing_4 : decode cX2_failing 4 = .ok (.iload_n 1, 1) := by decide +kernel
theorem dX2_failing_5 : decode cX2_failing 5 = .ok (.iaload, 1) := by decide +kernel
theorem dX2_failing_6 : decode cX2_failing 6 = .ok (.aload_n 0, 1) := by decide +kernel
theorem dX2_failing_7 : decode cX2_failing 7 = .ok (.getfield 40, 3) := by decide +kernel
theorem dX2_failing_10 : decode cX2_failing 10 = .ok (.ior, 1) := by decide +kernel
theorem dX2_failing_11 : decode cX2_failing 11 = .ok (.ireturn, 1) := by decide +kernel
theorem dX2_works_0 : decode cX2_works 0 = .ok (.aload_n 0, 1) := by decide +kernel
theorem dX2_works_1 : decode cX2_works 1 = .ok (.getfield 9, 3) := by decide +kernel
theorem dX2_works_4 : decode cX2_works 4 = .ok (.iload_n 1, 1) := by decide +kernel
theorem dX2_works_5 : decode cX2_works 5 = .ok (.iaload, 1) := by decide +kernel
theorem dX2_works_6 : decode cX2_works 6 = .ok (.invokestatic 52, 3) := by decide +kernel
theorem dX2_works_9 : decode cX2_works 9 = .ok (.aload_n 0, 1) := by decide +kernel
theorem dX2_works_10 : decode cX2_works 10 = .ok (.getfield 36, 3) := by decide +kernel
theorem dX2_works_13 : decode cX2_works 13 = .ok (.iload_n 1, 1) := by decide +kernel
theorem dX2_works_14 : decode cX2_works 14 = .ok (.invokestatic 56, 3) := by decide +kernel
theorem dX2_works_17 : decode cX2_works 17 = .ok (.iconst 1, 1) := by decide +kernel
theorem dX2_works_18 : decode cX2_works 18 = .ok (.if_icmp .ne 9, 3) := by decide +kernel
theorem dX2_works_21 : decode cX2_works 21 = .ok (.sipush 128, 3) := by decide +kernel
theorem dX2_works_24 : decode cX2_works 24 = .ok (.goto 4, 3) := by decide +kernel
theorem dX2_works_27 : decode cX2_works 27 = .ok (.iconst 0, 1) := by decide +kernel
theorem dX2_works_28 : decode cX2_works 28 = .ok (.ior, 1) := by decide +kernel
theorem dX2_works_29 : decode cX2_works 29 = .ok (.istore_n 2, 1) := by decide +kernel
theorem dX2_works_30 : decode cX2_works 30 = .ok (.iload_n 2, 1) := by decide +kernel
theorem dX2_works_31 : decode cX2_works 31 = .ok (.aload_n 0, 1) := by decide +kernel
theorem dX2_works_32 : decode cX2_works 32 = .ok (.iload_n 1, 1) := by decide +kernel
theorem dX2_works_33 : decode cX2_works 33 = .ok (.invokevirtual 60, 3) := by decide +kernel
theorem dX2_works_36 : decode cX2_works 36 = .ok (.iconst (-1), 1) := by decide +kernel
theorem dX2_works_37 : decode cX2_works 37 = .ok (.ixor, 1) := by decide +kernel
theorem dX2_works_38 : decode cX2_works 38 = .ok (.iand, 1) := by decide +kernel
theorem dX2_works_39 : decode cX2_works 39 = .ok (.ireturn, 1) := by decide +kernel
theorem dX2_lightFor_0 : decode cX2_lightFor 0 = .ok (.iload_n 1, 1) := by decide +kernel
theorem dX2_lightFor_1 : decode cX2_lightFor 1 = .ok (.invokestatic 63, 3) := by decide +kernel
theorem dX2_lightFor_4 : decode cX2_lightFor 4 = .ok (.istore_n 2, 1) := by decide +kernel
theorem dX2_lightFor_5 : decode cX2_lightFor 5 = .ok (.iload_n 2, 1) := by decide +kernel
theorem dX2_lightFor_6 : decode cX2_lightFor 6 = .ok (.ifCond .le 14, 3) := by decide +kernel
theorem dX2_lightFor_9 : decode cX2_lightFor 9 = .ok (.aload_n 0, 1) := by decide +kernel
theorem dX2_lightFor_10 : decode cX2_lightFor 10 = .ok (.getfield 24, 3) := by decide +kernel
theorem dX2_lightFor_13 : decode cX2_lightFor 13 = .ok (.iconst 1, 1) := by decide +kernel
theorem dX2_lightFor_14 : decode cX2_lightFor 14 = .ok (.iaload, 1) := by decide +kernel
theorem dX2_lightFor_15 : decode cX2_lightFor 15 = .ok (.iload_n 2, 1) := by decide +kernel
theorem dX2_lightFor_16 : decode cX2_lightFor 16 = .ok (.idiv, 1) := by decide +kernel
theorem dX2_lightFor_17 : decode cX2_lightFor 17 = .ok (.goto 4, 3) := by decide +kernel
theorem dX2_lightFor_20 : decode cX2_lightFor 20 = .ok (.iconst 0, 1) := by decide +kernel
theorem dX2_lightFor_21 : decode cX2_lightFor 21 = .ok (.ireturn, 1) := by decide +kernel
theorem dX2_ticksOf_0 : decode cX2_ticksOf 0 = .ok (.aload_n 0, 1) := by decide +kernel
theorem dX2_ticksOf_1 : decode cX2_ticksOf 1 = .ok (.getfield 18, 3) := by decide +kernel
theorem dX2_ticksOf_4 : decode cX2_ticksOf 4 = .ok (.iload_n 1, 1) := by decide +kernel
theorem dX2_ticksOf_5 : decode cX2_ticksOf 5 = .ok (.iaload, 1) := by decide +kernel
theorem dX2_ticksOf_6 : decode cX2_ticksOf 6 = .ok (.ifCond .le 19, 3) := by decide +kernel
theorem dX2_ticksOf_9 : decode cX2_ticksOf 9 = .ok (.aload_n 0, 1) := by decide +kernel
theorem dX2_ticksOf_10 : decode cX2_ticksOf 10 = .ok (.getfield 24, 3) := by decide +kernel
theorem dX2_ticksOf_13 : decode cX2_ticksOf 13 = .ok (.iconst 0, 1) := by decide +kernel
theorem dX2_ticksOf_14 : decode cX2_ticksOf 14 = .ok (.iaload, 1) := by decide +kernel
theorem dX2_ticksOf_15 : decode cX2_ticksOf 15 = .ok (.aload_n 0, 1) := by decide +kernel
theorem dX2_ticksOf_16 : decode cX2_ticksOf 16 = .ok (.getfield 18, 3) := by decide +kernel
theorem dX2_ticksOf_19 : decode cX2_ticksOf 19 = .ok (.iload_n 1, 1) := by decide +kernel
theorem dX2_ticksOf_20 : decode cX2_ticksOf 20 = .ok (.iaload, 1) := by decide +kernel
theorem dX2_ticksOf_21 : decode cX2_ticksOf 21 = .ok (.iadd, 1) := by decide +kernel
theorem dX2_ticksOf_22 : decode cX2_ticksOf 22 = .ok (.goto 4, 3) := by decide +kernel
theorem dX2_ticksOf_25 : decode cX2_ticksOf 25 = .ok (.iconst 0, 1) := by decide +kernel
theorem dX2_ticksOf_26 : decode cX2_ticksOf 26 = .ok (.ireturn, 1) := by decide +kernel
theorem dX2_roundTicks_0 : decode cX2_roundTicks 0 = .ok (.iconst 0, 1) := by decide +kernel
theorem dX2_roundTicks_1 : decode cX2_roundTicks 1 = .ok (.istore_n 1, 1) := by decide +kernel
theorem dX2_roundTicks_2 : decode cX2_roundTicks 2 = .ok (.iconst 0, 1) := by decide +kernel
theorem dX2_roundTicks_3 : decode cX2_roundTicks 3 = .ok (.istore_n 2, 1) := by decide +kernel
theorem dX2_roundTicks_4 : decode cX2_roundTicks 4 = .ok (.iload_n 2, 1) := by decide +kernel
theorem dX2_roundTicks_5 : decode cX2_roundTicks 5 = .ok (.bipush 6, 2) := by decide +kernel
theorem dX2_roundTicks_7 : decode cX2_roundTicks 7 = .ok (.if_icmp .ge 17, 3) := by decide +kernel
theorem dX2_roundTicks_10 : decode cX2_roundTicks 10 = .ok (.iload_n 1, 1) := by decide +kernel
theorem dX2_roundTicks_11 : decode cX2_roundTicks 11 = .ok (.aload_n 0, 1) := by decide +kernel
theorem dX2_roundTicks_12 : decode cX2_roundTicks 12 = .ok (.iload_n 2, 1) := by decide +kernel
theorem dX2_roundTicks_13 : decode cX2_roundTicks 13 = .ok (.invokevirtual 68, 3) := by decide +kernel
theorem dX2_roundTicks_16 : decode cX2_roundTicks 16 = .ok (.iadd, 1) := by decide +kernel
theorem dX2_roundTicks_17 : decode cX2_roundTicks 17 = .ok (.istore_n 1, 1) := by decide +kernel
theorem dX2_roundTicks_18 : decode cX2_roundTicks 18 = .ok (.iinc 2 1, 3) := by decide +kernel
theorem dX2_roundTicks_21 : decode cX2_roundTicks 21 = .ok (.goto (-17), 3) := by decide +kernel
theorem dX2_roundTicks_24 : decode cX2_roundTicks 24 = .ok (.iload_n 1, 1) := by decide +kernel
theorem dX2_roundTicks_25 : decode cX2_roundTicks 25 = .ok (.ireturn, 1) := by decide +kernel
theorem dX2_litTicks_0 : decode cX2_litTicks 0 = .ok (.iconst 0, 1) := by decide +kernel
theorem dX2_litTicks_1 : decode cX2_litTicks 1 = .ok (.istore_n 1, 1) := by decide +kernel
theorem dX2_litTicks_2 : decode cX2_litTicks 2 = .ok (.iconst 0, 1) := by decide +kernel
theorem dX2_litTicks_3 : decode cX2_litTicks 3 = .ok (.istore_n 2, 1) := by decide +kernel
theorem dX2_litTicks_4 : decode cX2_litTicks 4 = .ok (.iload_n 2, 1) := by decide +kernel
theorem dX2_litTicks_5 : decode cX2_litTicks 5 = .ok (.bipush 6, 2) := by decide +kernel
theorem dX2_litTicks_7 : decode cX2_litTicks 7 = .ok (.if_icmp .ge 18, 3) := by decide +kernel
theorem dX2_litTicks_10 : decode cX2_litTicks 10 = .ok (.iload_n 1, 1) := by decide +kernel
theorem dX2_litTicks_11 : decode cX2_litTicks 11 = .ok (.aload_n 0, 1) := by decide +kernel
theorem dX2_litTicks_12 : decode cX2_litTicks 12 = .ok (.getfield 18, 3) := by decide +kernel
theorem dX2_litTicks_15 : decode cX2_litTicks 15 = .ok (.iload_n 2, 1) := by decide +kernel
theorem dX2_litTicks_16 : decode cX2_litTicks 16 = .ok (.iaload, 1) := by decide +kernel
theorem dX2_litTicks_17 : decode cX2_litTicks 17 = .ok (.iadd, 1) := by decide +kernel
theorem dX2_litTicks_18 : decode cX2_litTicks 18 = .ok (.istore_n 1, 1) := by decide +kernel
theorem dX2_litTicks_19 : decode cX2_litTicks 19 = .ok (.iinc 2 1, 3) := by decide +kernel
theorem dX2_litTicks_22 : decode cX2_litTicks 22 = .ok (.goto (-18), 3) := by decide +kernel
theorem dX2_litTicks_25 : decode cX2_litTicks 25 = .ok (.iload_n 1, 1) := by decide +kernel
theorem dX2_litTicks_26 : decode cX2_litTicks 26 = .ok (.ireturn, 1) := by decide +kernel
theorem dX2_litIn_0 : decode cX2_litIn 0 = .ok (.iconst 0, 1) := by decide +kernel
theorem dX2_litIn_1 : decode cX2_litIn 1 = .ok (.istore_n 2, 1) := by decide +kernel
theorem dX2_litIn_2 : decode cX2_litIn 2 = .ok (.iconst 0, 1) := by decide +kernel
theorem dX2_litIn_3 : decode cX2_litIn 3 = .ok (.istore_n 3, 1) := by decide +kernel
theorem dX2_litIn_4 : decode cX2_litIn 4 = .ok (.iload_n 3, 1) := by decide +kernel
theorem dX2_litIn_5 : decode cX2_litIn 5 = .ok (.bipush 6, 2) := by decide +kernel
theorem dX2_litIn_7 : decode cX2_litIn 7 = .ok (.if_icmp .ge 40, 3) := by decide +kernel
theorem dX2_litIn_10 : decode cX2_litIn 10 = .ok (.iload_n 2, 1) := by decide +kernel
theorem dX2_litIn_11 : decode cX2_litIn 11 = .ok (.aload_n 0, 1) := by decide +kernel
theorem dX2_litIn_12 : decode cX2_litIn 12 = .ok (.iload_n 3, 1) := by decide +kernel
theorem dX2_litIn_13 : decode cX2_litIn 13 = .ok (.invokevirtual 68, 3) := by decide +kernel
theorem dX2_litIn_16 : decode cX2_litIn 16 = .ok (.iadd, 1) := by decide +kernel
theorem dX2_litIn_17 : decode cX2_litIn 17 = .ok (.istore_n 2, 1) := by decide +kernel
theorem dX2_litIn_18 : decode cX2_litIn 18 = .ok (.iload_n 1, 1) := by decide +kernel
theorem dX2_litIn_19 : decode cX2_litIn 19 = .ok (.iload_n 2, 1) := by decide +kernel
theorem dX2_litIn_20 : decode cX2_litIn 20 = .ok (.if_icmp .ge 21, 3) := by decide +kernel
theorem dX2_litIn_23 : decode cX2_litIn 23 = .ok (.iload_n 1, 1) := by decide +kernel
theorem dX2_litIn_24 : decode cX2_litIn 24 = .ok (.iload_n 2, 1) := by decide +kernel
theorem dX2_litIn_25 : decode cX2_litIn 25 = .ok (.aload_n 0, 1) := by decide +kernel
theorem dX2_litIn_26 : decode cX2_litIn 26 = .ok (.getfield 18, 3) := by decide +kernel
theorem dX2_litIn_29 : decode cX2_litIn 29 = .ok (.iload_n 3, 1) := by decide +kernel
theorem dX2_litIn_30 : decode cX2_litIn 30 = .ok (.iaload, 1) := by decide +kernel
theorem dX2_litIn_31 : decode cX2_litIn 31 = .ok (.isub, 1) := by decide +kernel
theorem dX2_litIn_32 : decode cX2_litIn 32 = .ok (.if_icmp .lt 7, 3) := by decide +kernel
theorem dX2_litIn_35 : decode cX2_litIn 35 = .ok (.iload_n 3, 1) := by decide +kernel
theorem dX2_litIn_36 : decode cX2_litIn 36 = .ok (.goto 4, 3) := by decide +kernel
theorem dX2_litIn_39 : decode cX2_litIn 39 = .ok (.iconst (-1), 1) := by decide +kernel
theorem dX2_litIn_40 : decode cX2_litIn 40 = .ok (.ireturn, 1) := by decide +kernel
theorem dX2_litIn_41 : decode cX2_litIn 41 = .ok (.iinc 3 1, 3) := by decide +kernel
theorem dX2_litIn_44 : decode cX2_litIn 44 = .ok (.goto (-40), 3) := by decide +kernel
theorem dX2_litIn_47 : decode cX2_litIn 47 = .ok (.iconst (-1), 1) := by decide +kernel
theorem dX2_litIn_48 : decode cX2_litIn 48 = .ok (.ireturn, 1) := by decide +kernel
theorem dX2_litAheadOf_0 : decode cX2_litAheadOf 0 = .ok (.iconst 1, 1) := by decide +kernel
theorem dX2_litAheadOf_1 : decode cX2_litAheadOf 1 = .ok (.istore_n 2, 1) := by decide +kernel
theorem dX2_litAheadOf_2 : decode cX2_litAheadOf 2 = .ok (.iload_n 2, 1) := by decide +kernel
theorem dX2_litAheadOf_3 : decode cX2_litAheadOf 3 = .ok (.bipush 6, 2) := by decide +kernel
theorem dX2_litAheadOf_5 : decode cX2_litAheadOf 5 = .ok (.if_icmp .ge 38, 3) := by decide +kernel
theorem dX2_litAheadOf_8 : decode cX2_litAheadOf 8 = .ok (.iload_n 1, 1) := by decide +kernel
theorem dX2_litAheadOf_9 : decode cX2_litAheadOf 9 = .ok (.iload_n 2, 1) := by decide +kernel
theorem dX2_litAheadOf_10 : decode cX2_litAheadOf 10 = .ok (.if_icmp .lt 9, 3) := by decide +kernel
theorem dX2_litAheadOf_13 : decode cX2_litAheadOf 13 = .ok (.iload_n 1, 1) := by decide +kernel
theorem dX2_litAheadOf_14 : decode cX2_litAheadOf 14 = .ok (.iload_n 2, 1) := by decide +kernel
theorem dX2_litAheadOf_15 : decode cX2_litAheadOf 15 = .ok (.isub, 1) := by decide +kernel
theorem dX2_litAheadOf_16 : decode cX2_litAheadOf 16 = .ok (.goto 9, 3) := by decide +kernel
theorem dX2_litAheadOf_19 : decode cX2_litAheadOf 19 = .ok (.iload_n 1, 1) := by decide +kernel
theorem dX2_litAheadOf_20 : decode cX2_litAheadOf 20 = .ok (.iload_n 2, 1) := by decide +kernel
theorem dX2_litAheadOf_21 : decode cX2_litAheadOf 21 = .ok (.isub, 1) := by decide +kernel
theorem dX2_litAheadOf_22 : decode cX2_litAheadOf 22 = .ok (.bipush 6, 2) := by decide +kernel
theorem dX2_litAheadOf_24 : decode cX2_litAheadOf 24 = .ok (.iadd, 1) := by decide +kernel
theorem dX2_litAheadOf_25 : decode cX2_litAheadOf 25 = .ok (.istore_n 3, 1) := by decide +kernel
theorem dX2_litAheadOf_26 : decode cX2_litAheadOf 26 = .ok (.aload_n 0, 1) := by decide +kernel
theorem dX2_litAheadOf_27 : decode cX2_litAheadOf 27 = .ok (.getfield 18, 3) := by decide +kernel
theorem dX2_litAheadOf_30 : decode cX2_litAheadOf 30 = .ok (.iload_n 3, 1) := by decide +kernel
theorem dX2_litAheadOf_31 : decode cX2_litAheadOf 31 = .ok (.iaload, 1) := by decide +kernel
theorem dX2_litAheadOf_32 : decode cX2_litAheadOf 32 = .ok (.ifCond .le 5, 3) := by decide +kernel
theorem dX2_litAheadOf_35 : decode cX2_litAheadOf 35 = .ok (.iload_n 3, 1) := by decide +kernel
theorem dX2_litAheadOf_36 : decode cX2_litAheadOf 36 = .ok (.ireturn, 1) := by decide +kernel
theorem dX2_litAheadOf_37 : decode cX2_litAheadOf 37 = .ok (.iinc 2 1, 3) := by decide +kernel
theorem dX2_litAheadOf_40 : decode cX2_litAheadOf 40 = .ok (.goto (-38), 3) := by decide +kernel
theorem dX2_litAheadOf_43 : decode cX2_litAheadOf 43 = .ok (.iconst (-1), 1) := by decide +kernel
theorem dX2_litAheadOf_44 : decode cX2_litAheadOf 44 = .ok (.ireturn, 1) := by decide +kernel
theorem dX3_init_0 : decode cX3_init 0 = .ok (.aload_n 0, 1) := by decide +kernel
theorem dX3_init_1 : decode cX3_init 1 = .ok (.invokespecial 3, 3) := by decide +kernel
theorem dX3_init_4 : decode cX3_init 4 = .ok (.aload_n 0, 1) := by decide +kernel
theorem dX3_init_5 : decode cX3_init 5 = .ok (.bipush 12, 2) := by decide +kernel
theorem dX3_init_7 : decode cX3_init 7 = .ok (.newarray .char, 2) := by decide +kernel
theorem dX3_init_9 : decode cX3_init 9 = .ok (.putfield 9, 3) := by decide +kernel
theorem dX3_init_12 : decode cX3_init 12 = .ok (.return_, 1) := by decide +kernel
theorem dX3_put_0 : decode cX3_put 0 = .ok (.aload_n 0, 1) := by decide +kernel
theorem dX3_put_1 : decode cX3_put 1 = .ok (.getfield 15, 3) := by decide +kernel
theorem dX3_put_4 : decode cX3_put 4 = .ok (.ifCond .lt 32, 3) := by decide +kernel
theorem dX3_put_7 : decode cX3_put 7 = .ok (.aload_n 0, 1) := by decide +kernel
theorem dX3_put_8 : decode cX3_put 8 = .ok (.getfield 15, 3) := by decide +kernel
theorem dX3_put_11 : decode cX3_put 11 = .ok (.bipush 12, 2) := by decide +kernel
theorem dX3_put_13 : decode cX3_put 13 = .ok (.if_icmp .ge 23, 3) := by decide +kernel
theorem dX3_put_16 : decode cX3_put 16 = .ok (.aload_n 0, 1) := by decide +kernel
theorem dX3_put_17 : decode cX3_put 17 = .ok (.getfield 9, 3) := by decide +kernel
theorem dX3_put_20 : decode cX3_put 20 = .ok (.aload_n 0, 1) := by decide +kernel
theorem dX3_put_21 : decode cX3_put 21 = .ok (.getfield 15, 3) := by decide +kernel
theorem dX3_put_24 : decode cX3_put 24 = .ok (.iload_n 1, 1) := by decide +kernel
theorem dX3_put_25 : decode cX3_put 25 = .ok (.castore, 1) := by decide +kernel
theorem dX3_put_26 : decode cX3_put 26 = .ok (.aload_n 0, 1) := by decide +kernel
theorem dX3_put_27 : decode cX3_put 27 = .ok (.dup, 1) := by decide +kernel
theorem dX3_put_28 : decode cX3_put 28 = .ok (.getfield 15, 3) := by decide +kernel
theorem dX3_put_31 : decode cX3_put 31 = .ok (.iconst 1, 1) := by decide +kernel
theorem dX3_put_32 : decode cX3_put 32 = .ok (.iadd, 1) := by decide +kernel
theorem dX3_put_33 : decode cX3_put 33 = .ok (.putfield 15, 3) := by decide +kernel
theorem dX3_put_36 : decode cX3_put 36 = .ok (.return_, 1) := by decide +kernel
theorem dX3_errorAt_0 : decode cX3_errorAt 0 = .ok (.iconst 0, 1) := by decide +kernel
theorem dX3_errorAt_1 : decode cX3_errorAt 1 = .ok (.istore_n 1, 1) := by decide +kernel
theorem dX3_errorAt_2 : decode cX3_errorAt 2 = .ok (.iconst 0, 1) := by decide +kernel
theorem dX3_errorAt_3 : decode cX3_errorAt 3 = .ok (.istore_n 2, 1) := by decide +kernel
theorem dX3_errorAt_4 : decode cX3_errorAt 4 = .ok (.iconst 0, 1) := by decide +kernel
theorem dX3_errorAt_5 : decode cX3_errorAt 5 = .ok (.istore_n 3, 1) := by decide +kernel
theorem dX3_errorAt_6 : decode cX3_errorAt 6 = .ok (.iload_n 3, 1) := by decide +kernel
theorem dX3_errorAt_7 : decode cX3_errorAt 7 = .ok (.bipush 12, 2) := by decide +kernel
theorem dX3_errorAt_9 : decode cX3_errorAt 9 = .ok (.if_icmp .ge 66, 3) := by decide +kernel
theorem dX3_errorAt_12 : decode cX3_errorAt 12 = .ok (.iload_n 3, 1) := by decide +kernel
theorem dX3_errorAt_13 : decode cX3_errorAt 13 = .ok (.aload_n 0, 1) := by decide +kernel
theorem dX3_errorAt_14 : decode cX3_errorAt 14 = .ok (.getfield 15, 3) := by decide +kernel
theorem dX3_errorAt_17 : decode cX3_errorAt 17 = .ok (.if_icmp .ge 58, 3) := by decide +kernel
theorem dX3_errorAt_20 : decode cX3_errorAt 20 = .ok (.aload_n 0, 1) := by decide +kernel
theorem dX3_errorAt_21 : decode cX3_errorAt 21 = .ok (.getfield 9, 3) := by decide +kernel
theorem dX3_errorAt_24 : decode cX3_errorAt 24 = .ok (.iload_n 3, 1) := by decide +kernel
theorem dX3_errorAt_25 : decode cX3_errorAt 25 = .ok (.caload, 1) := by decide +kernel
theorem dX3_errorAt_26 : decode cX3_errorAt 26 = .ok (.bipush 46, 2) := by decide +kernel
theorem dX3_errorAt_28 : decode cX3_errorAt 28 = .ok (.if_icmp .ne 14, 3) := by decide +kernel
theorem dX3_errorAt_31 : decode cX3_errorAt 31 = .ok (.iload_n 2, 1) := by decide +kernel
theorem dX3_errorAt_32 : decode cX3_errorAt 32 = .ok (.ifCond .ne 5, 3) := by decide +kernel
theorem dX3_errorAt_35 : decode cX3_errorAt 35 = .ok (.iload_n 3, 1) := by decide +kernel
theorem dX3_errorAt_36 : decode cX3_errorAt 36 = .ok (.ireturn, 1) := by decide +kernel
theorem dX3_errorAt_37 : decode cX3_errorAt 37 = .ok (.iconst 0, 1) := by decide +kernel
theorem dX3_errorAt_38 : decode cX3_errorAt 38 = .ok (.istore_n 2, 1) := by decide +kernel
theorem dX3_errorAt_39 : decode cX3_errorAt 39 = .ok (.goto 30, 3) := by decide +kernel
theorem dX3_errorAt_42 : decode cX3_errorAt 42 = .ok (.iload_n 1, 1) := by decide +kernel
theorem dX3_errorAt_43 : decode cX3_errorAt 43 = .ok (.bipush 6, 2) := by decide +kernel
theorem dX3_errorAt_45 : decode cX3_errorAt 45 = .ok (.if_icmp .ge 17, 3) := by decide +kernel
theorem dX3_errorAt_48 : decode cX3_errorAt 48 = .ok (.ldc 19, 2) := by decide +kernel
theorem dX3_errorAt_50 : decode cX3_errorAt 50 = .ok (.aload_n 0, 1) := by decide +kernel
theorem dX3_errorAt_51 : decode cX3_errorAt 51 = .ok (.getfield 9, 3) := by decide +kernel
theorem dX3_errorAt_54 : decode cX3_errorAt 54 = .ok (.iload_n 3, 1) := by decide +kernel
theorem dX3_errorAt_55 : decode cX3_errorAt 55 = .ok (.caload, 1) := by decide +kernel
theorem dX3_errorAt_56 : decode cX3_errorAt 56 = .ok (.invokevirtual 21, 3) := by decide +kernel
theorem dX3_errorAt_59 : decode cX3_errorAt 59 = .ok (.ifCond .ge 5, 3) := by decide +kernel
theorem dX3_errorAt_62 : decode cX3_errorAt 62 = .ok (.iload_n 3, 1) := by decide +kernel
theorem dX3_errorAt_63 : decode cX3_errorAt 63 = .ok (.ireturn, 1) := by decide +kernel
theorem dX3_errorAt_64 : decode cX3_errorAt 64 = .ok (.iinc 1 1, 3) := by decide +kernel
theorem dX3_errorAt_67 : decode cX3_errorAt 67 = .ok (.iconst 1, 1) := by decide +kernel
theorem dX3_errorAt_68 : decode cX3_errorAt 68 = .ok (.istore_n 2, 1) := by decide +kernel
theorem dX3_errorAt_69 : decode cX3_errorAt 69 = .ok (.iinc 3 1, 3) := by decide +kernel
theorem dX3_errorAt_72 : decode cX3_errorAt 72 = .ok (.goto (-66), 3) := by decide +kernel
theorem dX3_errorAt_75 : decode cX3_errorAt 75 = .ok (.aload_n 0, 1) := by decide +kernel
theorem dX3_errorAt_76 : decode cX3_errorAt 76 = .ok (.getfield 15, 3) := by decide +kernel
theorem dX3_errorAt_79 : decode cX3_errorAt 79 = .ok (.ireturn, 1) := by decide +kernel
theorem dX3_putOn_0 : decode cX3_putOn 0 = .ok (.aload_n 1, 1) := by decide +kernel
theorem dX3_putOn_1 : decode cX3_putOn 1 = .ok (.iconst 0, 1) := by decide +kernel
theorem dX3_putOn_2 : decode cX3_putOn 2 = .ok (.putfield 27, 3) := by decide +kernel
theorem dX3_putOn_5 : decode cX3_putOn 5 = .ok (.iconst 0, 1) := by decide +kernel
theorem dX3_putOn_6 : decode cX3_putOn 6 = .ok (.istore_n 2, 1) := by decide +kernel
theorem dX3_putOn_7 : decode cX3_putOn 7 = .ok (.iload_n 2, 1) := by decide +kernel
theorem dX3_putOn_8 : decode cX3_putOn 8 = .ok (.bipush 6, 2) := by decide +kernel
theorem dX3_putOn_10 : decode cX3_putOn 10 = .ok (.if_icmp .ge 17, 3) := by decide +kernel
theorem dX3_putOn_13 : decode cX3_putOn 13 = .ok (.aload_n 1, 1) := by decide +kernel
theorem dX3_putOn_14 : decode cX3_putOn 14 = .ok (.getfield 32, 3) := by decide +kernel
theorem dX3_putOn_17 : decode cX3_putOn 17 = .ok (.iload_n 2, 1) := by decide +kernel
theorem dX3_putOn_18 : decode cX3_putOn 18 = .ok (.bipush 17, 2) := by decide +kernel
theorem dX3_putOn_20 : decode cX3_putOn 20 = .ok (.iastore, 1) := by decide +kernel
theorem dX3_putOn_21 : decode cX3_putOn 21 = .ok (.iinc 2 1, 3) := by decide +kernel
theorem dX3_putOn_24 : decode cX3_putOn 24 = .ok (.goto (-17), 3) := by decide +kernel
theorem dX3_putOn_27 : decode cX3_putOn 27 = .ok (.iconst 0, 1) := by decide +kernel
theorem dX3_putOn_28 : decode cX3_putOn 28 = .ok (.istore_n 2, 1) := by decide +kernel
theorem dX3_putOn_29 : decode cX3_putOn 29 = .ok (.iconst 0, 1) := by decide +kernel
theorem dX3_putOn_30 : decode cX3_putOn 30 = .ok (.istore_n 3, 1) := by decide +kernel
theorem dX3_putOn_31 : decode cX3_putOn 31 = .ok (.iload_n 3, 1) := by decide +kernel
theorem dX3_putOn_32 : decode cX3_putOn 32 = .ok (.bipush 12, 2) := by decide +kernel
theorem dX3_putOn_34 : decode cX3_putOn 34 = .ok (.if_icmp .ge 75, 3) := by decide +kernel
theorem dX3_putOn_37 : decode cX3_putOn 37 = .ok (.iload_n 3, 1) := by decide +kernel
theorem dX3_putOn_38 : decode cX3_putOn 38 = .ok (.aload_n 0, 1) := by decide +kernel
theorem dX3_putOn_39 : decode cX3_putOn 39 = .ok (.getfield 15, 3) := by decide +kernel
theorem dX3_putOn_42 : decode cX3_putOn 42 = .ok (.if_icmp .ge 67, 3) := by decide +kernel
theorem dX3_putOn_45 : decode cX3_putOn 45 = .ok (.aload_n 0, 1) := by decide +kernel
theorem dX3_putOn_46 : decode cX3_putOn 46 = .ok (.getfield 9, 3) := by decide +kernel
theorem dX3_putOn_49 : decode cX3_putOn 49 = .ok (.iload_n 3, 1) := by decide +kernel
theorem dX3_putOn_50 : decode cX3_putOn 50 = .ok (.caload, 1) := by decide +kernel
theorem dX3_putOn_51 : decode cX3_putOn 51 = .ok (.bipush 46, 2) := by decide +kernel
theorem dX3_putOn_53 : decode cX3_putOn 53 = .ok (.if_icmp .eq 32, 3) := by decide +kernel
theorem dX3_putOn_56 : decode cX3_putOn 56 = .ok (.iload_n 2, 1) := by decide +kernel
theorem dX3_putOn_57 : decode cX3_putOn 57 = .ok (.bipush 6, 2) := by decide +kernel
theorem dX3_putOn_59 : decode cX3_putOn 59 = .ok (.if_icmp .ge 26, 3) := by decide +kernel
theorem dX3_putOn_62 : decode cX3_putOn 62 = .ok (.aload_n 1, 1) := by decide +kernel
theorem dX3_putOn_63 : decode cX3_putOn 63 = .ok (.getfield 32, 3) := by decide +kernel
theorem dX3_putOn_66 : decode cX3_putOn 66 = .ok (.iload_n 2, 1) := by decide +kernel
theorem dX3_putOn_67 : decode cX3_putOn 67 = .ok (.ldc 19, 2) := by decide +kernel
theorem dX3_putOn_69 : decode cX3_putOn 69 = .ok (.aload_n 0, 1) := by decide +kernel
theorem dX3_putOn_70 : decode cX3_putOn 70 = .ok (.getfield 9, 3) := by decide +kernel
theorem dX3_putOn_73 : decode cX3_putOn 73 = .ok (.iload_n 3, 1) := by decide +kernel
theorem dX3_putOn_74 : decode cX3_putOn 74 = .ok (.caload, 1) := by decide +kernel
theorem dX3_putOn_75 : decode cX3_putOn 75 = .ok (.invokevirtual 21, 3) := by decide +kernel
theorem dX3_putOn_78 : decode cX3_putOn 78 = .ok (.iastore, 1) := by decide +kernel
theorem dX3_putOn_79 : decode cX3_putOn 79 = .ok (.iinc 2 1, 3) := by decide +kernel
theorem dX3_putOn_82 : decode cX3_putOn 82 = .ok (.goto 21, 3) := by decide +kernel
theorem dX3_putOn_85 : decode cX3_putOn 85 = .ok (.iload_n 2, 1) := by decide +kernel
theorem dX3_putOn_86 : decode cX3_putOn 86 = .ok (.ifCond .le 17, 3) := by decide +kernel
theorem dX3_putOn_89 : decode cX3_putOn 89 = .ok (.aload_n 1, 1) := by decide +kernel
theorem dX3_putOn_90 : decode cX3_putOn 90 = .ok (.dup, 1) := by decide +kernel
theorem dX3_putOn_91 : decode cX3_putOn 91 = .ok (.getfield 27, 3) := by decide +kernel
theorem dX3_putOn_94 : decode cX3_putOn 94 = .ok (.iconst 1, 1) := by decide +kernel
theorem dX3_putOn_95 : decode cX3_putOn 95 = .ok (.iload_n 2, 1) := by decide +kernel
theorem dX3_putOn_96 : decode cX3_putOn 96 = .ok (.iconst 1, 1) := by decide +kernel
theorem dX3_putOn_97 : decode cX3_putOn 97 = .ok (.isub, 1) := by decide +kernel
theorem dX3_putOn_98 : decode cX3_putOn 98 = .ok (.ishl, 1) := by decide +kernel
theorem dX3_putOn_99 : decode cX3_putOn 99 = .ok (.ior, 1) := by decide +kernel
theorem dX3_putOn_100 : decode cX3_putOn 100 = .ok (.putfield 27, 3) := by decide +kernel
theorem dX3_putOn_103 : decode cX3_putOn 103 = .ok (.iinc 3 1, 3) := by decide +kernel
theorem dX3_putOn_106 : decode cX3_putOn 106 = .ok (.goto (-75), 3) := by decide +kernel
theorem dX3_putOn_109 : decode cX3_putOn 109 = .ok (.iload_n 2, 1) := by decide +kernel
theorem dX3_putOn_110 : decode cX3_putOn 110 = .ok (.ireturn, 1) := by decide +kernel
theorem dX4_init_0 : decode cX4_init 0 = .ok (.aload_n 0, 1) := by decide +kernel
theorem dX4_init_1 : decode cX4_init 1 = .ok (.invokespecial 3, 3) := by decide +kernel
theorem dX4_init_4 : decode cX4_init 4 = .ok (.return_, 1) := by decide +kernel
theorem dX4_take_0 : decode cX4_take 0 = .ok (.aload_n 0, 1) := by decide +kernel
theorem dX4_take_1 : decode cX4_take 1 = .ok (.aload_n 1, 1) := by decide +kernel
theorem dX4_take_2 : decode cX4_take 2 = .ok (.invokevirtual 9, 3) := by decide +kernel
theorem dX4_take_5 : decode cX4_take 5 = .ok (.putfield 15, 3) := by decide +kernel
theorem dX4_take_8 : decode cX4_take 8 = .ok (.aload_n 0, 1) := by decide +kernel
theorem dX4_take_9 : decode cX4_take 9 = .ok (.iconst 0, 1) := by decide +kernel
theorem dX4_take_10 : decode cX4_take 10 = .ok (.putfield 20, 3) := by decide +kernel
theorem dX4_take_13 : decode cX4_take 13 = .ok (.iconst 0, 1) := by decide +kernel
theorem dX4_take_14 : decode cX4_take 14 = .ok (.istore_n 3, 1) := by decide +kernel
theorem dX4_take_15 : decode cX4_take 15 = .ok (.iload_n 3, 1) := by decide +kernel
theorem dX4_take_16 : decode cX4_take 16 = .ok (.iload_n 2, 1) := by decide +kernel
theorem dX4_take_17 : decode cX4_take 17 = .ok (.if_icmp .gt 23, 3) := by decide +kernel
theorem dX4_take_20 : decode cX4_take 20 = .ok (.aload_n 0, 1) := by decide +kernel
theorem dX4_take_21 : decode cX4_take 21 = .ok (.dup, 1) := by decide +kernel
theorem dX4_take_22 : decode cX4_take 22 = .ok (.getfield 20, 3) := by decide +kernel
theorem dX4_take_25 : decode cX4_take 25 = .ok (.aload_n 1, 1) := by decide +kernel
theorem dX4_take_26 : decode cX4_take 26 = .ok (.iload_n 3, 1) := by decide +kernel
theorem dX4_take_27 : decode cX4_take 27 = .ok (.invokevirtual 23, 3) := by decide +kernel
theorem dX4_take_30 : decode cX4_take 30 = .ok (.iadd, 1) := by decide +kernel
theorem dX4_take_31 : decode cX4_take 31 = .ok (.putfield 20, 3) := by decide +kernel
theorem dX4_take_34 : decode cX4_take 34 = .ok (.iinc 3 1, 3) := by decide +kernel
theorem dX4_take_37 : decode cX4_take 37 = .ok (.goto (-22), 3) := by decide +kernel
theorem dX4_take_40 : decode cX4_take 40 = .ok (.aload_n 0, 1) := by decide +kernel
theorem dX4_take_41 : decode cX4_take 41 = .ok (.aload_n 0, 1) := by decide +kernel
theorem dX4_take_42 : decode cX4_take 42 = .ok (.getfield 20, 3) := by decide +kernel
theorem dX4_take_45 : decode cX4_take 45 = .ok (.aload_n 1, 1) := by decide +kernel
theorem dX4_take_46 : decode cX4_take 46 = .ok (.getfield 27, 3) := by decide +kernel
theorem dX4_take_49 : decode cX4_take 49 = .ok (.iload_n 2, 1) := by decide +kernel
theorem dX4_take_50 : decode cX4_take 50 = .ok (.iaload, 1) := by decide +kernel
theorem dX4_take_51 : decode cX4_take 51 = .ok (.isub, 1) := by decide +kernel
theorem dX4_take_52 : decode cX4_take 52 = .ok (.putfield 31, 3) := by decide +kernel
theorem dX4_take_55 : decode cX4_take 55 = .ok (.aload_n 0, 1) := by decide +kernel
theorem dX4_take_56 : decode cX4_take 56 = .ok (.aload_n 1, 1) := by decide +kernel
theorem dX4_take_57 : decode cX4_take 57 = .ok (.iload_n 2, 1) := by decide +kernel
theorem dX4_take_58 : decode cX4_take 58 = .ok (.invokevirtual 34, 3) := by decide +kernel
theorem dX4_take_61 : decode cX4_take 61 = .ok (.putfield 37, 3) := by decide +kernel
theorem dX4_take_64 : decode cX4_take 64 = .ok (.aload_n 0, 1) := by decide +kernel
theorem dX4_take_65 : decode cX4_take 65 = .ok (.aload_n 1, 1) := by decide +kernel
theorem dX4_take_66 : decode cX4_take 66 = .ok (.aload_n 0, 1) := by decide +kernel
theorem dX4_take_67 : decode cX4_take 67 = .ok (.getfield 37, 3) := by decide +kernel
theorem dX4_take_70 : decode cX4_take 70 = .ok (.invokevirtual 39, 3) := by decide +kernel
theorem dX4_take_73 : decode cX4_take 73 = .ok (.putfield 42, 3) := by decide +kernel
theorem dX4_take_76 : decode cX4_take 76 = .ok (.aload_n 0, 1) := by decide +kernel
theorem dX4_take_77 : decode cX4_take 77 = .ok (.aload_n 1, 1) := by decide +kernel
theorem dX4_take_78 : decode cX4_take 78 = .ok (.getfield 45, 3) := by decide +kernel
theorem dX4_take_81 : decode cX4_take 81 = .ok (.iconst 2, 1) := by decide +kernel
theorem dX4_take_82 : decode cX4_take 82 = .ok (.iaload, 1) := by decide +kernel
theorem dX4_take_83 : decode cX4_take 83 = .ok (.putfield 48, 3) := by decide +kernel
theorem dX4_take_86 : decode cX4_take 86 = .ok (.aload_n 0, 1) := by decide +kernel
theorem dX4_take_87 : decode cX4_take 87 = .ok (.iconst 0, 1) := by decide +kernel
theorem dX4_take_88 : decode cX4_take 88 = .ok (.putfield 51, 3) := by decide +kernel
theorem dX4_take_91 : decode cX4_take 91 = .ok (.aload_n 0, 1) := by decide +kernel
theorem dX4_take_92 : decode cX4_take 92 = .ok (.iconst 0, 1) := by decide +kernel
theorem dX4_take_93 : decode cX4_take 93 = .ok (.putfield 54, 3) := by decide +kernel
theorem dX4_take_96 : decode cX4_take 96 = .ok (.aload_n 1, 1) := by decide +kernel
theorem dX4_take_97 : decode cX4_take 97 = .ok (.iload_n 2, 1) := by decide +kernel
theorem dX4_take_98 : decode cX4_take 98 = .ok (.invokevirtual 57, 3) := by decide +kernel
theorem dX4_take_101 : decode cX4_take 101 = .ok (.istore_n 3, 1) := by decide +kernel
theorem dX4_take_102 : decode cX4_take 102 = .ok (.aload_n 1, 1) := by decide +kernel
theorem dX4_take_103 : decode cX4_take 103 = .ok (.getfield 45, 3) := by decide +kernel
theorem dX4_take_106 : decode cX4_take 106 = .ok (.iconst 0, 1) := by decide +kernel
theorem dX4_take_107 : decode cX4_take 107 = .ok (.iaload, 1) := by decide +kernel
theorem dX4_take_108 : decode cX4_take 108 = .ok (.ifCond .ne 42, 3) := by decide +kernel
theorem dX4_take_111 : decode cX4_take 111 = .ok (.iload_n 3, 1) := by decide +kernel
theorem dX4_take_112 : decode cX4_take 112 = .ok (.iconst (-1), 1) := by decide +kernel
theorem dX4_take_113 : decode cX4_take 113 = .ok (.if_icmp .eq 37, 3) := by decide +kernel
theorem dX4_take_116 : decode cX4_take 116 = .ok (.aload_n 1, 1) := by decide +kernel
theorem dX4_take_117 : decode cX4_take 117 = .ok (.iload_n 3, 1) := by decide +kernel
theorem dX4_take_118 : decode cX4_take 118 = .ok (.invokevirtual 34, 3) := by decide +kernel
theorem dX4_take_121 : decode cX4_take 121 = .ok (.istore 4, 2) := by decide +kernel
theorem dX4_take_123 : decode cX4_take 123 = .ok (.aload_n 0, 1) := by decide +kernel
theorem dX4_take_124 : decode cX4_take 124 = .ok (.iload 4, 2) := by decide +kernel
theorem dX4_take_126 : decode cX4_take 126 = .ok (.aload_n 1, 1) := by decide +kernel
theorem dX4_take_127 : decode cX4_take 127 = .ok (.getfield 60, 3) := by decide +kernel
theorem dX4_take_130 : decode cX4_take 130 = .ok (.iload_n 2, 1) := by decide +kernel
theorem dX4_take_131 : decode cX4_take 131 = .ok (.iaload, 1) := by decide +kernel
theorem dX4_take_132 : decode cX4_take 132 = .ok (.iconst (-1), 1) := by decide +kernel
theorem dX4_take_133 : decode cX4_take 133 = .ok (.ixor, 1) := by decide +kernel
theorem dX4_take_134 : decode cX4_take 134 = .ok (.iand, 1) := by decide +kernel
theorem dX4_take_135 : decode cX4_take 135 = .ok (.putfield 51, 3) := by decide +kernel
theorem dX4_take_138 : decode cX4_take 138 = .ok (.aload_n 0, 1) := by decide +kernel
theorem dX4_take_139 : decode cX4_take 139 = .ok (.aload_n 1, 1) := by decide +kernel
theorem dX4_take_140 : decode cX4_take 140 = .ok (.iload 4, 2) := by decide +kernel
theorem dX4_take_142 : decode cX4_take 142 = .ok (.invokevirtual 39, 3) := by decide +kernel
theorem dX4_take_145 : decode cX4_take 145 = .ok (.iconst 4, 1) := by decide +kernel
theorem dX4_take_146 : decode cX4_take 146 = .ok (.idiv, 1) := by decide +kernel
theorem dX4_take_147 : decode cX4_take 147 = .ok (.putfield 54, 3) := by decide +kernel
theorem dX4_take_150 : decode cX4_take 150 = .ok (.return_, 1) := by decide +kernel
theorem dX4_ticksOfRound_0 : decode cX4_ticksOfRound 0 = .ok (.aload_n 0, 1) := by decide +kernel
theorem dX4_ticksOfRound_1 : decode cX4_ticksOfRound 1 = .ok (.getfield 15, 3) := by decide +kernel
theorem dX4_ticksOfRound_4 : decode cX4_ticksOfRound 4 = .ok (.ireturn, 1) := by decide +kernel
theorem dX4_glowBehind_0 : decode cX4_glowBehind 0 = .ok (.aload_n 0, 1) := by decide +kernel
theorem dX4_glowBehind_1 : decode cX4_glowBehind 1 = .ok (.getfield 48, 3) := by decide +kernel
theorem dX4_glowBehind_4 : decode cX4_glowBehind 4 = .ok (.ifCond .le 16, 3) := by decide +kernel
theorem dX4_glowBehind_7 : decode cX4_glowBehind 7 = .ok (.iload_n 2, 1) := by decide +kernel
theorem dX4_glowBehind_8 : decode cX4_glowBehind 8 = .ok (.iload_n 2, 1) := by decide +kernel
theorem dX4_glowBehind_9 : decode cX4_glowBehind 9 = .ok (.aload_n 0, 1) := by decide +kernel
theorem dX4_glowBehind_10 : decode cX4_glowBehind 10 = .ok (.getfield 48, 3) := by decide +kernel
theorem dX4_glowBehind_13 : decode cX4_glowBehind 13 = .ok (.idiv, 1) := by decide +kernel
theorem dX4_glowBehind_14 : decode cX4_glowBehind 14 = .ok (.isub, 1) := by decide +kernel
theorem dX4_glowBehind_15 : decode cX4_glowBehind 15 = .ok (.iconst 1, 1) := by decide +kernel
theorem dX4_glowBehind_16 : decode cX4_glowBehind 16 = .ok (.isub, 1) := by decide +kernel
theorem dX4_glowBehind_17 : decode cX4_glowBehind 17 = .ok (.goto 4, 3) := by decide +kernel
theorem dX4_glowBehind_20 : decode cX4_glowBehind 20 = .ok (.iconst 0, 1) := by decide +kernel
theorem dX4_glowBehind_21 : decode cX4_glowBehind 21 = .ok (.istore 4, 2) := by decide +kernel
theorem dX4_glowBehind_23 : decode cX4_glowBehind 23 = .ok (.iconst 0, 1) := by decide +kernel
theorem dX4_glowBehind_24 : decode cX4_glowBehind 24 = .ok (.iload 4, 2) := by decide +kernel
theorem dX4_glowBehind_26 : decode cX4_glowBehind 26 = .ok (.invokestatic 63, 3) := by decide +kernel
theorem dX4_glowBehind_29 : decode cX4_glowBehind 29 = .ok (.istore 5, 2) := by decide +kernel
theorem dX4_glowBehind_31 : decode cX4_glowBehind 31 = .ok (.iload_n 1, 1) := by decide +kernel
theorem dX4_glowBehind_32 : decode cX4_glowBehind 32 = .ok (.aload_n 0, 1) := by decide +kernel
theorem dX4_glowBehind_33 : decode cX4_glowBehind 33 = .ok (.getfield 31, 3) := by decide +kernel
theorem dX4_glowBehind_36 : decode cX4_glowBehind 36 = .ok (.if_icmp .lt 34, 3) := by decide +kernel
theorem dX4_glowBehind_39 : decode cX4_glowBehind 39 = .ok (.iload_n 1, 1) := by decide +kernel
theorem dX4_glowBehind_40 : decode cX4_glowBehind 40 = .ok (.aload_n 0, 1) := by decide +kernel
theorem dX4_glowBehind_41 : decode cX4_glowBehind 41 = .ok (.getfield 20, 3) := by decide +kernel
theorem dX4_glowBehind_44 : decode cX4_glowBehind 44 = .ok (.if_icmp .ge 26, 3) := by decide +kernel
theorem dX4_glowBehind_47 : decode cX4_glowBehind 47 = .ok (.aload_n 0, 1) := by decide +kernel
theorem dX4_glowBehind_48 : decode cX4_glowBehind 48 = .ok (.getfield 37, 3) := by decide +kernel
theorem dX4_glowBehind_51 : decode cX4_glowBehind 51 = .ok (.iload_n 3, 1) := by decide +kernel
theorem dX4_glowBehind_52 : decode cX4_glowBehind 52 = .ok (.invokestatic 69, 3) := by decide +kernel
theorem dX4_glowBehind_55 : decode cX4_glowBehind 55 = .ok (.iconst 1, 1) := by decide +kernel
theorem dX4_glowBehind_56 : decode cX4_glowBehind 56 = .ok (.if_icmp .ne 14, 3) := by decide +kernel
theorem dX4_glowBehind_59 : decode cX4_glowBehind 59 = .ok (.iload 5, 2) := by decide +kernel
theorem dX4_glowBehind_61 : decode cX4_glowBehind 61 = .ok (.aload_n 0, 1) := by decide +kernel
theorem dX4_glowBehind_62 : decode cX4_glowBehind 62 = .ok (.getfield 42, 3) := by decide +kernel
theorem dX4_glowBehind_65 : decode cX4_glowBehind 65 = .ok (.invokestatic 63, 3) := by decide +kernel
theorem dX4_glowBehind_68 : decode cX4_glowBehind 68 = .ok (.istore 5, 2) := by decide +kernel
theorem dX4_glowBehind_70 : decode cX4_glowBehind 70 = .ok (.iload_n 1, 1) := by decide +kernel
theorem dX4_glowBehind_71 : decode cX4_glowBehind 71 = .ok (.aload_n 0, 1) := by decide +kernel
theorem dX4_glowBehind_72 : decode cX4_glowBehind 72 = .ok (.getfield 31, 3) := by decide +kernel
theorem dX4_glowBehind_75 : decode cX4_glowBehind 75 = .ok (.if_icmp .ne 37, 3) := by decide +kernel
theorem dX4_glowBehind_78 : decode cX4_glowBehind 78 = .ok (.aload_n 0, 1) := by decide +kernel
theorem dX4_glowBehind_79 : decode cX4_glowBehind 79 = .ok (.getfield 31, 3) := by decide +kernel
theorem dX4_glowBehind_82 : decode cX4_glowBehind 82 = .ok (.aload_n 0, 1) := by decide +kernel
theorem dX4_glowBehind_83 : decode cX4_glowBehind 83 = .ok (.getfield 20, 3) := by decide +kernel
theorem dX4_glowBehind_86 : decode cX4_glowBehind 86 = .ok (.if_icmp .ge 26, 3) := by decide +kernel
theorem dX4_glowBehind_89 : decode cX4_glowBehind 89 = .ok (.aload_n 0, 1) := by decide +kernel
theorem dX4_glowBehind_90 : decode cX4_glowBehind 90 = .ok (.getfield 51, 3) := by decide +kernel
theorem dX4_glowBehind_93 : decode cX4_glowBehind 93 = .ok (.iload_n 3, 1) := by decide +kernel
theorem dX4_glowBehind_94 : decode cX4_glowBehind 94 = .ok (.invokestatic 69, 3) := by decide +kernel
theorem dX4_glowBehind_97 : decode cX4_glowBehind 97 = .ok (.iconst 1, 1) := by decide +kernel
theorem dX4_glowBehind_98 : decode cX4_glowBehind 98 = .ok (.if_icmp .ne 14, 3) := by decide +kernel
theorem dX4_glowBehind_101 : decode cX4_glowBehind 101 = .ok (.iload 5, 2) := by decide +kernel
theorem dX4_glowBehind_103 : decode cX4_glowBehind 103 = .ok (.aload_n 0, 1) := by decide +kernel
theorem dX4_glowBehind_104 : decode cX4_glowBehind 104 = .ok (.getfield 54, 3) := by decide +kernel
theorem dX4_glowBehind_107 : decode cX4_glowBehind 107 = .ok (.invokestatic 63, 3) := by decide +kernel
theorem dX4_glowBehind_110 : decode cX4_glowBehind 110 = .ok (.istore 5, 2) := by decide +kernel
theorem dX4_glowBehind_112 : decode cX4_glowBehind 112 = .ok (.iload 5, 2) := by decide +kernel
theorem dX4_glowBehind_114 : decode cX4_glowBehind 114 = .ok (.ireturn, 1) := by decide +kernel
theorem dX4_glowAfter_0 : decode cX4_glowAfter 0 = .ok (.iload_n 3, 1) := by decide +kernel
theorem dX4_glowAfter_1 : decode cX4_glowAfter 1 = .ok (.istore 5, 2) := by decide +kernel
theorem dX4_glowAfter_3 : decode cX4_glowAfter 3 = .ok (.iload_n 2, 1) := by decide +kernel
theorem dX4_glowAfter_4 : decode cX4_glowAfter 4 = .ok (.istore 6, 2) := by decide +kernel
theorem dX4_glowAfter_6 : decode cX4_glowAfter 6 = .ok (.iconst 0, 1) := by decide +kernel
theorem dX4_glowAfter_7 : decode cX4_glowAfter 7 = .ok (.istore 7, 2) := by decide +kernel
theorem dX4_glowAfter_9 : decode cX4_glowAfter 9 = .ok (.iload 7, 2) := by decide +kernel
theorem dX4_glowAfter_11 : decode cX4_glowAfter 11 = .ok (.iload_n 1, 1) := by decide +kernel
theorem dX4_glowAfter_12 : decode cX4_glowAfter 12 = .ok (.if_icmp .ge 42, 3) := by decide +kernel
theorem dX4_glowAfter_15 : decode cX4_glowAfter 15 = .ok (.aload_n 0, 1) := by decide +kernel
theorem dX4_glowAfter_16 : decode cX4_glowAfter 16 = .ok (.iload 6, 2) := by decide +kernel
theorem dX4_glowAfter_18 : decode cX4_glowAfter 18 = .ok (.iload 5, 2) := by decide +kernel
theorem dX4_glowAfter_20 : decode cX4_glowAfter 20 = .ok (.iload 4, 2) := by decide +kernel
theorem dX4_glowAfter_22 : decode cX4_glowAfter 22 = .ok (.invokevirtual 72, 3) := by decide +kernel
theorem dX4_glowAfter_25 : decode cX4_glowAfter 25 = .ok (.istore 5, 2) := by decide +kernel
theorem dX4_glowAfter_27 : decode cX4_glowAfter 27 = .ok (.iload 6, 2) := by decide +kernel
theorem dX4_glowAfter_29 : decode cX4_glowAfter 29 = .ok (.iconst 1, 1) := by decide +kernel
theorem dX4_glowAfter_30 : decode cX4_glowAfter 30 = .ok (.iadd, 1) := by decide +kernel
theorem dX4_glowAfter_31 : decode cX4_glowAfter 31 = .ok (.aload_n 0, 1) := by decide +kernel
theorem dX4_glowAfter_32 : decode cX4_glowAfter 32 = .ok (.getfield 15, 3) := by decide +kernel
theorem dX4_glowAfter_35 : decode cX4_glowAfter 35 = .ok (.if_icmp .ge 10, 3) := by decide +kernel
theorem dX4_glowAfter_38 : decode cX4_glowAfter 38 = .ok (.iload 6, 2) := by decide +kernel
theorem dX4_glowAfter_40 : decode cX4_glowAfter 40 = .ok (.iconst 1, 1) := by decide +kernel
theorem dX4_glowAfter_41 : decode cX4_glowAfter 41 = .ok (.iadd, 1) := by decide +kernel
theorem dX4_glowAfter_42 : decode cX4_glowAfter 42 = .ok (.goto 4, 3) := by decide +kernel
theorem dX4_glowAfter_45 : decode cX4_glowAfter 45 = .ok (.iconst 0, 1) := by decide +kernel
theorem dX4_glowAfter_46 : decode cX4_glowAfter 46 = .ok (.istore 6, 2) := by decide +kernel
theorem dX4_glowAfter_48 : decode cX4_glowAfter 48 = .ok (.iinc 7 1, 3) := by decide +kernel
theorem dX4_glowAfter_51 : decode cX4_glowAfter 51 = .ok (.goto (-42), 3) := by decide +kernel
theorem dX4_glowAfter_54 : decode cX4_glowAfter 54 = .ok (.iload 5, 2) := by decide +kernel
theorem dX4_glowAfter_56 : decode cX4_glowAfter 56 = .ok (.ireturn, 1) := by decide +kernel
theorem dX5_init_0 : decode cX5_init 0 = .ok (.aload_n 0, 1) := by decide +kernel
theorem dX5_init_1 : decode cX5_init 1 = .ok (.invokespecial 1, 3) := by decide +kernel
theorem dX5_init_4 : decode cX5_init 4 = .ok (.aload_n 0, 1) := by decide +kernel
theorem dX5_init_5 : decode cX5_init 5 = .ok (.new 7, 3) := by decide +kernel
theorem dX5_init_8 : decode cX5_init 8 = .ok (.dup, 1) := by decide +kernel
theorem dX5_init_9 : decode cX5_init 9 = .ok (.invokespecial 9, 3) := by decide +kernel
theorem dX5_init_12 : decode cX5_init 12 = .ok (.putfield 10, 3) := by decide +kernel
theorem dX5_init_15 : decode cX5_init 15 = .ok (.aload_n 0, 1) := by decide +kernel
theorem dX5_init_16 : decode cX5_init 16 = .ok (.aload_n 0, 1) := by decide +kernel
theorem dX5_init_17 : decode cX5_init 17 = .ok (.getfield 10, 3) := by decide +kernel
theorem dX5_init_20 : decode cX5_init 20 = .ok (.getfield 16, 3) := by decide +kernel
theorem dX5_init_23 : decode cX5_init 23 = .ok (.putfield 20, 3) := by decide +kernel
theorem dX5_init_26 : decode cX5_init 26 = .ok (.aload_n 0, 1) := by decide +kernel
theorem dX5_init_27 : decode cX5_init 27 = .ok (.new 7, 3) := by decide +kernel
theorem dX5_init_30 : decode cX5_init 30 = .ok (.dup, 1) := by decide +kernel
theorem dX5_init_31 : decode cX5_init 31 = .ok (.invokespecial 9, 3) := by decide +kernel
theorem dX5_init_34 : decode cX5_init 34 = .ok (.putfield 23, 3) := by decide +kernel
theorem dX5_init_37 : decode cX5_init 37 = .ok (.aload_n 0, 1) := by decide +kernel
theorem dX5_init_38 : decode cX5_init 38 = .ok (.new 26, 3) := by decide +kernel
theorem dX5_init_41 : decode cX5_init 41 = .ok (.dup, 1) := by decide +kernel
theorem dX5_init_42 : decode cX5_init 42 = .ok (.invokespecial 28, 3) := by decide +kernel
theorem dX5_init_45 : decode cX5_init 45 = .ok (.putfield 29, 3) := by decide +kernel
theorem dX5_init_48 : decode cX5_init 48 = .ok (.aload_n 0, 1) := by decide +kernel
theorem dX5_init_49 : decode cX5_init 49 = .ok (.new 33, 3) := by decide +kernel
theorem dX5_init_52 : decode cX5_init 52 = .ok (.dup, 1) := by decide +kernel
theorem dX5_init_53 : decode cX5_init 53 = .ok (.invokespecial 35, 3) := by decide +kernel
theorem dX5_init_56 : decode cX5_init 56 = .ok (.putfield 36, 3) := by decide +kernel
theorem dX5_init_59 : decode cX5_init 59 = .ok (.aload_n 0, 1) := by decide +kernel
theorem dX5_init_60 : decode cX5_init 60 = .ok (.new 40, 3) := by decide +kernel
theorem dX5_init_63 : decode cX5_init 63 = .ok (.dup, 1) := by decide +kernel
theorem dX5_init_64 : decode cX5_init 64 = .ok (.invokespecial 42, 3) := by decide +kernel
theorem dX5_init_67 : decode cX5_init 67 = .ok (.putfield 43, 3) := by decide +kernel
theorem dX5_init_70 : decode cX5_init 70 = .ok (.aload_n 0, 1) := by decide +kernel
theorem dX5_init_71 : decode cX5_init 71 = .ok (.iconst 2, 1) := by decide +kernel
theorem dX5_init_72 : decode cX5_init 72 = .ok (.anewarray 47, 3) := by decide +kernel
theorem dX5_init_75 : decode cX5_init 75 = .ok (.putfield 49, 3) := by decide +kernel
theorem dX5_init_78 : decode cX5_init 78 = .ok (.iconst 0, 1) := by decide +kernel
theorem dX5_init_79 : decode cX5_init 79 = .ok (.istore_n 1, 1) := by decide +kernel
theorem dX5_init_80 : decode cX5_init 80 = .ok (.iload_n 1, 1) := by decide +kernel
theorem dX5_init_81 : decode cX5_init 81 = .ok (.iconst 2, 1) := by decide +kernel
theorem dX5_init_82 : decode cX5_init 82 = .ok (.if_icmp .ge 22, 3) := by decide +kernel
theorem dX5_init_85 : decode cX5_init 85 = .ok (.aload_n 0, 1) := by decide +kernel
theorem dX5_init_86 : decode cX5_init 86 = .ok (.getfield 49, 3) := by decide +kernel
theorem dX5_init_89 : decode cX5_init 89 = .ok (.iload_n 1, 1) := by decide +kernel
theorem dX5_init_90 : decode cX5_init 90 = .ok (.new 47, 3) := by decide +kernel
theorem dX5_init_93 : decode cX5_init 93 = .ok (.dup, 1) := by decide +kernel
theorem dX5_init_94 : decode cX5_init 94 = .ok (.invokespecial 53, 3) := by decide +kernel
theorem dX5_init_97 : decode cX5_init 97 = .ok (.aastore, 1) := by decide +kernel
theorem dX5_init_98 : decode cX5_init 98 = .ok (.iinc 1 1, 3) := by decide +kernel
theorem dX5_init_101 : decode cX5_init 101 = .ok (.goto (-21), 3) := by decide +kernel
theorem dX5_init_104 : decode cX5_init 104 = .ok (.aload_n 0, 1) := by decide +kernel
theorem dX5_init_105 : decode cX5_init 105 = .ok (.iconst 2, 1) := by decide +kernel
theorem dX5_init_106 : decode cX5_init 106 = .ok (.newarray .boolean, 2) := by decide +kernel
theorem dX5_init_108 : decode cX5_init 108 = .ok (.putfield 54, 3) := by decide +kernel
theorem dX5_init_111 : decode cX5_init 111 = .ok (.aload_n 0, 1) := by decide +kernel
theorem dX5_init_112 : decode cX5_init 112 = .ok (.bipush 6, 2) := by decide +kernel
theorem dX5_init_114 : decode cX5_init 114 = .ok (.anewarray 47, 3) := by decide +kernel
theorem dX5_init_117 : decode cX5_init 117 = .ok (.putfield 58, 3) := by decide +kernel
theorem dX5_init_120 : decode cX5_init 120 = .ok (.iconst 0, 1) := by decide +kernel
theorem dX5_init_121 : decode cX5_init 121 = .ok (.istore_n 1, 1) := by decide +kernel
theorem dX5_init_122 : decode cX5_init 122 = .ok (.iload_n 1, 1) := by decide +kernel
theorem dX5_init_123 : decode cX5_init 123 = .ok (.bipush 6, 2) := by decide +kernel
theorem dX5_init_125 : decode cX5_init 125 = .ok (.if_icmp .ge 22, 3) := by decide +kernel
theorem dX5_init_128 : decode cX5_init 128 = .ok (.aload_n 0, 1) := by decide +kernel
theorem dX5_init_129 : decode cX5_init 129 = .ok (.getfield 58, 3) := by decide +kernel
theorem dX5_init_132 : decode cX5_init 132 = .ok (.iload_n 1, 1) := by decide +kernel
theorem dX5_init_133 : decode cX5_init 133 = .ok (.new 47, 3) := by decide +kernel
theorem dX5_init_136 : decode cX5_init 136 = .ok (.dup, 1) := by decide +kernel
theorem dX5_init_137 : decode cX5_init 137 = .ok (.invokespecial 53, 3) := by decide +kernel
theorem dX5_init_140 : decode cX5_init 140 = .ok (.aastore, 1) := by decide +kernel
theorem dX5_init_141 : decode cX5_init 141 = .ok (.iinc 1 1, 3) := by decide +kernel
theorem dX5_init_144 : decode cX5_init 144 = .ok (.goto (-22), 3) := by decide +kernel
theorem dX5_init_147 : decode cX5_init 147 = .ok (.return_, 1) := by decide +kernel
theorem dX5_show_0 : decode cX5_show 0 = .ok (.iload_n 1, 1) := by decide +kernel
theorem dX5_show_1 : decode cX5_show 1 = .ok (.invokestatic 61, 3) := by decide +kernel
theorem dX5_show_4 : decode cX5_show 4 = .ok (.iload_n 2, 1) := by decide +kernel
theorem dX5_show_5 : decode cX5_show 5 = .ok (.ifCond .lt 9, 3) := by decide +kernel
theorem dX5_show_8 : decode cX5_show 8 = .ok (.iload_n 2, 1) := by decide +kernel
theorem dX5_show_9 : decode cX5_show 9 = .ok (.bipush 18, 2) := by decide +kernel
theorem dX5_show_11 : decode cX5_show 11 = .ok (.if_icmp .lt 13, 3) := by decide +kernel
theorem dX5_show_14 : decode cX5_show 14 = .ok (.new 65, 3) := by decide +kernel
theorem dX5_show_17 : decode cX5_show 17 = .ok (.dup, 1) := by decide +kernel
theorem dX5_show_18 : decode cX5_show 18 = .ok (.ldc 67, 2) := by decide +kernel
theorem dX5_show_20 : decode cX5_show 20 = .ok (.invokespecial 69, 3) := by decide +kernel
theorem dX5_show_23 : decode cX5_show 23 = .ok (.athrow, 1) := by decide +kernel
theorem dX5_show_24 : decode cX5_show 24 = .ok (.aload_n 0, 1) := by decide +kernel
theorem dX5_show_25 : decode cX5_show 25 = .ok (.invokevirtual 72, 3) := by decide +kernel
theorem dX5_show_28 : decode cX5_show 28 = .ok (.aload_n 0, 1) := by decide +kernel
theorem dX5_show_29 : decode cX5_show 29 = .ok (.getfield 20, 3) := by decide +kernel
theorem dX5_show_32 : decode cX5_show 32 = .ok (.getfield 75, 3) := by decide +kernel
theorem dX5_show_35 : decode cX5_show 35 = .ok (.iload_n 1, 1) := by decide +kernel
theorem dX5_show_36 : decode cX5_show 36 = .ok (.iaload, 1) := by decide +kernel
theorem dX5_show_37 : decode cX5_show 37 = .ok (.istore_n 3, 1) := by decide +kernel
theorem dX5_show_38 : decode cX5_show 38 = .ok (.aload_n 0, 1) := by decide +kernel
theorem dX5_show_39 : decode cX5_show 39 = .ok (.getfield 20, 3) := by decide +kernel
theorem dX5_show_42 : decode cX5_show 42 = .ok (.getfield 75, 3) := by decide +kernel
theorem dX5_show_45 : decode cX5_show 45 = .ok (.iload_n 1, 1) := by decide +kernel
theorem dX5_show_46 : decode cX5_show 46 = .ok (.iload_n 2, 1) := by decide +kernel
theorem dX5_show_47 : decode cX5_show 47 = .ok (.iastore, 1) := by decide +kernel
theorem dX5_show_48 : decode cX5_show 48 = .ok (.iload_n 3, 1) := by decide +kernel
theorem dX5_show_49 : decode cX5_show 49 = .ok (.ireturn, 1) := by decide +kernel
theorem dX5_dot_0 : decode cX5_dot 0 = .ok (.iload_n 1, 1) := by decide +kernel
theorem dX5_dot_1 : decode cX5_dot 1 = .ok (.invokestatic 61, 3) := by decide +kernel
theorem dX5_dot_4 : decode cX5_dot 4 = .ok (.aload_n 0, 1) := by decide +kernel
theorem dX5_dot_5 : decode cX5_dot 5 = .ok (.invokevirtual 72, 3) := by decide +kernel
theorem dX5_dot_8 : decode cX5_dot 8 = .ok (.aload_n 0, 1) := by decide +kernel
theorem dX5_dot_9 : decode cX5_dot 9 = .ok (.getfield 20, 3) := by decide +kernel
theorem dX5_dot_12 : decode cX5_dot 12 = .ok (.dup, 1) := by decide +kernel
theorem dX5_dot_13 : decode cX5_dot 13 = .ok (.getfield 79, 3) := by decide +kernel
theorem dX5_dot_16 : decode cX5_dot 16 = .ok (.iconst 1, 1) := by decide +kernel
theorem dX5_dot_17 : decode cX5_dot 17 = .ok (.iload_n 1, 1) := by decide +kernel
theorem dX5_dot_18 : decode cX5_dot 18 = .ok (.ishl, 1) := by decide +kernel
theorem dX5_dot_19 : decode cX5_dot 19 = .ok (.ixor, 1) := by decide +kernel
theorem dX5_dot_20 : decode cX5_dot 20 = .ok (.putfield 79, 3) := by decide +kernel
theorem dX5_dot_23 : decode cX5_dot 23 = .ok (.aload_n 0, 1) := by decide +kernel
theorem dX5_dot_24 : decode cX5_dot 24 = .ok (.getfield 20, 3) := by decide +kernel
theorem dX5_dot_27 : decode cX5_dot 27 = .ok (.getfield 79, 3) := by decide +kernel
theorem dX5_dot_30 : decode cX5_dot 30 = .ok (.iload_n 1, 1) := by decide +kernel
theorem dX5_dot_31 : decode cX5_dot 31 = .ok (.invokestatic 83, 3) := by decide +kernel
theorem dX5_dot_34 : decode cX5_dot 34 = .ok (.ireturn, 1) := by decide +kernel
theorem dX5_burn_0 : decode cX5_burn 0 = .ok (.iload_n 1, 1) := by decide +kernel
theorem dX5_burn_1 : decode cX5_burn 1 = .ok (.invokestatic 61, 3) := by decide +kernel
theorem dX5_burn_4 : decode cX5_burn 4 = .ok (.iload_n 2, 1) := by decide +kernel
theorem dX5_burn_5 : decode cX5_burn 5 = .ok (.invokestatic 87, 3) := by decide +kernel
theorem dX5_burn_8 : decode cX5_burn 8 = .ok (.aload_n 0, 1) := by decide +kernel
theorem dX5_burn_9 : decode cX5_burn 9 = .ok (.invokevirtual 72, 3) := by decide +kernel
theorem dX5_burn_12 : decode cX5_burn 12 = .ok (.aload_n 0, 1) := by decide +kernel
theorem dX5_burn_13 : decode cX5_burn 13 = .ok (.getfield 20, 3) := by decide +kernel
theorem dX5_burn_16 : decode cX5_burn 16 = .ok (.getfield 90, 3) := by decide +kernel
theorem dX5_burn_19 : decode cX5_burn 19 = .ok (.iload_n 1, 1) := by decide +kernel
theorem dX5_burn_20 : decode cX5_burn 20 = .ok (.dup2, 1) := by decide +kernel
theorem dX5_burn_21 : decode cX5_burn 21 = .ok (.iaload, 1) := by decide +kernel
theorem dX5_burn_22 : decode cX5_burn 22 = .ok (.iconst 1, 1) := by decide +kernel
theorem dX5_burn_23 : decode cX5_burn 23 = .ok (.iload_n 2, 1) := by decide +kernel
theorem dX5_burn_24 : decode cX5_burn 24 = .ok (.ishl, 1) := by decide +kernel
theorem dX5_burn_25 : decode cX5_burn 25 = .ok (.ixor, 1) := by decide +kernel
theorem dX5_burn_26 : decode cX5_burn 26 = .ok (.iastore, 1) := by decide +kernel
theorem dX5_burn_27 : decode cX5_burn 27 = .ok (.aload_n 0, 1) := by decide +kernel
theorem dX5_burn_28 : decode cX5_burn 28 = .ok (.getfield 20, 3) := by decide +kernel
theorem dX5_burn_31 : decode cX5_burn 31 = .ok (.getfield 90, 3) := by decide +kernel
theorem dX5_burn_34 : decode cX5_burn 34 = .ok (.iload_n 1, 1) := by decide +kernel
theorem dX5_burn_35 : decode cX5_burn 35 = .ok (.iaload, 1) := by decide +kernel
theorem dX5_burn_36 : decode cX5_burn 36 = .ok (.iload_n 2, 1) := by decide +kernel
theorem dX5_burn_37 : decode cX5_burn 37 = .ok (.invokestatic 83, 3) := by decide +kernel
theorem dX5_burn_40 : decode cX5_burn 40 = .ok (.ireturn, 1) := by decide +kernel
theorem dX5_cut_0 : decode cX5_cut 0 = .ok (.iload_n 1, 1) := by decide +kernel
theorem dX5_cut_1 : decode cX5_cut 1 = .ok (.invokestatic 87, 3) := by decide +kernel
theorem dX5_cut_4 : decode cX5_cut 4 = .ok (.aload_n 0, 1) := by decide +kernel
theorem dX5_cut_5 : decode cX5_cut 5 = .ok (.invokevirtual 72, 3) := by decide +kernel
theorem dX5_cut_8 : decode cX5_cut 8 = .ok (.aload_n 0, 1) := by decide +kernel
theorem dX5_cut_9 : decode cX5_cut 9 = .ok (.getfield 20, 3) := by decide +kernel
theorem dX5_cut_12 : decode cX5_cut 12 = .ok (.dup, 1) := by decide +kernel
theorem dX5_cut_13 : decode cX5_cut 13 = .ok (.getfield 93, 3) := by decide +kernel
theorem dX5_cut_16 : decode cX5_cut 16 = .ok (.iconst 1, 1) := by decide +kernel
theorem dX5_cut_17 : decode cX5_cut 17 = .ok (.iload_n 1, 1) := by decide +kernel
theorem dX5_cut_18 : decode cX5_cut 18 = .ok (.ishl, 1) := by decide +kernel
theorem dX5_cut_19 : decode cX5_cut 19 = .ok (.ixor, 1) := by decide +kernel
theorem dX5_cut_20 : decode cX5_cut 20 = .ok (.putfield 93, 3) := by decide +kernel
theorem dX5_cut_23 : decode cX5_cut 23 = .ok (.aload_n 0, 1) := by decide +kernel
theorem dX5_cut_24 : decode cX5_cut 24 = .ok (.getfield 20, 3) := by decide +kernel
theorem dX5_cut_27 : decode cX5_cut 27 = .ok (.getfield 93, 3) := by decide +kernel
theorem dX5_cut_30 : decode cX5_cut 30 = .ok (.iload_n 1, 1) := by decide +kernel
theorem dX5_cut_31 : decode cX5_cut 31 = .ok (.invokestatic 83, 3) := by decide +kernel
theorem dX5_cut_34 : decode cX5_cut 34 = .ok (.ireturn, 1) := by decide +kernel
theorem dX5_time_0 : decode cX5_time 0 = .ok (.iload_n 1, 1) := by decide +kernel
theorem dX5_time_1 : decode cX5_time 1 = .ok (.invokestatic 61, 3) := by decide +kernel
theorem dX5_time_4 : decode cX5_time 4 = .ok (.iload_n 2, 1) := by decide +kernel
theorem dX5_time_5 : decode cX5_time 5 = .ok (.invokestatic 96, 3) := by decide +kernel
theorem dX5_time_8 : decode cX5_time 8 = .ok (.aload_n 0, 1) := by decide +kernel
theorem dX5_time_9 : decode cX5_time 9 = .ok (.invokevirtual 72, 3) := by decide +kernel
theorem dX5_time_12 : decode cX5_time 12 = .ok (.aload_n 0, 1) := by decide +kernel
theorem dX5_time_13 : decode cX5_time 13 = .ok (.getfield 20, 3) := by decide +kernel
theorem dX5_time_16 : decode cX5_time 16 = .ok (.getfield 99, 3) := by decide +kernel
theorem dX5_time_19 : decode cX5_time 19 = .ok (.iload_n 1, 1) := by decide +kernel
theorem dX5_time_20 : decode cX5_time 20 = .ok (.iaload, 1) := by decide +kernel
theorem dX5_time_21 : decode cX5_time 21 = .ok (.istore_n 3, 1) := by decide +kernel
theorem dX5_time_22 : decode cX5_time 22 = .ok (.aload_n 0, 1) := by decide +kernel
theorem dX5_time_23 : decode cX5_time 23 = .ok (.getfield 20, 3) := by decide +kernel
theorem dX5_time_26 : decode cX5_time 26 = .ok (.getfield 99, 3) := by decide +kernel
theorem dX5_time_29 : decode cX5_time 29 = .ok (.iload_n 1, 1) := by decide +kernel
theorem dX5_time_30 : decode cX5_time 30 = .ok (.iload_n 2, 1) := by decide +kernel
theorem dX5_time_31 : decode cX5_time 31 = .ok (.iastore, 1) := by decide +kernel
theorem dX5_time_32 : decode cX5_time 32 = .ok (.aload_n 0, 1) := by decide +kernel
theorem dX5_time_33 : decode cX5_time 33 = .ok (.getfield 20, 3) := by decide +kernel
theorem dX5_time_36 : decode cX5_time 36 = .ok (.iconst 0, 1) := by decide +kernel
theorem dX5_time_37 : decode cX5_time 37 = .ok (.putfield 102, 3) := by decide +kernel
theorem dX5_time_40 : decode cX5_time 40 = .ok (.iload_n 3, 1) := by decide +kernel
theorem dX5_time_41 : decode cX5_time 41 = .ok (.ireturn, 1) := by decide +kernel
theorem dX5_balance_0 : decode cX5_balance 0 = .ok (.iload_n 1, 1) := by decide +kernel
theorem dX5_balance_1 : decode cX5_balance 1 = .ok (.invokestatic 105, 3) := by decide +kernel
theorem dX5_balance_4 : decode cX5_balance 4 = .ok (.aload_n 0, 1) := by decide +kernel
theorem dX5_balance_5 : decode cX5_balance 5 = .ok (.getfield 29, 3) := by decide +kernel
theorem dX5_balance_8 : decode cX5_balance 8 = .ok (.aload_n 0, 1) := by decide +kernel
theorem dX5_balance_9 : decode cX5_balance 9 = .ok (.getfield 20, 3) := by decide +kernel
theorem dX5_balance_12 : decode cX5_balance 12 = .ok (.iload_n 1, 1) := by decide +kernel
theorem dX5_balance_13 : decode cX5_balance 13 = .ok (.invokevirtual 108, 3) := by decide +kernel
theorem dX5_balance_16 : decode cX5_balance 16 = .ok (.istore_n 2, 1) := by decide +kernel
theorem dX5_balance_17 : decode cX5_balance 17 = .ok (.iload_n 2, 1) := by decide +kernel
theorem dX5_balance_18 : decode cX5_balance 18 = .ok (.ifCond .ne 13, 3) := by decide +kernel
theorem dX5_balance_21 : decode cX5_balance 21 = .ok (.new 112, 3) := by decide +kernel
theorem dX5_balance_24 : decode cX5_balance 24 = .ok (.dup, 1) := by decide +kernel
theorem dX5_balance_25 : decode cX5_balance 25 = .ok (.ldc 114, 2) := by decide +kernel
theorem dX5_balance_27 : decode cX5_balance 27 = .ok (.invokespecial 116, 3) := by decide +kernel
theorem dX5_balance_30 : decode cX5_balance 30 = .ok (.athrow, 1) := by decide +kernel
theorem dX5_balance_31 : decode cX5_balance 31 = .ok (.aload_n 0, 1) := by decide +kernel
theorem dX5_balance_32 : decode cX5_balance 32 = .ok (.invokevirtual 72, 3) := by decide +kernel
theorem dX5_balance_35 : decode cX5_balance 35 = .ok (.iconst 0, 1) := by decide +kernel
theorem dX5_balance_36 : decode cX5_balance 36 = .ok (.istore_n 3, 1) := by decide +kernel
theorem dX5_balance_37 : decode cX5_balance 37 = .ok (.iload_n 3, 1) := by decide +kernel
theorem dX5_balance_38 : decode cX5_balance 38 = .ok (.bipush 6, 2) := by decide +kernel
theorem dX5_balance_40 : decode cX5_balance 40 = .ok (.if_icmp .ge 27, 3) := by decide +kernel
theorem dX5_balance_43 : decode cX5_balance 43 = .ok (.aload_n 0, 1) := by decide +kernel
theorem dX5_balance_44 : decode cX5_balance 44 = .ok (.getfield 20, 3) := by decide +kernel
theorem dX5_balance_47 : decode cX5_balance 47 = .ok (.getfield 99, 3) := by decide +kernel
theorem dX5_balance_50 : decode cX5_balance 50 = .ok (.iload_n 3, 1) := by decide +kernel
theorem dX5_balance_51 : decode cX5_balance 51 = .ok (.aload_n 0, 1) := by decide +kernel
theorem dX5_balance_52 : decode cX5_balance 52 = .ok (.getfield 29, 3) := by decide +kernel
theorem dX5_balance_55 : decode cX5_balance 55 = .ok (.getfield 117, 3) := by decide +kernel
theorem dX5_balance_58 : decode cX5_balance 58 = .ok (.iload_n 3, 1) := by decide +kernel
theorem dX5_balance_59 : decode cX5_balance 59 = .ok (.iaload, 1) := by decide +kernel
theorem dX5_balance_60 : decode cX5_balance 60 = .ok (.iastore, 1) := by decide +kernel
theorem dX5_balance_61 : decode cX5_balance 61 = .ok (.iinc 3 1, 3) := by decide +kernel
theorem dX5_balance_64 : decode cX5_balance 64 = .ok (.goto (-27), 3) := by decide +kernel
theorem dX5_balance_67 : decode cX5_balance 67 = .ok (.aload_n 0, 1) := by decide +kernel
theorem dX5_balance_68 : decode cX5_balance 68 = .ok (.getfield 20, 3) := by decide +kernel
theorem dX5_balance_71 : decode cX5_balance 71 = .ok (.iconst 0, 1) := by decide +kernel
theorem dX5_balance_72 : decode cX5_balance 72 = .ok (.putfield 102, 3) := by decide +kernel
theorem dX5_balance_75 : decode cX5_balance 75 = .ok (.iload_n 2, 1) := by decide +kernel
theorem dX5_balance_76 : decode cX5_balance 76 = .ok (.ireturn, 1) := by decide +kernel
theorem dX5_set_0 : decode cX5_set 0 = .ok (.iload_n 1, 1) := by decide +kernel
theorem dX5_set_1 : decode cX5_set 1 = .ok (.invokestatic 118, 3) := by decide +kernel
theorem dX5_set_4 : decode cX5_set 4 = .ok (.iload_n 2, 1) := by decide +kernel
theorem dX5_set_5 : decode cX5_set 5 = .ok (.getstatic 121, 3) := by decide +kernel
theorem dX5_set_8 : decode cX5_set 8 = .ok (.iload_n 1, 1) := by decide +kernel
theorem dX5_set_9 : decode cX5_set 9 = .ok (.iaload, 1) := by decide +kernel
theorem dX5_set_10 : decode cX5_set 10 = .ok (.if_icmp .lt 12, 3) := by decide +kernel
theorem dX5_set_13 : decode cX5_set 13 = .ok (.iload_n 2, 1) := by decide +kernel
theorem dX5_set_14 : decode cX5_set 14 = .ok (.getstatic 124, 3) := by decide +kernel
theorem dX5_set_17 : decode cX5_set 17 = .ok (.iload_n 1, 1) := by decide +kernel
theorem dX5_set_18 : decode cX5_set 18 = .ok (.iaload, 1) := by decide +kernel
theorem dX5_set_19 : decode cX5_set 19 = .ok (.if_icmp .le 13, 3) := by decide +kernel
theorem dX5_set_22 : decode cX5_set 22 = .ok (.new 65, 3) := by decide +kernel
theorem dX5_set_25 : decode cX5_set 25 = .ok (.dup, 1) := by decide +kernel
theorem dX5_set_26 : decode cX5_set 26 = .ok (.ldc 127, 2) := by decide +kernel
theorem dX5_set_28 : decode cX5_set 28 = .ok (.invokespecial 69, 3) := by decide +kernel
theorem dX5_set_31 : decode cX5_set 31 = .ok (.athrow, 1) := by decide +kernel
theorem dX5_set_32 : decode cX5_set 32 = .ok (.aload_n 0, 1) := by decide +kernel
theorem dX5_set_33 : decode cX5_set 33 = .ok (.invokevirtual 72, 3) := by decide +kernel
theorem dX5_set_36 : decode cX5_set 36 = .ok (.aload_n 0, 1) := by decide +kernel
theorem dX5_set_37 : decode cX5_set 37 = .ok (.getfield 20, 3) := by decide +kernel
theorem dX5_set_40 : decode cX5_set 40 = .ok (.getfield 129, 3) := by decide +kernel
theorem dX5_set_43 : decode cX5_set 43 = .ok (.iload_n 1, 1) := by decide +kernel
theorem dX5_set_44 : decode cX5_set 44 = .ok (.iaload, 1) := by decide +kernel
theorem dX5_set_45 : decode cX5_set 45 = .ok (.istore_n 3, 1) := by decide +kernel
theorem dX5_set_46 : decode cX5_set 46 = .ok (.aload_n 0, 1) := by decide +kernel
theorem dX5_set_47 : decode cX5_set 47 = .ok (.getfield 20, 3) := by decide +kernel
theorem dX5_set_50 : decode cX5_set 50 = .ok (.getfield 129, 3) := by decide +kernel
theorem dX5_set_53 : decode cX5_set 53 = .ok (.iload_n 1, 1) := by decide +kernel
theorem dX5_set_54 : decode cX5_set 54 = .ok (.iload_n 2, 1) := by decide +kernel
theorem dX5_set_55 : decode cX5_set 55 = .ok (.iastore, 1) := by decide +kernel
theorem dX5_set_56 : decode cX5_set 56 = .ok (.aload_n 0, 1) := by decide +kernel
theorem dX5_set_57 : decode cX5_set 57 = .ok (.getfield 20, 3) := by decide +kernel
theorem dX5_set_60 : decode cX5_set 60 = .ok (.iconst 0, 1) := by decide +kernel
theorem dX5_set_61 : decode cX5_set 61 = .ok (.putfield 102, 3) := by decide +kernel
theorem dX5_set_64 : decode cX5_set 64 = .ok (.iload_n 3, 1) := by decide +kernel
theorem dX5_set_65 : decode cX5_set 65 = .ok (.ireturn, 1) := by decide +kernel
theorem dX5_pass_0 : decode cX5_pass 0 = .ok (.iload_n 1, 1) := by decide +kernel
theorem dX5_pass_1 : decode cX5_pass 1 = .ok (.iconst 1, 1) := by decide +kernel
theorem dX5_pass_2 : decode cX5_pass 2 = .ok (.if_icmp .lt 10, 3) := by decide +kernel
theorem dX5_pass_5 : decode cX5_pass 5 = .ok (.iload_n 1, 1) := by decide +kernel
theorem dX5_pass_6 : decode cX5_pass 6 = .ok (.sipush 200, 3) := by decide +kernel
theorem dX5_pass_9 : decode cX5_pass 9 = .ok (.if_icmp .le 13, 3) := by decide +kernel
theorem dX5_pass_12 : decode cX5_pass 12 = .ok (.new 65, 3) := by decide +kernel
theorem dX5_pass_15 : decode cX5_pass 15 = .ok (.dup, 1) := by decide +kernel
theorem dX5_pass_16 : decode cX5_pass 16 = .ok (.ldc 132, 2) := by decide +kernel
theorem dX5_pass_18 : decode cX5_pass 18 = .ok (.invokespecial 69, 3) := by decide +kernel
theorem dX5_pass_21 : decode cX5_pass 21 = .ok (.athrow, 1) := by decide +kernel
theorem dX5_pass_22 : decode cX5_pass 22 = .ok (.aload_n 0, 1) := by decide +kernel
theorem dX5_pass_23 : decode cX5_pass 23 = .ok (.getfield 20, 3) := by decide +kernel
theorem dX5_pass_26 : decode cX5_pass 26 = .ok (.invokevirtual 134, 3) := by decide +kernel
theorem dX5_pass_29 : decode cX5_pass 29 = .ok (.istore_n 2, 1) := by decide +kernel
theorem dX5_pass_30 : decode cX5_pass 30 = .ok (.iload_n 2, 1) := by decide +kernel
theorem dX5_pass_31 : decode cX5_pass 31 = .ok (.iconst 1, 1) := by decide +kernel
theorem dX5_pass_32 : decode cX5_pass 32 = .ok (.if_icmp .ge 13, 3) := by decide +kernel
theorem dX5_pass_35 : decode cX5_pass 35 = .ok (.new 112, 3) := by decide +kernel
theorem dX5_pass_38 : decode cX5_pass 38 = .ok (.dup, 1) := by decide +kernel
theorem dX5_pass_39 : decode cX5_pass 39 = .ok (.ldc 138, 2) := by decide +kernel
theorem dX5_pass_41 : decode cX5_pass 41 = .ok (.invokespecial 116, 3) := by decide +kernel
theorem dX5_pass_44 : decode cX5_pass 44 = .ok (.athrow, 1) := by decide +kernel
theorem dX5_pass_45 : decode cX5_pass 45 = .ok (.aload_n 0, 1) := by decide +kernel
theorem dX5_pass_46 : decode cX5_pass 46 = .ok (.getfield 20, 3) := by decide +kernel
theorem dX5_pass_49 : decode cX5_pass 49 = .ok (.getfield 140, 3) := by decide +kernel
theorem dX5_pass_52 : decode cX5_pass 52 = .ok (.iload_n 1, 1) := by decide +kernel
theorem dX5_pass_53 : decode cX5_pass 53 = .ok (.iadd, 1) := by decide +kernel
theorem dX5_pass_54 : decode cX5_pass 54 = .ok (.ldc 143, 2) := by decide +kernel
theorem dX5_pass_56 : decode cX5_pass 56 = .ok (.if_icmp .le 13, 3) := by decide +kernel
theorem dX5_pass_59 : decode cX5_pass 59 = .ok (.new 112, 3) := by decide +kernel
theorem dX5_pass_62 : decode cX5_pass 62 = .ok (.dup, 1) := by decide +kernel
theorem dX5_pass_63 : decode cX5_pass 63 = .ok (.ldc 144, 2) := by decide +kernel
theorem dX5_pass_65 : decode cX5_pass 65 = .ok (.invokespecial 116, 3) := by decide +kernel
theorem dX5_pass_68 : decode cX5_pass 68 = .ok (.athrow, 1) := by decide +kernel
theorem dX5_pass_69 : decode cX5_pass 69 = .ok (.aload_n 0, 1) := by decide +kernel
theorem dX5_pass_70 : decode cX5_pass 70 = .ok (.invokevirtual 72, 3) := by decide +kernel
theorem dX5_pass_73 : decode cX5_pass 73 = .ok (.aload_n 0, 1) := by decide +kernel
theorem dX5_pass_74 : decode cX5_pass 74 = .ok (.iload_n 1, 1) := by decide +kernel
theorem dX5_pass_75 : decode cX5_pass 75 = .ok (.invokevirtual 146, 3) := by decide +kernel
theorem dX5_pass_78 : decode cX5_pass 78 = .ok (.aload_n 0, 1) := by decide +kernel
theorem dX5_pass_79 : decode cX5_pass 79 = .ok (.getfield 20, 3) := by decide +kernel
theorem dX5_pass_82 : decode cX5_pass 82 = .ok (.getfield 102, 3) := by decide +kernel
theorem dX5_pass_85 : decode cX5_pass 85 = .ok (.iload_n 1, 1) := by decide +kernel
theorem dX5_pass_86 : decode cX5_pass 86 = .ok (.iadd, 1) := by decide +kernel
theorem dX5_pass_87 : decode cX5_pass 87 = .ok (.iload_n 2, 1) := by decide +kernel
theorem dX5_pass_88 : decode cX5_pass 88 = .ok (.idiv, 1) := by decide +kernel
theorem dX5_pass_89 : decode cX5_pass 89 = .ok (.istore_n 3, 1) := by decide +kernel
theorem dX5_pass_90 : decode cX5_pass 90 = .ok (.aload_n 0, 1) := by decide +kernel
theorem dX5_pass_91 : decode cX5_pass 91 = .ok (.getfield 20, 3) := by decide +kernel
theorem dX5_pass_94 : decode cX5_pass 94 = .ok (.aload_n 0, 1) := by decide +kernel
theorem dX5_pass_95 : decode cX5_pass 95 = .ok (.getfield 20, 3) := by decide +kernel
theorem dX5_pass_98 : decode cX5_pass 98 = .ok (.getfield 102, 3) := by decide +kernel
theorem dX5_pass_101 : decode cX5_pass 101 = .ok (.iload_n 1, 1) := by decide +kernel
theorem dX5_pass_102 : decode cX5_pass 102 = .ok (.iadd, 1) := by decide +kernel
theorem dX5_pass_103 : decode cX5_pass 103 = .ok (.iload_n 2, 1) := by decide +kernel
theorem dX5_pass_104 : decode cX5_pass 104 = .ok (.irem, 1) := by decide +kernel
theorem dX5_pass_105 : decode cX5_pass 105 = .ok (.putfield 102, 3) := by decide +kernel
theorem dX5_pass_108 : decode cX5_pass 108 = .ok (.aload_n 0, 1) := by decide +kernel
theorem dX5_pass_109 : decode cX5_pass 109 = .ok (.getfield 20, 3) := by decide +kernel
theorem dX5_pass_112 : decode cX5_pass 112 = .ok (.dup, 1) := by decide +kernel
theorem dX5_pass_113 : decode cX5_pass 113 = .ok (.getfield 140, 3) := by decide +kernel
theorem dX5_pass_116 : decode cX5_pass 116 = .ok (.iload_n 1, 1) := by decide +kernel
theorem dX5_pass_117 : decode cX5_pass 117 = .ok (.iadd, 1) := by decide +kernel
theorem dX5_pass_118 : decode cX5_pass 118 = .ok (.putfield 140, 3) := by decide +kernel
theorem dX5_pass_121 : decode cX5_pass 121 = .ok (.aload_n 0, 1) := by decide +kernel
theorem dX5_pass_122 : decode cX5_pass 122 = .ok (.getfield 20, 3) := by decide +kernel
theorem dX5_pass_125 : decode cX5_pass 125 = .ok (.dup, 1) := by decide +kernel
theorem dX5_pass_126 : decode cX5_pass 126 = .ok (.getfield 149, 3) := by decide +kernel
theorem dX5_pass_129 : decode cX5_pass 129 = .ok (.iload_n 3, 1) := by decide +kernel
theorem dX5_pass_130 : decode cX5_pass 130 = .ok (.iadd, 1) := by decide +kernel
theorem dX5_pass_131 : decode cX5_pass 131 = .ok (.putfield 149, 3) := by decide +kernel
theorem dX5_pass_134 : decode cX5_pass 134 = .ok (.iload_n 3, 1) := by decide +kernel
theorem dX5_pass_135 : decode cX5_pass 135 = .ok (.ireturn, 1) := by decide +kernel
theorem dX5_append_0 : decode cX5_append 0 = .ok (.iload_n 1, 1) := by decide +kernel
theorem dX5_append_1 : decode cX5_append 1 = .ok (.bipush 33, 2) := by decide +kernel
theorem dX5_append_3 : decode cX5_append 3 = .ok (.if_icmp .lt 9, 3) := by decide +kernel
theorem dX5_append_6 : decode cX5_append 6 = .ok (.iload_n 1, 1) := by decide +kernel
theorem dX5_append_7 : decode cX5_append 7 = .ok (.bipush 126, 2) := by decide +kernel
theorem dX5_append_9 : decode cX5_append 9 = .ok (.if_icmp .le 13, 3) := by decide +kernel
theorem dX5_append_12 : decode cX5_append 12 = .ok (.new 65, 3) := by decide +kernel
theorem dX5_append_15 : decode cX5_append 15 = .ok (.dup, 1) := by decide +kernel
theorem dX5_append_16 : decode cX5_append 16 = .ok (.ldc 152, 2) := by decide +kernel
theorem dX5_append_18 : decode cX5_append 18 = .ok (.invokespecial 69, 3) := by decide +kernel
theorem dX5_append_21 : decode cX5_append 21 = .ok (.athrow, 1) := by decide +kernel
theorem dX5_append_22 : decode cX5_append 22 = .ok (.aload_n 0, 1) := by decide +kernel
theorem dX5_append_23 : decode cX5_append 23 = .ok (.getfield 43, 3) := by decide +kernel
theorem dX5_append_26 : decode cX5_append 26 = .ok (.getfield 154, 3) := by decide +kernel
theorem dX5_append_29 : decode cX5_append 29 = .ok (.bipush 12, 2) := by decide +kernel
theorem dX5_append_31 : decode cX5_append 31 = .ok (.if_icmp .lt 13, 3) := by decide +kernel
theorem dX5_append_34 : decode cX5_append 34 = .ok (.new 112, 3) := by decide +kernel
theorem dX5_append_37 : decode cX5_append 37 = .ok (.dup, 1) := by decide +kernel
theorem dX5_append_38 : decode cX5_append 38 = .ok (.ldc 157, 2) := by decide +kernel
theorem dX5_append_40 : decode cX5_append 40 = .ok (.invokespecial 116, 3) := by decide +kernel
theorem dX5_append_43 : decode cX5_append 43 = .ok (.athrow, 1) := by decide +kernel
theorem dX5_append_44 : decode cX5_append 44 = .ok (.aload_n 0, 1) := by decide +kernel
theorem dX5_append_45 : decode cX5_append 45 = .ok (.getfield 43, 3) := by decide +kernel
theorem dX5_append_48 : decode cX5_append 48 = .ok (.iload_n 1, 1) := by decide +kernel
theorem dX5_append_49 : decode cX5_append 49 = .ok (.i2c, 1) := by decide +kernel
theorem dX5_append_50 : decode cX5_append 50 = .ok (.invokevirtual 159, 3) := by decide +kernel
theorem dX5_append_53 : decode cX5_append 53 = .ok (.aload_n 0, 1) := by decide +kernel
theorem dX5_append_54 : decode cX5_append 54 = .ok (.getfield 43, 3) := by decide +kernel
theorem dX5_append_57 : decode cX5_append 57 = .ok (.getfield 154, 3) := by decide +kernel
theorem dX5_append_60 : decode cX5_append 60 = .ok (.ireturn, 1) := by decide +kernel
theorem dX5_clearBuffer_0 : decode cX5_clearBuffer 0 = .ok (.aload_n 0, 1) := by decide +kernel
theorem dX5_clearBuffer_1 : decode cX5_clearBuffer 1 = .ok (.getfield 43, 3) := by decide +kernel
theorem dX5_clearBuffer_4 : decode cX5_clearBuffer 4 = .ok (.getfield 154, 3) := by decide +kernel
theorem dX5_clearBuffer_7 : decode cX5_clearBuffer 7 = .ok (.istore_n 1, 1) := by decide +kernel
theorem dX5_clearBuffer_8 : decode cX5_clearBuffer 8 = .ok (.aload_n 0, 1) := by decide +kernel
theorem dX5_clearBuffer_9 : decode cX5_clearBuffer 9 = .ok (.getfield 43, 3) := by decide +kernel
theorem dX5_clearBuffer_12 : decode cX5_clearBuffer 12 = .ok (.iconst 0, 1) := by decide +kernel
theorem dX5_clearBuffer_13 : decode cX5_clearBuffer 13 = .ok (.putfield 154, 3) := by decide +kernel
theorem dX5_clearBuffer_16 : decode cX5_clearBuffer 16 = .ok (.iload_n 1, 1) := by decide +kernel
theorem dX5_clearBuffer_17 : decode cX5_clearBuffer 17 = .ok (.ireturn, 1) := by decide +kernel
theorem dX5_firstError_0 : decode cX5_firstError 0 = .ok (.aload_n 0, 1) := by decide +kernel
theorem dX5_firstError_1 : decode cX5_firstError 1 = .ok (.getfield 43, 3) := by decide +kernel
theorem dX5_firstError_4 : decode cX5_firstError 4 = .ok (.invokevirtual 163, 3) := by decide +kernel
theorem dX5_firstError_7 : decode cX5_firstError 7 = .ok (.ireturn, 1) := by decide +kernel
theorem dX5_load_0 : decode cX5_load 0 = .ok (.aload_n 0, 1) := by decide +kernel
theorem dX5_load_1 : decode cX5_load 1 = .ok (.getfield 43, 3) := by decide +kernel
theorem dX5_load_4 : decode cX5_load 4 = .ok (.getfield 154, 3) := by decide +kernel
theorem dX5_load_7 : decode cX5_load 7 = .ok (.ifCond .eq 20, 3) := by decide +kernel
theorem dX5_load_10 : decode cX5_load 10 = .ok (.aload_n 0, 1) := by decide +kernel
theorem dX5_load_11 : decode cX5_load 11 = .ok (.getfield 43, 3) := by decide +kernel
theorem dX5_load_14 : decode cX5_load 14 = .ok (.invokevirtual 163, 3) := by decide +kernel
theorem dX5_load_17 : decode cX5_load 17 = .ok (.aload_n 0, 1) := by decide +kernel
theorem dX5_load_18 : decode cX5_load 18 = .ok (.getfield 43, 3) := by decide +kernel
theorem dX5_load_21 : decode cX5_load 21 = .ok (.getfield 154, 3) := by decide +kernel
theorem dX5_load_24 : decode cX5_load 24 = .ok (.if_icmp .ge 13, 3) := by decide +kernel
theorem dX5_load_27 : decode cX5_load 27 = .ok (.new 65, 3) := by decide +kernel
theorem dX5_load_30 : decode cX5_load 30 = .ok (.dup, 1) := by decide +kernel
theorem dX5_load_31 : decode cX5_load 31 = .ok (.ldc 166, 2) := by decide +kernel
theorem dX5_load_33 : decode cX5_load 33 = .ok (.invokespecial 69, 3) := by decide +kernel
theorem dX5_load_36 : decode cX5_load 36 = .ok (.athrow, 1) := by decide +kernel
theorem dX5_load_37 : decode cX5_load 37 = .ok (.aload_n 0, 1) := by decide +kernel
theorem dX5_load_38 : decode cX5_load 38 = .ok (.invokevirtual 72, 3) := by decide +kernel
theorem dX5_load_41 : decode cX5_load 41 = .ok (.aload_n 0, 1) := by decide +kernel
theorem dX5_load_42 : decode cX5_load 42 = .ok (.getfield 43, 3) := by decide +kernel
theorem dX5_load_45 : decode cX5_load 45 = .ok (.aload_n 0, 1) := by decide +kernel
theorem dX5_load_46 : decode cX5_load 46 = .ok (.getfield 20, 3) := by decide +kernel
theorem dX5_load_49 : decode cX5_load 49 = .ok (.invokevirtual 168, 3) := by decide +kernel
theorem dX5_load_52 : decode cX5_load 52 = .ok (.istore_n 1, 1) := by decide +kernel
theorem dX5_load_53 : decode cX5_load 53 = .ok (.aload_n 0, 1) := by decide +kernel
theorem dX5_load_54 : decode cX5_load 54 = .ok (.getfield 43, 3) := by decide +kernel
theorem dX5_load_57 : decode cX5_load 57 = .ok (.iconst 0, 1) := by decide +kernel
theorem dX5_load_58 : decode cX5_load 58 = .ok (.putfield 154, 3) := by decide +kernel
theorem dX5_load_61 : decode cX5_load 61 = .ok (.iload_n 1, 1) := by decide +kernel
theorem dX5_load_62 : decode cX5_load 62 = .ok (.ireturn, 1) := by decide +kernel
theorem dX5_write_0 : decode cX5_write 0 = .ok (.aload_n 0, 1) := by decide +kernel
theorem dX5_write_1 : decode cX5_write 1 = .ok (.getfield 43, 3) := by decide +kernel
theorem dX5_write_4 : decode cX5_write 4 = .ok (.iconst 0, 1) := by decide +kernel
theorem dX5_write_5 : decode cX5_write 5 = .ok (.putfield 154, 3) := by decide +kernel
theorem dX5_write_8 : decode cX5_write 8 = .ok (.iconst 0, 1) := by decide +kernel
theorem dX5_write_9 : decode cX5_write 9 = .ok (.istore_n 1, 1) := by decide +kernel
theorem dX5_write_10 : decode cX5_write 10 = .ok (.iload_n 1, 1) := by decide +kernel
theorem dX5_write_11 : decode cX5_write 11 = .ok (.bipush 6, 2) := by decide +kernel
theorem dX5_write_13 : decode cX5_write 13 = .ok (.if_icmp .ge 61, 3) := by decide +kernel
theorem dX5_write_16 : decode cX5_write 16 = .ok (.aload_n 0, 1) := by decide +kernel
theorem dX5_write_17 : decode cX5_write 17 = .ok (.getfield 10, 3) := by decide +kernel
theorem dX5_write_20 : decode cX5_write 20 = .ok (.iload_n 1, 1) := by decide +kernel
theorem dX5_write_21 : decode cX5_write 21 = .ok (.invokevirtual 172, 3) := by decide +kernel
theorem dX5_write_24 : decode cX5_write 24 = .ok (.aload_n 0, 1) := by decide +kernel
theorem dX5_write_25 : decode cX5_write 25 = .ok (.getfield 43, 3) := by decide +kernel
theorem dX5_write_28 : decode cX5_write 28 = .ok (.aload_n 0, 1) := by decide +kernel
theorem dX5_write_29 : decode cX5_write 29 = .ok (.getfield 10, 3) := by decide +kernel
theorem dX5_write_32 : decode cX5_write 32 = .ok (.iload_n 1, 1) := by decide +kernel
theorem dX5_write_33 : decode cX5_write 33 = .ok (.invokevirtual 175, 3) := by decide +kernel
theorem dX5_write_36 : decode cX5_write 36 = .ok (.invokestatic 179, 3) := by decide +kernel
theorem dX5_write_39 : decode cX5_write 39 = .ok (.invokevirtual 159, 3) := by decide +kernel
theorem dX5_write_42 : decode cX5_write 42 = .ok (.aload_n 0, 1) := by decide +kernel
theorem dX5_write_43 : decode cX5_write 43 = .ok (.getfield 10, 3) := by decide +kernel
theorem dX5_write_46 : decode cX5_write 46 = .ok (.iload_n 1, 1) := by decide +kernel
theorem dX5_write_47 : decode cX5_write 47 = .ok (.invokevirtual 183, 3) := by decide +kernel
theorem dX5_write_50 : decode cX5_write 50 = .ok (.bipush 7, 2) := by decide +kernel
theorem dX5_write_52 : decode cX5_write 52 = .ok (.invokestatic 83, 3) := by decide +kernel
theorem dX5_write_55 : decode cX5_write 55 = .ok (.iconst 1, 1) := by decide +kernel
theorem dX5_write_56 : decode cX5_write 56 = .ok (.if_icmp .ne 12, 3) := by decide +kernel
theorem dX5_write_59 : decode cX5_write 59 = .ok (.aload_n 0, 1) := by decide +kernel
theorem dX5_write_60 : decode cX5_write 60 = .ok (.getfield 43, 3) := by decide +kernel
theorem dX5_write_63 : decode cX5_write 63 = .ok (.bipush 46, 2) := by decide +kernel
theorem dX5_write_65 : decode cX5_write 65 = .ok (.invokevirtual 159, 3) := by decide +kernel
theorem dX5_write_68 : decode cX5_write 68 = .ok (.iinc 1 1, 3) := by decide +kernel
theorem dX5_write_71 : decode cX5_write 71 = .ok (.goto (-61), 3) := by decide +kernel
theorem dX5_write_74 : decode cX5_write 74 = .ok (.aload_n 0, 1) := by decide +kernel
theorem dX5_write_75 : decode cX5_write 75 = .ok (.getfield 43, 3) := by decide +kernel
theorem dX5_write_78 : decode cX5_write 78 = .ok (.getfield 154, 3) := by decide +kernel
theorem dX5_write_81 : decode cX5_write 81 = .ok (.ireturn, 1) := by decide +kernel
theorem dX5_keep_0 : decode cX5_keep 0 = .ok (.iload_n 1, 1) := by decide +kernel
theorem dX5_keep_1 : decode cX5_keep 1 = .ok (.invokestatic 186, 3) := by decide +kernel
theorem dX5_keep_4 : decode cX5_keep 4 = .ok (.aload_n 0, 1) := by decide +kernel
theorem dX5_keep_5 : decode cX5_keep 5 = .ok (.getfield 49, 3) := by decide +kernel
theorem dX5_keep_8 : decode cX5_keep 8 = .ok (.iload_n 1, 1) := by decide +kernel
theorem dX5_keep_9 : decode cX5_keep 9 = .ok (.aaload, 1) := by decide +kernel
theorem dX5_keep_10 : decode cX5_keep 10 = .ok (.aload_n 0, 1) := by decide +kernel
theorem dX5_keep_11 : decode cX5_keep 11 = .ok (.getfield 20, 3) := by decide +kernel
theorem dX5_keep_14 : decode cX5_keep 14 = .ok (.invokevirtual 189, 3) := by decide +kernel
theorem dX5_keep_17 : decode cX5_keep 17 = .ok (.aload_n 0, 1) := by decide +kernel
theorem dX5_keep_18 : decode cX5_keep 18 = .ok (.getfield 54, 3) := by decide +kernel
theorem dX5_keep_21 : decode cX5_keep 21 = .ok (.iload_n 1, 1) := by decide +kernel
theorem dX5_keep_22 : decode cX5_keep 22 = .ok (.iconst 1, 1) := by decide +kernel
theorem dX5_keep_23 : decode cX5_keep 23 = .ok (.bastore, 1) := by decide +kernel
theorem dX5_keep_24 : decode cX5_keep 24 = .ok (.aload_n 0, 1) := by decide +kernel
theorem dX5_keep_25 : decode cX5_keep 25 = .ok (.getfield 20, 3) := by decide +kernel
theorem dX5_keep_28 : decode cX5_keep 28 = .ok (.getfield 140, 3) := by decide +kernel
theorem dX5_keep_31 : decode cX5_keep 31 = .ok (.ireturn, 1) := by decide +kernel
theorem dX5_goBack_0 : decode cX5_goBack 0 = .ok (.iload_n 1, 1) := by decide +kernel
theorem dX5_goBack_1 : decode cX5_goBack 1 = .ok (.invokestatic 186, 3) := by decide +kernel
theorem dX5_goBack_4 : decode cX5_goBack 4 = .ok (.aload_n 0, 1) := by decide +kernel
theorem dX5_goBack_5 : decode cX5_goBack 5 = .ok (.getfield 54, 3) := by decide +kernel
theorem dX5_goBack_8 : decode cX5_goBack 8 = .ok (.iload_n 1, 1) := by decide +kernel
theorem dX5_goBack_9 : decode cX5_goBack 9 = .ok (.baload, 1) := by decide +kernel
theorem dX5_goBack_10 : decode cX5_goBack 10 = .ok (.ifCond .ne 13, 3) := by decide +kernel
theorem dX5_goBack_13 : decode cX5_goBack 13 = .ok (.new 112, 3) := by decide +kernel
theorem dX5_goBack_16 : decode cX5_goBack 16 = .ok (.dup, 1) := by decide +kernel
theorem dX5_goBack_17 : decode cX5_goBack 17 = .ok (.ldc 193, 2) := by decide +kernel
theorem dX5_goBack_19 : decode cX5_goBack 19 = .ok (.invokespecial 116, 3) := by decide +kernel
theorem dX5_goBack_22 : decode cX5_goBack 22 = .ok (.athrow, 1) := by decide +kernel
theorem dX5_goBack_23 : decode cX5_goBack 23 = .ok (.aload_n 0, 1) := by decide +kernel
theorem dX5_goBack_24 : decode cX5_goBack 24 = .ok (.invokevirtual 72, 3) := by decide +kernel
theorem dX5_goBack_27 : decode cX5_goBack 27 = .ok (.aload_n 0, 1) := by decide +kernel
theorem dX5_goBack_28 : decode cX5_goBack 28 = .ok (.getfield 20, 3) := by decide +kernel
theorem dX5_goBack_31 : decode cX5_goBack 31 = .ok (.aload_n 0, 1) := by decide +kernel
theorem dX5_goBack_32 : decode cX5_goBack 32 = .ok (.getfield 49, 3) := by decide +kernel
theorem dX5_goBack_35 : decode cX5_goBack 35 = .ok (.iload_n 1, 1) := by decide +kernel
theorem dX5_goBack_36 : decode cX5_goBack 36 = .ok (.aaload, 1) := by decide +kernel
theorem dX5_goBack_37 : decode cX5_goBack 37 = .ok (.invokevirtual 189, 3) := by decide +kernel
theorem dX5_goBack_40 : decode cX5_goBack 40 = .ok (.aload_n 0, 1) := by decide +kernel
theorem dX5_goBack_41 : decode cX5_goBack 41 = .ok (.getfield 20, 3) := by decide +kernel
theorem dX5_goBack_44 : decode cX5_goBack 44 = .ok (.getfield 140, 3) := by decide +kernel
theorem dX5_goBack_47 : decode cX5_goBack 47 = .ok (.ireturn, 1) := by decide +kernel
theorem dX5_undo_0 : decode cX5_undo 0 = .ok (.aload_n 0, 1) := by decide +kernel
theorem dX5_undo_1 : decode cX5_undo 1 = .ok (.getfield 195, 3) := by decide +kernel
theorem dX5_undo_4 : decode cX5_undo 4 = .ok (.iconst 1, 1) := by decide +kernel
theorem dX5_undo_5 : decode cX5_undo 5 = .ok (.if_icmp .ge 13, 3) := by decide +kernel
theorem dX5_undo_8 : decode cX5_undo 8 = .ok (.new 112, 3) := by decide +kernel
theorem dX5_undo_11 : decode cX5_undo 11 = .ok (.dup, 1) := by decide +kernel
theorem dX5_undo_12 : decode cX5_undo 12 = .ok (.ldc 198, 2) := by decide +kernel
theorem dX5_undo_14 : decode cX5_undo 14 = .ok (.invokespecial 116, 3) := by decide +kernel
theorem dX5_undo_17 : decode cX5_undo 17 = .ok (.athrow, 1) := by decide +kernel
theorem dX5_undo_18 : decode cX5_undo 18 = .ok (.aload_n 0, 1) := by decide +kernel
theorem dX5_undo_19 : decode cX5_undo 19 = .ok (.aload_n 0, 1) := by decide +kernel
theorem dX5_undo_20 : decode cX5_undo 20 = .ok (.getfield 200, 3) := by decide +kernel
theorem dX5_undo_23 : decode cX5_undo 23 = .ok (.ifCond .le 12, 3) := by decide +kernel
theorem dX5_undo_26 : decode cX5_undo 26 = .ok (.aload_n 0, 1) := by decide +kernel
theorem dX5_undo_27 : decode cX5_undo 27 = .ok (.getfield 200, 3) := by decide +kernel
theorem dX5_undo_30 : decode cX5_undo 30 = .ok (.iconst 1, 1) := by decide +kernel
theorem dX5_undo_31 : decode cX5_undo 31 = .ok (.isub, 1) := by decide +kernel
theorem dX5_undo_32 : decode cX5_undo 32 = .ok (.goto 4, 3) := by decide +kernel
theorem dX5_undo_35 : decode cX5_undo 35 = .ok (.iconst 5, 1) := by decide +kernel
theorem dX5_undo_36 : decode cX5_undo 36 = .ok (.putfield 200, 3) := by decide +kernel
theorem dX5_undo_39 : decode cX5_undo 39 = .ok (.aload_n 0, 1) := by decide +kernel
theorem dX5_undo_40 : decode cX5_undo 40 = .ok (.dup, 1) := by decide +kernel
theorem dX5_undo_41 : decode cX5_undo 41 = .ok (.getfield 195, 3) := by decide +kernel
theorem dX5_undo_44 : decode cX5_undo 44 = .ok (.iconst 1, 1) := by decide +kernel
theorem dX5_undo_45 : decode cX5_undo 45 = .ok (.isub, 1) := by decide +kernel
theorem dX5_undo_46 : decode cX5_undo 46 = .ok (.putfield 195, 3) := by decide +kernel
theorem dX5_undo_49 : decode cX5_undo 49 = .ok (.aload_n 0, 1) := by decide +kernel
theorem dX5_undo_50 : decode cX5_undo 50 = .ok (.getfield 20, 3) := by decide +kernel
theorem dX5_undo_53 : decode cX5_undo 53 = .ok (.aload_n 0, 1) := by decide +kernel
theorem dX5_undo_54 : decode cX5_undo 54 = .ok (.getfield 58, 3) := by decide +kernel
theorem dX5_undo_57 : decode cX5_undo 57 = .ok (.aload_n 0, 1) := by decide +kernel
theorem dX5_undo_58 : decode cX5_undo 58 = .ok (.getfield 200, 3) := by decide +kernel
theorem dX5_undo_61 : decode cX5_undo 61 = .ok (.aaload, 1) := by decide +kernel
theorem dX5_undo_62 : decode cX5_undo 62 = .ok (.invokevirtual 189, 3) := by decide +kernel
theorem dX5_undo_65 : decode cX5_undo 65 = .ok (.aload_n 0, 1) := by decide +kernel
theorem dX5_undo_66 : decode cX5_undo 66 = .ok (.getfield 10, 3) := by decide +kernel
theorem dX5_undo_69 : decode cX5_undo 69 = .ok (.invokevirtual 203, 3) := by decide +kernel
theorem dX5_undo_72 : decode cX5_undo 72 = .ok (.aload_n 0, 1) := by decide +kernel
theorem dX5_undo_73 : decode cX5_undo 73 = .ok (.getfield 195, 3) := by decide +kernel
theorem dX5_undo_76 : decode cX5_undo 76 = .ok (.ireturn, 1) := by decide +kernel
theorem dX5_slotOf_0 : decode cX5_slotOf 0 = .ok (.iload_n 1, 1) := by decide +kernel
theorem dX5_slotOf_1 : decode cX5_slotOf 1 = .ok (.invokestatic 61, 3) := by decide +kernel
theorem dX5_slotOf_4 : decode cX5_slotOf 4 = .ok (.iload_n 2, 1) := by decide +kernel
theorem dX5_slotOf_5 : decode cX5_slotOf 5 = .ok (.bipush 10, 2) := by decide +kernel
theorem dX5_slotOf_7 : decode cX5_slotOf 7 = .ok (.invokestatic 206, 3) := by decide +kernel
theorem dX5_slotOf_10 : decode cX5_slotOf 10 = .ok (.aload_n 0, 1) := by decide +kernel
theorem dX5_slotOf_11 : decode cX5_slotOf 11 = .ok (.iload_n 1, 1) := by decide +kernel
theorem dX5_slotOf_12 : decode cX5_slotOf 12 = .ok (.iload_n 2, 1) := by decide +kernel
theorem dX5_slotOf_13 : decode cX5_slotOf 13 = .ok (.invokevirtual 210, 3) := by decide +kernel
theorem dX5_slotOf_16 : decode cX5_slotOf 16 = .ok (.ireturn, 1) := by decide +kernel
theorem dX5_segmentOf_0 : decode cX5_segmentOf 0 = .ok (.iload_n 1, 1) := by decide +kernel
theorem dX5_segmentOf_1 : decode cX5_segmentOf 1 = .ok (.invokestatic 61, 3) := by decide +kernel
theorem dX5_segmentOf_4 : decode cX5_segmentOf 4 = .ok (.iload_n 2, 1) := by decide +kernel
theorem dX5_segmentOf_5 : decode cX5_segmentOf 5 = .ok (.invokestatic 87, 3) := by decide +kernel
theorem dX5_segmentOf_8 : decode cX5_segmentOf 8 = .ok (.iload_n 3, 1) := by decide +kernel
theorem dX5_segmentOf_9 : decode cX5_segmentOf 9 = .ok (.iconst 4, 1) := by decide +kernel
theorem dX5_segmentOf_10 : decode cX5_segmentOf 10 = .ok (.invokestatic 206, 3) := by decide +kernel
theorem dX5_segmentOf_13 : decode cX5_segmentOf 13 = .ok (.aload_n 0, 1) := by decide +kernel
theorem dX5_segmentOf_14 : decode cX5_segmentOf 14 = .ok (.iload_n 1, 1) := by decide +kernel
theorem dX5_segmentOf_15 : decode cX5_segmentOf 15 = .ok (.iload_n 2, 1) := by decide +kernel
theorem dX5_segmentOf_16 : decode cX5_segmentOf 16 = .ok (.iload_n 3, 1) := by decide +kernel
theorem dX5_segmentOf_17 : decode cX5_segmentOf 17 = .ok (.invokevirtual 213, 3) := by decide +kernel
theorem dX5_segmentOf_20 : decode cX5_segmentOf 20 = .ok (.ireturn, 1) := by decide +kernel
theorem dX5_count_0 : decode cX5_count 0 = .ok (.iload_n 1, 1) := by decide +kernel
theorem dX5_count_1 : decode cX5_count 1 = .ok (.bipush 13, 2) := by decide +kernel
theorem dX5_count_3 : decode cX5_count 3 = .ok (.invokestatic 206, 3) := by decide +kernel
theorem dX5_count_6 : decode cX5_count 6 = .ok (.aload_n 0, 1) := by decide +kernel
theorem dX5_count_7 : decode cX5_count 7 = .ok (.iload_n 1, 1) := by decide +kernel
theorem dX5_count_8 : decode cX5_count 8 = .ok (.invokevirtual 217, 3) := by decide +kernel
theorem dX5_count_11 : decode cX5_count 11 = .ok (.ireturn, 1) := by decide +kernel
theorem dX5_setting_0 : decode cX5_setting 0 = .ok (.iload_n 1, 1) := by decide +kernel
theorem dX5_setting_1 : decode cX5_setting 1 = .ok (.invokestatic 118, 3) := by decide +kernel
theorem dX5_setting_4 : decode cX5_setting 4 = .ok (.aload_n 0, 1) := by decide +kernel
theorem dX5_setting_5 : decode cX5_setting 5 = .ok (.getfield 20, 3) := by decide +kernel
theorem dX5_setting_8 : decode cX5_setting 8 = .ok (.getfield 129, 3) := by decide +kernel
theorem dX5_setting_11 : decode cX5_setting 11 = .ok (.iload_n 1, 1) := by decide +kernel
theorem dX5_setting_12 : decode cX5_setting 12 = .ok (.iaload, 1) := by decide +kernel
theorem dX5_setting_13 : decode cX5_setting 13 = .ok (.ireturn, 1) := by decide +kernel
theorem dX5_couldBe_0 : decode cX5_couldBe 0 = .ok (.iload_n 1, 1) := by decide +kernel
theorem dX5_couldBe_1 : decode cX5_couldBe 1 = .ok (.invokestatic 61, 3) := by decide +kernel
theorem dX5_couldBe_4 : decode cX5_couldBe 4 = .ok (.iload_n 2, 1) := by decide +kernel
theorem dX5_couldBe_5 : decode cX5_couldBe 5 = .ok (.iconst 2, 1) := by decide +kernel
theorem dX5_couldBe_6 : decode cX5_couldBe 6 = .ok (.invokestatic 206, 3) := by decide +kernel
theorem dX5_couldBe_9 : decode cX5_couldBe 9 = .ok (.iload_n 2, 1) := by decide +kernel
theorem dX5_couldBe_10 : decode cX5_couldBe 10 = .ok (.ifCond .ne 11, 3) := by decide +kernel
theorem dX5_couldBe_13 : decode cX5_couldBe 13 = .ok (.aload_n 0, 1) := by decide +kernel
theorem dX5_couldBe_14 : decode cX5_couldBe 14 = .ok (.iload_n 1, 1) := by decide +kernel
theorem dX5_couldBe_15 : decode cX5_couldBe 15 = .ok (.invokevirtual 220, 3) := by decide +kernel
theorem dX5_couldBe_18 : decode cX5_couldBe 18 = .ok (.goto 8, 3) := by decide +kernel
theorem dX5_couldBe_21 : decode cX5_couldBe 21 = .ok (.aload_n 0, 1) := by decide +kernel
theorem dX5_couldBe_22 : decode cX5_couldBe 22 = .ok (.iload_n 1, 1) := by decide +kernel
theorem dX5_couldBe_23 : decode cX5_couldBe 23 = .ok (.invokevirtual 223, 3) := by decide +kernel
theorem dX5_couldBe_26 : decode cX5_couldBe 26 = .ok (.ireturn, 1) := by decide +kernel
theorem dX5_ifTimed_0 : decode cX5_ifTimed 0 = .ok (.iload_n 1, 1) := by decide +kernel
theorem dX5_ifTimed_1 : decode cX5_ifTimed 1 = .ok (.invokestatic 61, 3) := by decide +kernel
theorem dX5_ifTimed_4 : decode cX5_ifTimed 4 = .ok (.iload_n 2, 1) := by decide +kernel
theorem dX5_ifTimed_5 : decode cX5_ifTimed 5 = .ok (.invokestatic 96, 3) := by decide +kernel
theorem dX5_ifTimed_8 : decode cX5_ifTimed 8 = .ok (.aload_n 0, 1) := by decide +kernel
theorem dX5_ifTimed_9 : decode cX5_ifTimed 9 = .ok (.iload_n 1, 1) := by decide +kernel
theorem dX5_ifTimed_10 : decode cX5_ifTimed 10 = .ok (.iload_n 2, 1) := by decide +kernel
theorem dX5_ifTimed_11 : decode cX5_ifTimed 11 = .ok (.invokevirtual 226, 3) := by decide +kernel
theorem dX5_ifTimed_14 : decode cX5_ifTimed 14 = .ok (.ireturn, 1) := by decide +kernel
theorem dX5_ifBalanced_0 : decode cX5_ifBalanced 0 = .ok (.iload_n 2, 1) := by decide +kernel
theorem dX5_ifBalanced_1 : decode cX5_ifBalanced 1 = .ok (.invokestatic 61, 3) := by decide +kernel
theorem dX5_ifBalanced_4 : decode cX5_ifBalanced 4 = .ok (.iload_n 1, 1) := by decide +kernel
theorem dX5_ifBalanced_5 : decode cX5_ifBalanced 5 = .ok (.invokestatic 105, 3) := by decide +kernel
theorem dX5_ifBalanced_8 : decode cX5_ifBalanced 8 = .ok (.aload_n 0, 1) := by decide +kernel
theorem dX5_ifBalanced_9 : decode cX5_ifBalanced 9 = .ok (.iload_n 1, 1) := by decide +kernel
theorem dX5_ifBalanced_10 : decode cX5_ifBalanced 10 = .ok (.iload_n 2, 1) := by decide +kernel
theorem dX5_ifBalanced_11 : decode cX5_ifBalanced 11 = .ok (.invokevirtual 229, 3) := by decide +kernel
theorem dX5_ifBalanced_14 : decode cX5_ifBalanced 14 = .ok (.ireturn, 1) := by decide +kernel
theorem dX5_safest_0 : decode cX5_safest 0 = .ok (.iload_n 1, 1) := by decide +kernel
theorem dX5_safest_1 : decode cX5_safest 1 = .ok (.invokestatic 61, 3) := by decide +kernel
theorem dX5_safest_4 : decode cX5_safest 4 = .ok (.aload_n 0, 1) := by decide +kernel
theorem dX5_safest_5 : decode cX5_safest 5 = .ok (.iload_n 1, 1) := by decide +kernel
theorem dX5_safest_6 : decode cX5_safest 6 = .ok (.invokevirtual 232, 3) := by decide +kernel
theorem dX5_safest_9 : decode cX5_safest 9 = .ok (.ireturn, 1) := by decide +kernel
theorem dX5_litShare_0 : decode cX5_litShare 0 = .ok (.aload_n 0, 1) := by decide +kernel
theorem dX5_litShare_1 : decode cX5_litShare 1 = .ok (.getfield 20, 3) := by decide +kernel
theorem dX5_litShare_4 : decode cX5_litShare 4 = .ok (.invokevirtual 134, 3) := by decide +kernel
theorem dX5_litShare_7 : decode cX5_litShare 7 = .ok (.istore_n 1, 1) := by decide +kernel
theorem dX5_litShare_8 : decode cX5_litShare 8 = .ok (.iload_n 1, 1) := by decide +kernel
theorem dX5_litShare_9 : decode cX5_litShare 9 = .ok (.ifCond .le 17, 3) := by decide +kernel
theorem dX5_litShare_12 : decode cX5_litShare 12 = .ok (.aload_n 0, 1) := by decide +kernel
theorem dX5_litShare_13 : decode cX5_litShare 13 = .ok (.getfield 20, 3) := by decide +kernel
theorem dX5_litShare_16 : decode cX5_litShare 16 = .ok (.invokevirtual 235, 3) := by decide +kernel
theorem dX5_litShare_19 : decode cX5_litShare 19 = .ok (.i2d, 1) := by decide +kernel
theorem dX5_litShare_20 : decode cX5_litShare 20 = .ok (.iload_n 1, 1) := by decide +kernel
theorem dX5_litShare_21 : decode cX5_litShare 21 = .ok (.i2d, 1) := by decide +kernel
theorem dX5_litShare_22 : decode cX5_litShare 22 = .ok (.ddiv, 1) := by decide +kernel
theorem dX5_litShare_23 : decode cX5_litShare 23 = .ok (.goto 4, 3) := by decide +kernel
theorem dX5_litShare_26 : decode cX5_litShare 26 = .ok (.dconst 0, 1) := by decide +kernel
theorem dX5_litShare_27 : decode cX5_litShare 27 = .ok (.dreturn, 1) := by decide +kernel
theorem dX5_meanBrightness_0 : decode cX5_meanBrightness 0 = .ok (.iconst 0, 1) := by decide +kernel
theorem dX5_meanBrightness_1 : decode cX5_meanBrightness 1 = .ok (.istore_n 1, 1) := by decide +kernel
theorem dX5_meanBrightness_2 : decode cX5_meanBrightness 2 = .ok (.iconst 0, 1) := by decide +kernel
theorem dX5_meanBrightness_3 : decode cX5_meanBrightness 3 = .ok (.istore_n 2, 1) := by decide +kernel
theorem dX5_meanBrightness_4 : decode cX5_meanBrightness 4 = .ok (.iconst 0, 1) := by decide +kernel
theorem dX5_meanBrightness_5 : decode cX5_meanBrightness 5 = .ok (.istore_n 3, 1) := by decide +kernel
theorem dX5_meanBrightness_6 : decode cX5_meanBrightness 6 = .ok (.iload_n 3, 1) := by decide +kernel
theorem dX5_meanBrightness_7 : decode cX5_meanBrightness 7 = .ok (.bipush 6, 2) := by decide +kernel
theorem dX5_meanBrightness_9 : decode cX5_meanBrightness 9 = .ok (.if_icmp .ge 42, 3) := by decide +kernel
theorem dX5_meanBrightness_12 : decode cX5_meanBrightness 12 = .ok (.aload_n 0, 1) := by decide +kernel
theorem dX5_meanBrightness_13 : decode cX5_meanBrightness 13 = .ok (.getfield 20, 3) := by decide +kernel
theorem dX5_meanBrightness_16 : decode cX5_meanBrightness 16 = .ok (.iload_n 3, 1) := by decide +kernel
theorem dX5_meanBrightness_17 : decode cX5_meanBrightness 17 = .ok (.invokevirtual 238, 3) := by decide +kernel
theorem dX5_meanBrightness_20 : decode cX5_meanBrightness 20 = .ok (.ifCond .eq 25, 3) := by decide +kernel
theorem dX5_meanBrightness_23 : decode cX5_meanBrightness 23 = .ok (.aload_n 0, 1) := by decide +kernel
theorem dX5_meanBrightness_24 : decode cX5_meanBrightness 24 = .ok (.getfield 10, 3) := by decide +kernel
theorem dX5_meanBrightness_27 : decode cX5_meanBrightness 27 = .ok (.iload_n 3, 1) := by decide +kernel
theorem dX5_meanBrightness_28 : decode cX5_meanBrightness 28 = .ok (.invokevirtual 172, 3) := by decide +kernel
theorem dX5_meanBrightness_31 : decode cX5_meanBrightness 31 = .ok (.iload_n 1, 1) := by decide +kernel
theorem dX5_meanBrightness_32 : decode cX5_meanBrightness 32 = .ok (.aload_n 0, 1) := by decide +kernel
theorem dX5_meanBrightness_33 : decode cX5_meanBrightness 33 = .ok (.getfield 10, 3) := by decide +kernel
theorem dX5_meanBrightness_36 : decode cX5_meanBrightness 36 = .ok (.iload_n 3, 1) := by decide +kernel
theorem dX5_meanBrightness_37 : decode cX5_meanBrightness 37 = .ok (.invokevirtual 241, 3) := by decide +kernel
theorem dX5_meanBrightness_40 : decode cX5_meanBrightness 40 = .ok (.iadd, 1) := by decide +kernel
theorem dX5_meanBrightness_41 : decode cX5_meanBrightness 41 = .ok (.istore_n 1, 1) := by decide +kernel
theorem dX5_meanBrightness_42 : decode cX5_meanBrightness 42 = .ok (.iinc 2 1, 3) := by decide +kernel
theorem dX5_meanBrightness_45 : decode cX5_meanBrightness 45 = .ok (.iinc 3 1, 3) := by decide +kernel
theorem dX5_meanBrightness_48 : decode cX5_meanBrightness 48 = .ok (.goto (-42), 3) := by decide +kernel
theorem dX5_meanBrightness_51 : decode cX5_meanBrightness 51 = .ok (.iload_n 2, 1) := by decide +kernel
theorem dX5_meanBrightness_52 : decode cX5_meanBrightness 52 = .ok (.ifCond .le 11, 3) := by decide +kernel
theorem dX5_meanBrightness_55 : decode cX5_meanBrightness 55 = .ok (.iload_n 1, 1) := by decide +kernel
theorem dX5_meanBrightness_56 : decode cX5_meanBrightness 56 = .ok (.i2f, 1) := by decide +kernel
theorem dX5_meanBrightness_57 : decode cX5_meanBrightness 57 = .ok (.iload_n 2, 1) := by decide +kernel
theorem dX5_meanBrightness_58 : decode cX5_meanBrightness 58 = .ok (.i2f, 1) := by decide +kernel
theorem dX5_meanBrightness_59 : decode cX5_meanBrightness 59 = .ok (.fdiv, 1) := by decide +kernel
theorem dX5_meanBrightness_60 : decode cX5_meanBrightness 60 = .ok (.goto 4, 3) := by decide +kernel
theorem dX5_meanBrightness_63 : decode cX5_meanBrightness 63 = .ok (.fconst 0, 1) := by decide +kernel
theorem dX5_meanBrightness_64 : decode cX5_meanBrightness 64 = .ok (.freturn, 1) := by decide +kernel
theorem dX5_digest_0 : decode cX5_digest 0 = .ok (.ldc2_w 244, 3) := by decide +kernel
theorem dX5_digest_3 : decode cX5_digest 3 = .ok (.lstore_n 1, 1) := by decide +kernel
theorem dX5_digest_4 : decode cX5_digest 4 = .ok (.iconst 0, 1) := by decide +kernel
theorem dX5_digest_5 : decode cX5_digest 5 = .ok (.istore_n 3, 1) := by decide +kernel
theorem dX5_digest_6 : decode cX5_digest 6 = .ok (.iload_n 3, 1) := by decide +kernel
theorem dX5_digest_7 : decode cX5_digest 7 = .ok (.bipush 13, 2) := by decide +kernel
theorem dX5_digest_9 : decode cX5_digest 9 = .ok (.if_icmp .ge 22, 3) := by decide +kernel
theorem dX5_digest_12 : decode cX5_digest 12 = .ok (.ldc2_w 246, 3) := by decide +kernel
theorem dX5_digest_15 : decode cX5_digest 15 = .ok (.lload_n 1, 1) := by decide +kernel
theorem dX5_digest_16 : decode cX5_digest 16 = .ok (.lmul, 1) := by decide +kernel
theorem dX5_digest_17 : decode cX5_digest 17 = .ok (.aload_n 0, 1) := by decide +kernel
theorem dX5_digest_18 : decode cX5_digest 18 = .ok (.iload_n 3, 1) := by decide +kernel
theorem dX5_digest_19 : decode cX5_digest 19 = .ok (.invokevirtual 217, 3) := by decide +kernel
theorem dX5_digest_22 : decode cX5_digest 22 = .ok (.i2l, 1) := by decide +kernel
theorem dX5_digest_23 : decode cX5_digest 23 = .ok (.ladd, 1) := by decide +kernel
theorem dX5_digest_24 : decode cX5_digest 24 = .ok (.lstore_n 1, 1) := by decide +kernel
theorem dX5_digest_25 : decode cX5_digest 25 = .ok (.iinc 3 1, 3) := by decide +kernel
theorem dX5_digest_28 : decode cX5_digest 28 = .ok (.goto (-22), 3) := by decide +kernel
theorem dX5_digest_31 : decode cX5_digest 31 = .ok (.iconst 0, 1) := by decide +kernel
theorem dX5_digest_32 : decode cX5_digest 32 = .ok (.istore_n 3, 1) := by decide +kernel
theorem dX5_digest_33 : decode cX5_digest 33 = .ok (.iload_n 3, 1) := by decide +kernel
theorem dX5_digest_34 : decode cX5_digest 34 = .ok (.iconst 4, 1) := by decide +kernel
theorem dX5_digest_35 : decode cX5_digest 35 = .ok (.if_icmp .ge 26, 3) := by decide +kernel
theorem dX5_digest_38 : decode cX5_digest 38 = .ok (.ldc2_w 246, 3) := by decide +kernel
theorem dX5_digest_41 : decode cX5_digest 41 = .ok (.lload_n 1, 1) := by decide +kernel
theorem dX5_digest_42 : decode cX5_digest 42 = .ok (.lmul, 1) := by decide +kernel
theorem dX5_digest_43 : decode cX5_digest 43 = .ok (.aload_n 0, 1) := by decide +kernel
theorem dX5_digest_44 : decode cX5_digest 44 = .ok (.getfield 20, 3) := by decide +kernel
theorem dX5_digest_47 : decode cX5_digest 47 = .ok (.getfield 129, 3) := by decide +kernel
theorem dX5_digest_50 : decode cX5_digest 50 = .ok (.iload_n 3, 1) := by decide +kernel
theorem dX5_digest_51 : decode cX5_digest 51 = .ok (.iaload, 1) := by decide +kernel
theorem dX5_digest_52 : decode cX5_digest 52 = .ok (.i2l, 1) := by decide +kernel
theorem dX5_digest_53 : decode cX5_digest 53 = .ok (.ladd, 1) := by decide +kernel
theorem dX5_digest_54 : decode cX5_digest 54 = .ok (.lstore_n 1, 1) := by decide +kernel
theorem dX5_digest_55 : decode cX5_digest 55 = .ok (.iinc 3 1, 3) := by decide +kernel
theorem dX5_digest_58 : decode cX5_digest 58 = .ok (.goto (-25), 3) := by decide +kernel
theorem dX5_digest_61 : decode cX5_digest 61 = .ok (.iconst 0, 1) := by decide +kernel
theorem dX5_digest_62 : decode cX5_digest 62 = .ok (.istore_n 3, 1) := by decide +kernel
theorem dX5_digest_63 : decode cX5_digest 63 = .ok (.iload_n 3, 1) := by decide +kernel
theorem dX5_digest_64 : decode cX5_digest 64 = .ok (.bipush 6, 2) := by decide +kernel
theorem dX5_digest_66 : decode cX5_digest 66 = .ok (.if_icmp .ge 16, 3) := by decide +kernel
theorem dX5_digest_69 : decode cX5_digest 69 = .ok (.aload_n 0, 1) := by decide +kernel
theorem dX5_digest_70 : decode cX5_digest 70 = .ok (.lload_n 1, 1) := by decide +kernel
theorem dX5_digest_71 : decode cX5_digest 71 = .ok (.iload_n 3, 1) := by decide +kernel
theorem dX5_digest_72 : decode cX5_digest 72 = .ok (.invokevirtual 248, 3) := by decide +kernel
theorem dX5_digest_75 : decode cX5_digest 75 = .ok (.lstore_n 1, 1) := by decide +kernel
theorem dX5_digest_76 : decode cX5_digest 76 = .ok (.iinc 3 1, 3) := by decide +kernel
theorem dX5_digest_79 : decode cX5_digest 79 = .ok (.goto (-16), 3) := by decide +kernel
theorem dX5_digest_82 : decode cX5_digest 82 = .ok (.ldc2_w 246, 3) := by decide +kernel
theorem dX5_digest_85 : decode cX5_digest 85 = .ok (.lload_n 1, 1) := by decide +kernel
theorem dX5_digest_86 : decode cX5_digest 86 = .ok (.lmul, 1) := by decide +kernel
theorem dX5_digest_87 : decode cX5_digest 87 = .ok (.aload_n 0, 1) := by decide +kernel
theorem dX5_digest_88 : decode cX5_digest 88 = .ok (.iconst 0, 1) := by decide +kernel
theorem dX5_digest_89 : decode cX5_digest 89 = .ok (.iconst 5, 1) := by decide +kernel
theorem dX5_digest_90 : decode cX5_digest 90 = .ok (.invokevirtual 226, 3) := by decide +kernel
theorem dX5_digest_93 : decode cX5_digest 93 = .ok (.i2l, 1) := by decide +kernel
theorem dX5_digest_94 : decode cX5_digest 94 = .ok (.ladd, 1) := by decide +kernel
theorem dX5_digest_95 : decode cX5_digest 95 = .ok (.lstore_n 1, 1) := by decide +kernel
theorem dX5_digest_96 : decode cX5_digest 96 = .ok (.ldc2_w 246, 3) := by decide +kernel
theorem dX5_digest_99 : decode cX5_digest 99 = .ok (.lload_n 1, 1) := by decide +kernel
theorem dX5_digest_100 : decode cX5_digest 100 = .ok (.lmul, 1) := by decide +kernel
theorem dX5_digest_101 : decode cX5_digest 101 = .ok (.aload_n 0, 1) := by decide +kernel
theorem dX5_digest_102 : decode cX5_digest 102 = .ok (.invokevirtual 252, 3) := by decide +kernel
theorem dX5_digest_105 : decode cX5_digest 105 = .ok (.sipush 1023, 3) := by decide +kernel
theorem dX5_digest_108 : decode cX5_digest 108 = .ok (.bipush 52, 2) := by decide +kernel
theorem dX5_digest_110 : decode cX5_digest 110 = .ok (.invokestatic 256, 3) := by decide +kernel
theorem dX5_digest_113 : decode cX5_digest 113 = .ok (.ladd, 1) := by decide +kernel
theorem dX5_digest_114 : decode cX5_digest 114 = .ok (.lstore_n 1, 1) := by decide +kernel
theorem dX5_digest_115 : decode cX5_digest 115 = .ok (.ldc2_w 246, 3) := by decide +kernel
theorem dX5_digest_118 : decode cX5_digest 118 = .ok (.lload_n 1, 1) := by decide +kernel
theorem dX5_digest_119 : decode cX5_digest 119 = .ok (.lmul, 1) := by decide +kernel
theorem dX5_digest_120 : decode cX5_digest 120 = .ok (.aload_n 0, 1) := by decide +kernel
theorem dX5_digest_121 : decode cX5_digest 121 = .ok (.invokevirtual 260, 3) := by decide +kernel
theorem dX5_digest_124 : decode cX5_digest 124 = .ok (.f2d, 1) := by decide +kernel
theorem dX5_digest_125 : decode cX5_digest 125 = .ok (.bipush 127, 2) := by decide +kernel
theorem dX5_digest_127 : decode cX5_digest 127 = .ok (.bipush 23, 2) := by decide +kernel
theorem dX5_digest_129 : decode cX5_digest 129 = .ok (.invokestatic 256, 3) := by decide +kernel
theorem dX5_digest_132 : decode cX5_digest 132 = .ok (.ladd, 1) := by decide +kernel
theorem dX5_digest_133 : decode cX5_digest 133 = .ok (.lstore_n 1, 1) := by decide +kernel
theorem dX5_digest_134 : decode cX5_digest 134 = .ok (.iconst 0, 1) := by decide +kernel
theorem dX5_digest_135 : decode cX5_digest 135 = .ok (.istore_n 3, 1) := by decide +kernel
theorem dX5_digest_136 : decode cX5_digest 136 = .ok (.iload_n 3, 1) := by decide +kernel
theorem dX5_digest_137 : decode cX5_digest 137 = .ok (.iconst 2, 1) := by decide +kernel
theorem dX5_digest_138 : decode cX5_digest 138 = .ok (.if_icmp .ge 31, 3) := by decide +kernel
theorem dX5_digest_141 : decode cX5_digest 141 = .ok (.ldc2_w 246, 3) := by decide +kernel
theorem dX5_digest_144 : decode cX5_digest 144 = .ok (.lload_n 1, 1) := by decide +kernel
theorem dX5_digest_145 : decode cX5_digest 145 = .ok (.lmul, 1) := by decide +kernel
theorem dX5_digest_146 : decode cX5_digest 146 = .ok (.aload_n 0, 1) := by decide +kernel
theorem dX5_digest_147 : decode cX5_digest 147 = .ok (.getfield 54, 3) := by decide +kernel
theorem dX5_digest_150 : decode cX5_digest 150 = .ok (.iload_n 3, 1) := by decide +kernel
theorem dX5_digest_151 : decode cX5_digest 151 = .ok (.baload, 1) := by decide +kernel
theorem dX5_digest_152 : decode cX5_digest 152 = .ok (.ifCond .eq 7, 3) := by decide +kernel
theorem dX5_digest_155 : decode cX5_digest 155 = .ok (.iconst 1, 1) := by decide +kernel
theorem dX5_digest_156 : decode cX5_digest 156 = .ok (.goto 4, 3) := by decide +kernel
theorem dX5_digest_159 : decode cX5_digest 159 = .ok (.iconst 0, 1) := by decide +kernel
theorem dX5_digest_160 : decode cX5_digest 160 = .ok (.i2l, 1) := by decide +kernel
theorem dX5_digest_161 : decode cX5_digest 161 = .ok (.ladd, 1) := by decide +kernel
theorem dX5_digest_162 : decode cX5_digest 162 = .ok (.lstore_n 1, 1) := by decide +kernel
theorem dX5_digest_163 : decode cX5_digest 163 = .ok (.iinc 3 1, 3) := by decide +kernel
theorem dX5_digest_166 : decode cX5_digest 166 = .ok (.goto (-30), 3) := by decide +kernel
theorem dX5_digest_169 : decode cX5_digest 169 = .ok (.ldc2_w 246, 3) := by decide +kernel
theorem dX5_digest_172 : decode cX5_digest 172 = .ok (.lload_n 1, 1) := by decide +kernel
theorem dX5_digest_173 : decode cX5_digest 173 = .ok (.lmul, 1) := by decide +kernel
theorem dX5_digest_174 : decode cX5_digest 174 = .ok (.aload_n 0, 1) := by decide +kernel
theorem dX5_digest_175 : decode cX5_digest 175 = .ok (.getfield 43, 3) := by decide +kernel
theorem dX5_digest_178 : decode cX5_digest 178 = .ok (.getfield 154, 3) := by decide +kernel
theorem dX5_digest_181 : decode cX5_digest 181 = .ok (.i2l, 1) := by decide +kernel
theorem dX5_digest_182 : decode cX5_digest 182 = .ok (.ladd, 1) := by decide +kernel
theorem dX5_digest_183 : decode cX5_digest 183 = .ok (.lstore_n 1, 1) := by decide +kernel
theorem dX5_digest_184 : decode cX5_digest 184 = .ok (.iconst 0, 1) := by decide +kernel
theorem dX5_digest_185 : decode cX5_digest 185 = .ok (.istore_n 3, 1) := by decide +kernel
theorem dX5_digest_186 : decode cX5_digest 186 = .ok (.iload_n 3, 1) := by decide +kernel
theorem dX5_digest_187 : decode cX5_digest 187 = .ok (.bipush 12, 2) := by decide +kernel
theorem dX5_digest_189 : decode cX5_digest 189 = .ok (.if_icmp .ge 37, 3) := by decide +kernel
theorem dX5_digest_192 : decode cX5_digest 192 = .ok (.iload_n 3, 1) := by decide +kernel
theorem dX5_digest_193 : decode cX5_digest 193 = .ok (.aload_n 0, 1) := by decide +kernel
theorem dX5_digest_194 : decode cX5_digest 194 = .ok (.getfield 43, 3) := by decide +kernel
theorem dX5_digest_197 : decode cX5_digest 197 = .ok (.getfield 154, 3) := by decide +kernel
theorem dX5_digest_200 : decode cX5_digest 200 = .ok (.if_icmp .ge 26, 3) := by decide +kernel
theorem dX5_digest_203 : decode cX5_digest 203 = .ok (.ldc2_w 246, 3) := by decide +kernel
theorem dX5_digest_206 : decode cX5_digest 206 = .ok (.lload_n 1, 1) := by decide +kernel
theorem dX5_digest_207 : decode cX5_digest 207 = .ok (.lmul, 1) := by decide +kernel
theorem dX5_digest_208 : decode cX5_digest 208 = .ok (.aload_n 0, 1) := by decide +kernel
theorem dX5_digest_209 : decode cX5_digest 209 = .ok (.getfield 43, 3) := by decide +kernel
theorem dX5_digest_212 : decode cX5_digest 212 = .ok (.getfield 264, 3) := by decide +kernel
theorem dX5_digest_215 : decode cX5_digest 215 = .ok (.iload_n 3, 1) := by decide +kernel
theorem dX5_digest_216 : decode cX5_digest 216 = .ok (.caload, 1) := by decide +kernel
theorem dX5_digest_217 : decode cX5_digest 217 = .ok (.i2l, 1) := by decide +kernel
theorem dX5_digest_218 : decode cX5_digest 218 = .ok (.ladd, 1) := by decide +kernel
theorem dX5_digest_219 : decode cX5_digest 219 = .ok (.lstore_n 1, 1) := by decide +kernel
theorem dX5_digest_220 : decode cX5_digest 220 = .ok (.iinc 3 1, 3) := by decide +kernel
theorem dX5_digest_223 : decode cX5_digest 223 = .ok (.goto (-37), 3) := by decide +kernel
theorem dX5_digest_226 : decode cX5_digest 226 = .ok (.lload_n 1, 1) := by decide +kernel
theorem dX5_digest_227 : decode cX5_digest 227 = .ok (.lreturn, 1) := by decide +kernel
theorem dX5_checkSlot_0 : decode cX5_checkSlot 0 = .ok (.iload_n 0, 1) := by decide +kernel
theorem dX5_checkSlot_1 : decode cX5_checkSlot 1 = .ok (.ifCond .lt 9, 3) := by decide +kernel
theorem dX5_checkSlot_4 : decode cX5_checkSlot 4 = .ok (.iload_n 0, 1) := by decide +kernel
theorem dX5_checkSlot_5 : decode cX5_checkSlot 5 = .ok (.bipush 6, 2) := by decide +kernel
theorem dX5_checkSlot_7 : decode cX5_checkSlot 7 = .ok (.if_icmp .lt 14, 3) := by decide +kernel
theorem dX5_checkSlot_10 : decode cX5_checkSlot 10 = .ok (.new 268, 3) := by decide +kernel
theorem dX5_checkSlot_13 : decode cX5_checkSlot 13 = .ok (.dup, 1) := by decide +kernel
theorem dX5_checkSlot_14 : decode cX5_checkSlot 14 = .ok (.ldc_w 270, 3) := by decide +kernel
theorem dX5_checkSlot_17 : decode cX5_checkSlot 17 = .ok (.invokespecial 272, 3) := by decide +kernel
theorem dX5_checkSlot_20 : decode cX5_checkSlot 20 = .ok (.athrow, 1) := by decide +kernel
theorem dX5_checkSlot_21 : decode cX5_checkSlot 21 = .ok (.return_, 1) := by decide +kernel
theorem dX5_checkSegment_0 : decode cX5_checkSegment 0 = .ok (.iload_n 0, 1) := by decide +kernel
theorem dX5_checkSegment_1 : decode cX5_checkSegment 1 = .ok (.ifCond .lt 9, 3) := by decide +kernel
theorem dX5_checkSegment_4 : decode cX5_checkSegment 4 = .ok (.iload_n 0, 1) := by decide +kernel
theorem dX5_checkSegment_5 : decode cX5_checkSegment 5 = .ok (.bipush 8, 2) := by decide +kernel
theorem dX5_checkSegment_7 : decode cX5_checkSegment 7 = .ok (.if_icmp .lt 14, 3) := by decide +kernel
theorem dX5_checkSegment_10 : decode cX5_checkSegment 10 = .ok (.new 268, 3) := by decide +kernel
theorem dX5_checkSegment_13 : decode cX5_checkSegment 13 = .ok (.dup, 1) := by decide +kernel
theorem dX5_checkSegment_14 : decode cX5_checkSegment 14 = .ok (.ldc_w 273, 3) := by decide +kernel
theorem dX5_checkSegment_17 : decode cX5_checkSegment 17 = .ok (.invokespecial 272, 3) := by decide +kernel
theorem dX5_checkSegment_20 : decode cX5_checkSegment 20 = .ok (.athrow, 1) := by decide +kernel
theorem dX5_checkSegment_21 : decode cX5_checkSegment 21 = .ok (.return_, 1) := by decide +kernel
theorem dX5_checkSetting_0 : decode cX5_checkSetting 0 = .ok (.iload_n 0, 1) := by decide +kernel
theorem dX5_checkSetting_1 : decode cX5_checkSetting 1 = .ok (.ifCond .lt 8, 3) := by decide +kernel
theorem dX5_checkSetting_4 : decode cX5_checkSetting 4 = .ok (.iload_n 0, 1) := by decide +kernel
theorem dX5_checkSetting_5 : decode cX5_checkSetting 5 = .ok (.iconst 4, 1) := by decide +kernel
theorem dX5_checkSetting_6 : decode cX5_checkSetting 6 = .ok (.if_icmp .lt 14, 3) := by decide +kernel
theorem dX5_checkSetting_9 : decode cX5_checkSetting 9 = .ok (.new 268, 3) := by decide +kernel
theorem dX5_checkSetting_12 : decode cX5_checkSetting 12 = .ok (.dup, 1) := by decide +kernel
theorem dX5_checkSetting_13 : decode cX5_checkSetting 13 = .ok (.ldc_w 275, 3) := by decide +kernel
theorem dX5_checkSetting_16 : decode cX5_checkSetting 16 = .ok (.invokespecial 272, 3) := by decide +kernel
theorem dX5_checkSetting_19 : decode cX5_checkSetting 19 = .ok (.athrow, 1) := by decide +kernel
theorem dX5_checkSetting_20 : decode cX5_checkSetting 20 = .ok (.return_, 1) := by decide +kernel
theorem dX5_checkTime_0 : decode cX5_checkTime 0 = .ok (.iload_n 0, 1) := by decide +kernel
theorem dX5_checkTime_1 : decode cX5_checkTime 1 = .ok (.ifCond .lt 9, 3) := by decide +kernel
theorem dX5_checkTime_4 : decode cX5_checkTime 4 = .ok (.iload_n 0, 1) := by decide +kernel
theorem dX5_checkTime_5 : decode cX5_checkTime 5 = .ok (.bipush 20, 2) := by decide +kernel
theorem dX5_checkTime_7 : decode cX5_checkTime 7 = .ok (.if_icmp .le 14, 3) := by decide +kernel
theorem dX5_checkTime_10 : decode cX5_checkTime 10 = .ok (.new 65, 3) := by decide +kernel
theorem dX5_checkTime_13 : decode cX5_checkTime 13 = .ok (.dup, 1) := by decide +kernel
theorem dX5_checkTime_14 : decode cX5_checkTime 14 = .ok (.ldc_w 277, 3) := by decide +kernel
theorem dX5_checkTime_17 : decode cX5_checkTime 17 = .ok (.invokespecial 69, 3) := by decide +kernel
theorem dX5_checkTime_20 : decode cX5_checkTime 20 = .ok (.athrow, 1) := by decide +kernel
theorem dX5_checkTime_21 : decode cX5_checkTime 21 = .ok (.return_, 1) := by decide +kernel
theorem dX5_checkBalanced_0 : decode cX5_checkBalanced 0 = .ok (.iload_n 0, 1) := by decide +kernel
theorem dX5_checkBalanced_1 : decode cX5_checkBalanced 1 = .ok (.bipush 6, 2) := by decide +kernel
theorem dX5_checkBalanced_3 : decode cX5_checkBalanced 3 = .ok (.if_icmp .lt 9, 3) := by decide +kernel
theorem dX5_checkBalanced_6 : decode cX5_checkBalanced 6 = .ok (.iload_n 0, 1) := by decide +kernel
theorem dX5_checkBalanced_7 : decode cX5_checkBalanced 7 = .ok (.bipush 60, 2) := by decide +kernel
theorem dX5_checkBalanced_9 : decode cX5_checkBalanced 9 = .ok (.if_icmp .le 14, 3) := by decide +kernel
theorem dX5_checkBalanced_12 : decode cX5_checkBalanced 12 = .ok (.new 65, 3) := by decide +kernel
theorem dX5_checkBalanced_15 : decode cX5_checkBalanced 15 = .ok (.dup, 1) := by decide +kernel
theorem dX5_checkBalanced_16 : decode cX5_checkBalanced 16 = .ok (.ldc_w 279, 3) := by decide +kernel
theorem dX5_checkBalanced_19 : decode cX5_checkBalanced 19 = .ok (.invokespecial 69, 3) := by decide +kernel
theorem dX5_checkBalanced_22 : decode cX5_checkBalanced 22 = .ok (.athrow, 1) := by decide +kernel
theorem dX5_checkBalanced_23 : decode cX5_checkBalanced 23 = .ok (.return_, 1) := by decide +kernel
theorem dX5_checkSnapshot_0 : decode cX5_checkSnapshot 0 = .ok (.iload_n 0, 1) := by decide +kernel
theorem dX5_checkSnapshot_1 : decode cX5_checkSnapshot 1 = .ok (.ifCond .lt 8, 3) := by decide +kernel
theorem dX5_checkSnapshot_4 : decode cX5_checkSnapshot 4 = .ok (.iload_n 0, 1) := by decide +kernel
theorem dX5_checkSnapshot_5 : decode cX5_checkSnapshot 5 = .ok (.iconst 2, 1) := by decide +kernel
theorem dX5_checkSnapshot_6 : decode cX5_checkSnapshot 6 = .ok (.if_icmp .lt 14, 3) := by decide +kernel
theorem dX5_checkSnapshot_9 : decode cX5_checkSnapshot 9 = .ok (.new 65, 3) := by decide +kernel
theorem dX5_checkSnapshot_12 : decode cX5_checkSnapshot 12 = .ok (.dup, 1) := by decide +kernel
theorem dX5_checkSnapshot_13 : decode cX5_checkSnapshot 13 = .ok (.ldc_w 281, 3) := by decide +kernel
theorem dX5_checkSnapshot_16 : decode cX5_checkSnapshot 16 = .ok (.invokespecial 69, 3) := by decide +kernel
theorem dX5_checkSnapshot_19 : decode cX5_checkSnapshot 19 = .ok (.athrow, 1) := by decide +kernel
theorem dX5_checkSnapshot_20 : decode cX5_checkSnapshot 20 = .ok (.return_, 1) := by decide +kernel
theorem dX5_checkWhat_0 : decode cX5_checkWhat 0 = .ok (.iload_n 0, 1) := by decide +kernel
theorem dX5_checkWhat_1 : decode cX5_checkWhat 1 = .ok (.ifCond .lt 8, 3) := by decide +kernel
theorem dX5_checkWhat_4 : decode cX5_checkWhat 4 = .ok (.iload_n 0, 1) := by decide +kernel
theorem dX5_checkWhat_5 : decode cX5_checkWhat 5 = .ok (.iload_n 1, 1) := by decide +kernel
theorem dX5_checkWhat_6 : decode cX5_checkWhat 6 = .ok (.if_icmp .lt 14, 3) := by decide +kernel
theorem dX5_checkWhat_9 : decode cX5_checkWhat 9 = .ok (.new 65, 3) := by decide +kernel
theorem dX5_checkWhat_12 : decode cX5_checkWhat 12 = .ok (.dup, 1) := by decide +kernel
theorem dX5_checkWhat_13 : decode cX5_checkWhat 13 = .ok (.ldc_w 283, 3) := by decide +kernel
theorem dX5_checkWhat_16 : decode cX5_checkWhat 16 = .ok (.invokespecial 69, 3) := by decide +kernel
theorem dX5_checkWhat_19 : decode cX5_checkWhat 19 = .ok (.athrow, 1) := by decide +kernel
theorem dX5_checkWhat_20 : decode cX5_checkWhat 20 = .ok (.return_, 1) := by decide +kernel
theorem dX5_saveState_0 : decode cX5_saveState 0 = .ok (.aload_n 0, 1) := by decide +kernel
theorem dX5_saveState_1 : decode cX5_saveState 1 = .ok (.getfield 58, 3) := by decide +kernel
theorem dX5_saveState_4 : decode cX5_saveState 4 = .ok (.aload_n 0, 1) := by decide +kernel
theorem dX5_saveState_5 : decode cX5_saveState 5 = .ok (.getfield 200, 3) := by decide +kernel
theorem dX5_saveState_8 : decode cX5_saveState 8 = .ok (.aaload, 1) := by decide +kernel
theorem dX5_saveState_9 : decode cX5_saveState 9 = .ok (.aload_n 0, 1) := by decide +kernel
theorem dX5_saveState_10 : decode cX5_saveState 10 = .ok (.getfield 20, 3) := by decide +kernel
theorem dX5_saveState_13 : decode cX5_saveState 13 = .ok (.invokevirtual 189, 3) := by decide +kernel
theorem dX5_saveState_16 : decode cX5_saveState 16 = .ok (.aload_n 0, 1) := by decide +kernel
theorem dX5_saveState_17 : decode cX5_saveState 17 = .ok (.aload_n 0, 1) := by decide +kernel
theorem dX5_saveState_18 : decode cX5_saveState 18 = .ok (.getfield 200, 3) := by decide +kernel
theorem dX5_saveState_21 : decode cX5_saveState 21 = .ok (.iconst 5, 1) := by decide +kernel
theorem dX5_saveState_22 : decode cX5_saveState 22 = .ok (.if_icmp .ge 12, 3) := by decide +kernel
theorem dX5_saveState_25 : decode cX5_saveState 25 = .ok (.aload_n 0, 1) := by decide +kernel
theorem dX5_saveState_26 : decode cX5_saveState 26 = .ok (.getfield 200, 3) := by decide +kernel
theorem dX5_saveState_29 : decode cX5_saveState 29 = .ok (.iconst 1, 1) := by decide +kernel
theorem dX5_saveState_30 : decode cX5_saveState 30 = .ok (.iadd, 1) := by decide +kernel
theorem dX5_saveState_31 : decode cX5_saveState 31 = .ok (.goto 4, 3) := by decide +kernel
theorem dX5_saveState_34 : decode cX5_saveState 34 = .ok (.iconst 0, 1) := by decide +kernel
theorem dX5_saveState_35 : decode cX5_saveState 35 = .ok (.putfield 200, 3) := by decide +kernel
theorem dX5_saveState_38 : decode cX5_saveState 38 = .ok (.aload_n 0, 1) := by decide +kernel
theorem dX5_saveState_39 : decode cX5_saveState 39 = .ok (.aload_n 0, 1) := by decide +kernel
theorem dX5_saveState_40 : decode cX5_saveState 40 = .ok (.getfield 195, 3) := by decide +kernel
theorem dX5_saveState_43 : decode cX5_saveState 43 = .ok (.iconst 1, 1) := by decide +kernel
theorem dX5_saveState_44 : decode cX5_saveState 44 = .ok (.iadd, 1) := by decide +kernel
theorem dX5_saveState_45 : decode cX5_saveState 45 = .ok (.bipush 6, 2) := by decide +kernel
theorem dX5_saveState_47 : decode cX5_saveState 47 = .ok (.invokestatic 285, 3) := by decide +kernel
theorem dX5_saveState_50 : decode cX5_saveState 50 = .ok (.putfield 195, 3) := by decide +kernel
theorem dX5_saveState_53 : decode cX5_saveState 53 = .ok (.aload_n 0, 1) := by decide +kernel
theorem dX5_saveState_54 : decode cX5_saveState 54 = .ok (.getfield 10, 3) := by decide +kernel
theorem dX5_saveState_57 : decode cX5_saveState 57 = .ok (.invokevirtual 203, 3) := by decide +kernel
theorem dX5_saveState_60 : decode cX5_saveState 60 = .ok (.return_, 1) := by decide +kernel
theorem dX5_fadeAndLight_0 : decode cX5_fadeAndLight 0 = .ok (.iconst 0, 1) := by decide +kernel
theorem dX5_fadeAndLight_1 : decode cX5_fadeAndLight 1 = .ok (.istore_n 2, 1) := by decide +kernel
theorem dX5_fadeAndLight_2 : decode cX5_fadeAndLight 2 = .ok (.iload_n 2, 1) := by decide +kernel
theorem dX5_fadeAndLight_3 : decode cX5_fadeAndLight 3 = .ok (.bipush 6, 2) := by decide +kernel
theorem dX5_fadeAndLight_5 : decode cX5_fadeAndLight 5 = .ok (.if_icmp .ge 83, 3) := by decide +kernel
theorem dX5_fadeAndLight_8 : decode cX5_fadeAndLight 8 = .ok (.aload_n 0, 1) := by decide +kernel
theorem dX5_fadeAndLight_9 : decode cX5_fadeAndLight 9 = .ok (.getfield 36, 3) := by decide +kernel
theorem dX5_fadeAndLight_12 : decode cX5_fadeAndLight 12 = .ok (.aload_n 0, 1) := by decide +kernel
theorem dX5_fadeAndLight_13 : decode cX5_fadeAndLight 13 = .ok (.getfield 20, 3) := by decide +kernel
theorem dX5_fadeAndLight_16 : decode cX5_fadeAndLight 16 = .ok (.iload_n 2, 1) := by decide +kernel
theorem dX5_fadeAndLight_17 : decode cX5_fadeAndLight 17 = .ok (.invokevirtual 290, 3) := by decide +kernel
theorem dX5_fadeAndLight_20 : decode cX5_fadeAndLight 20 = .ok (.iconst 0, 1) := by decide +kernel
theorem dX5_fadeAndLight_21 : decode cX5_fadeAndLight 21 = .ok (.istore_n 3, 1) := by decide +kernel
theorem dX5_fadeAndLight_22 : decode cX5_fadeAndLight 22 = .ok (.iload_n 3, 1) := by decide +kernel
theorem dX5_fadeAndLight_23 : decode cX5_fadeAndLight 23 = .ok (.bipush 8, 2) := by decide +kernel
theorem dX5_fadeAndLight_25 : decode cX5_fadeAndLight 25 = .ok (.if_icmp .ge 57, 3) := by decide +kernel
theorem dX5_fadeAndLight_28 : decode cX5_fadeAndLight 28 = .ok (.aload_n 0, 1) := by decide +kernel
theorem dX5_fadeAndLight_29 : decode cX5_fadeAndLight 29 = .ok (.getfield 20, 3) := by decide +kernel
theorem dX5_fadeAndLight_32 : decode cX5_fadeAndLight 32 = .ok (.getfield 294, 3) := by decide +kernel
theorem dX5_fadeAndLight_35 : decode cX5_fadeAndLight 35 = .ok (.iload_n 2, 1) := by decide +kernel
theorem dX5_fadeAndLight_36 : decode cX5_fadeAndLight 36 = .ok (.bipush 8, 2) := by decide +kernel
theorem dX5_fadeAndLight_38 : decode cX5_fadeAndLight 38 = .ok (.imul, 1) := by decide +kernel
theorem dX5_fadeAndLight_39 : decode cX5_fadeAndLight 39 = .ok (.iload_n 3, 1) := by decide +kernel
theorem dX5_fadeAndLight_40 : decode cX5_fadeAndLight 40 = .ok (.iadd, 1) := by decide +kernel
theorem dX5_fadeAndLight_41 : decode cX5_fadeAndLight 41 = .ok (.iaload, 1) := by decide +kernel
theorem dX5_fadeAndLight_42 : decode cX5_fadeAndLight 42 = .ok (.istore 4, 2) := by decide +kernel
theorem dX5_fadeAndLight_44 : decode cX5_fadeAndLight 44 = .ok (.aload_n 0, 1) := by decide +kernel
theorem dX5_fadeAndLight_45 : decode cX5_fadeAndLight 45 = .ok (.getfield 20, 3) := by decide +kernel
theorem dX5_fadeAndLight_48 : decode cX5_fadeAndLight 48 = .ok (.getfield 294, 3) := by decide +kernel
theorem dX5_fadeAndLight_51 : decode cX5_fadeAndLight 51 = .ok (.iload_n 2, 1) := by decide +kernel
theorem dX5_fadeAndLight_52 : decode cX5_fadeAndLight 52 = .ok (.bipush 8, 2) := by decide +kernel
theorem dX5_fadeAndLight_54 : decode cX5_fadeAndLight 54 = .ok (.imul, 1) := by decide +kernel
theorem dX5_fadeAndLight_55 : decode cX5_fadeAndLight 55 = .ok (.iload_n 3, 1) := by decide +kernel
theorem dX5_fadeAndLight_56 : decode cX5_fadeAndLight 56 = .ok (.iadd, 1) := by decide +kernel
theorem dX5_fadeAndLight_57 : decode cX5_fadeAndLight 57 = .ok (.aload_n 0, 1) := by decide +kernel
theorem dX5_fadeAndLight_58 : decode cX5_fadeAndLight 58 = .ok (.getfield 36, 3) := by decide +kernel
theorem dX5_fadeAndLight_61 : decode cX5_fadeAndLight 61 = .ok (.iload_n 1, 1) := by decide +kernel
theorem dX5_fadeAndLight_62 : decode cX5_fadeAndLight 62 = .ok (.aload_n 0, 1) := by decide +kernel
theorem dX5_fadeAndLight_63 : decode cX5_fadeAndLight 63 = .ok (.getfield 20, 3) := by decide +kernel
theorem dX5_fadeAndLight_66 : decode cX5_fadeAndLight 66 = .ok (.getfield 102, 3) := by decide +kernel
theorem dX5_fadeAndLight_69 : decode cX5_fadeAndLight 69 = .ok (.iload 4, 2) := by decide +kernel
theorem dX5_fadeAndLight_71 : decode cX5_fadeAndLight 71 = .ok (.iload_n 3, 1) := by decide +kernel
theorem dX5_fadeAndLight_72 : decode cX5_fadeAndLight 72 = .ok (.invokevirtual 297, 3) := by decide +kernel
theorem dX5_fadeAndLight_75 : decode cX5_fadeAndLight 75 = .ok (.iastore, 1) := by decide +kernel
theorem dX5_fadeAndLight_76 : decode cX5_fadeAndLight 76 = .ok (.iinc 3 1, 3) := by decide +kernel
theorem dX5_fadeAndLight_79 : decode cX5_fadeAndLight 79 = .ok (.goto (-57), 3) := by decide +kernel
theorem dX5_fadeAndLight_82 : decode cX5_fadeAndLight 82 = .ok (.iinc 2 1, 3) := by decide +kernel
theorem dX5_fadeAndLight_85 : decode cX5_fadeAndLight 85 = .ok (.goto (-83), 3) := by decide +kernel
theorem dX5_fadeAndLight_88 : decode cX5_fadeAndLight 88 = .ok (.return_, 1) := by decide +kernel
theorem dX5_slotProperty_0 : decode cX5_slotProperty 0 = .ok (.iload_n 2, 1) := by decide +kernel
theorem dX5_slotProperty_1 : decode cX5_slotProperty 1 = .ok (.bipush 6, 2) := by decide +kernel
theorem dX5_slotProperty_3 : decode cX5_slotProperty 3 = .ok (.if_icmp .lt 11, 3) := by decide +kernel
theorem dX5_slotProperty_6 : decode cX5_slotProperty 6 = .ok (.aload_n 0, 1) := by decide +kernel
theorem dX5_slotProperty_7 : decode cX5_slotProperty 7 = .ok (.getfield 10, 3) := by decide +kernel
theorem dX5_slotProperty_10 : decode cX5_slotProperty 10 = .ok (.iload_n 1, 1) := by decide +kernel
theorem dX5_slotProperty_11 : decode cX5_slotProperty 11 = .ok (.invokevirtual 172, 3) := by decide +kernel
theorem dX5_slotProperty_14 : decode cX5_slotProperty 14 = .ok (.iload_n 2, 1) := by decide +kernel
theorem dX5_slotProperty_15 : decode cX5_slotProperty 15 = .ok (.tableswitch 148 0 8 #[49, 59, 71, 81, 91, 100, 116, 125, 134], 49) := by decide +kernel
theorem dX5_slotProperty_64 : decode cX5_slotProperty 64 = .ok (.aload_n 0, 1) := by decide +kernel
theorem dX5_slotProperty_65 : decode cX5_slotProperty 65 = .ok (.getfield 20, 3) := by decide +kernel
theorem dX5_slotProperty_68 : decode cX5_slotProperty 68 = .ok (.getfield 75, 3) := by decide +kernel
theorem dX5_slotProperty_71 : decode cX5_slotProperty 71 = .ok (.iload_n 1, 1) := by decide +kernel
theorem dX5_slotProperty_72 : decode cX5_slotProperty 72 = .ok (.iaload, 1) := by decide +kernel
theorem dX5_slotProperty_73 : decode cX5_slotProperty 73 = .ok (.ireturn, 1) := by decide +kernel
theorem dX5_slotProperty_74 : decode cX5_slotProperty 74 = .ok (.aload_n 0, 1) := by decide +kernel
theorem dX5_slotProperty_75 : decode cX5_slotProperty 75 = .ok (.getfield 20, 3) := by decide +kernel
theorem dX5_slotProperty_78 : decode cX5_slotProperty 78 = .ok (.getfield 79, 3) := by decide +kernel
theorem dX5_slotProperty_81 : decode cX5_slotProperty 81 = .ok (.iload_n 1, 1) := by decide +kernel
theorem dX5_slotProperty_82 : decode cX5_slotProperty 82 = .ok (.invokestatic 83, 3) := by decide +kernel
theorem dX5_slotProperty_85 : decode cX5_slotProperty 85 = .ok (.ireturn, 1) := by decide +kernel
theorem dX5_slotProperty_86 : decode cX5_slotProperty 86 = .ok (.aload_n 0, 1) := by decide +kernel
theorem dX5_slotProperty_87 : decode cX5_slotProperty 87 = .ok (.getfield 20, 3) := by decide +kernel
theorem dX5_slotProperty_90 : decode cX5_slotProperty 90 = .ok (.getfield 99, 3) := by decide +kernel
theorem dX5_slotProperty_93 : decode cX5_slotProperty 93 = .ok (.iload_n 1, 1) := by decide +kernel
theorem dX5_slotProperty_94 : decode cX5_slotProperty 94 = .ok (.iaload, 1) := by decide +kernel
theorem dX5_slotProperty_95 : decode cX5_slotProperty 95 = .ok (.ireturn, 1) := by decide +kernel
theorem dX5_slotProperty_96 : decode cX5_slotProperty 96 = .ok (.aload_n 0, 1) := by decide +kernel
theorem dX5_slotProperty_97 : decode cX5_slotProperty 97 = .ok (.getfield 20, 3) := by decide +kernel
theorem dX5_slotProperty_100 : decode cX5_slotProperty 100 = .ok (.getfield 90, 3) := by decide +kernel
theorem dX5_slotProperty_103 : decode cX5_slotProperty 103 = .ok (.iload_n 1, 1) := by decide +kernel
theorem dX5_slotProperty_104 : decode cX5_slotProperty 104 = .ok (.iaload, 1) := by decide +kernel
theorem dX5_slotProperty_105 : decode cX5_slotProperty 105 = .ok (.ireturn, 1) := by decide +kernel
theorem dX5_slotProperty_106 : decode cX5_slotProperty 106 = .ok (.aload_n 0, 1) := by decide +kernel
theorem dX5_slotProperty_107 : decode cX5_slotProperty 107 = .ok (.getfield 20, 3) := by decide +kernel
theorem dX5_slotProperty_110 : decode cX5_slotProperty 110 = .ok (.iload_n 1, 1) := by decide +kernel
theorem dX5_slotProperty_111 : decode cX5_slotProperty 111 = .ok (.invokevirtual 238, 3) := by decide +kernel
theorem dX5_slotProperty_114 : decode cX5_slotProperty 114 = .ok (.ireturn, 1) := by decide +kernel
theorem dX5_slotProperty_115 : decode cX5_slotProperty 115 = .ok (.aload_n 0, 1) := by decide +kernel
theorem dX5_slotProperty_116 : decode cX5_slotProperty 116 = .ok (.getfield 20, 3) := by decide +kernel
theorem dX5_slotProperty_119 : decode cX5_slotProperty 119 = .ok (.aload_n 0, 1) := by decide +kernel
theorem dX5_slotProperty_120 : decode cX5_slotProperty 120 = .ok (.getfield 20, 3) := by decide +kernel
theorem dX5_slotProperty_123 : decode cX5_slotProperty 123 = .ok (.iload_n 1, 1) := by decide +kernel
theorem dX5_slotProperty_124 : decode cX5_slotProperty 124 = .ok (.invokevirtual 238, 3) := by decide +kernel
theorem dX5_slotProperty_127 : decode cX5_slotProperty 127 = .ok (.invokevirtual 301, 3) := by decide +kernel
theorem dX5_slotProperty_130 : decode cX5_slotProperty 130 = .ok (.ireturn, 1) := by decide +kernel
theorem dX5_slotProperty_131 : decode cX5_slotProperty 131 = .ok (.aload_n 0, 1) := by decide +kernel
theorem dX5_slotProperty_132 : decode cX5_slotProperty 132 = .ok (.getfield 10, 3) := by decide +kernel
theorem dX5_slotProperty_135 : decode cX5_slotProperty 135 = .ok (.iload_n 1, 1) := by decide +kernel
theorem dX5_slotProperty_136 : decode cX5_slotProperty 136 = .ok (.invokevirtual 183, 3) := by decide +kernel
theorem dX5_slotProperty_139 : decode cX5_slotProperty 139 = .ok (.ireturn, 1) := by decide +kernel
theorem dX5_slotProperty_140 : decode cX5_slotProperty 140 = .ok (.aload_n 0, 1) := by decide +kernel
theorem dX5_slotProperty_141 : decode cX5_slotProperty 141 = .ok (.getfield 10, 3) := by decide +kernel
theorem dX5_slotProperty_144 : decode cX5_slotProperty 144 = .ok (.iload_n 1, 1) := by decide +kernel
theorem dX5_slotProperty_145 : decode cX5_slotProperty 145 = .ok (.invokevirtual 175, 3) := by decide +kernel
theorem dX5_slotProperty_148 : decode cX5_slotProperty 148 = .ok (.ireturn, 1) := by decide +kernel
theorem dX5_slotProperty_149 : decode cX5_slotProperty 149 = .ok (.aload_n 0, 1) := by decide +kernel
theorem dX5_slotProperty_150 : decode cX5_slotProperty 150 = .ok (.iload_n 1, 1) := by decide +kernel
theorem dX5_slotProperty_151 : decode cX5_slotProperty 151 = .ok (.invokevirtual 304, 3) := by decide +kernel
theorem dX5_slotProperty_154 : decode cX5_slotProperty 154 = .ok (.ifCond .eq 7, 3) := by decide +kernel
theorem dX5_slotProperty_157 : decode cX5_slotProperty 157 = .ok (.iconst 1, 1) := by decide +kernel
theorem dX5_slotProperty_158 : decode cX5_slotProperty 158 = .ok (.goto 4, 3) := by decide +kernel
theorem dX5_slotProperty_161 : decode cX5_slotProperty 161 = .ok (.iconst 0, 1) := by decide +kernel
theorem dX5_slotProperty_162 : decode cX5_slotProperty 162 = .ok (.ireturn, 1) := by decide +kernel
theorem dX5_slotProperty_163 : decode cX5_slotProperty 163 = .ok (.aload_n 0, 1) := by decide +kernel
theorem dX5_slotProperty_164 : decode cX5_slotProperty 164 = .ok (.getfield 10, 3) := by decide +kernel
theorem dX5_slotProperty_167 : decode cX5_slotProperty 167 = .ok (.iload_n 1, 1) := by decide +kernel
theorem dX5_slotProperty_168 : decode cX5_slotProperty 168 = .ok (.invokevirtual 241, 3) := by decide +kernel
theorem dX5_slotProperty_171 : decode cX5_slotProperty 171 = .ok (.ireturn, 1) := by decide +kernel
theorem dX5_readRight_0 : decode cX5_readRight 0 = .ok (.aload_n 0, 1) := by decide +kernel
theorem dX5_readRight_1 : decode cX5_readRight 1 = .ok (.getfield 10, 3) := by decide +kernel
theorem dX5_readRight_4 : decode cX5_readRight 4 = .ok (.iload_n 1, 1) := by decide +kernel
theorem dX5_readRight_5 : decode cX5_readRight 5 = .ok (.invokevirtual 175, 3) := by decide +kernel
theorem dX5_readRight_8 : decode cX5_readRight 8 = .ok (.aload_n 0, 1) := by decide +kernel
theorem dX5_readRight_9 : decode cX5_readRight 9 = .ok (.getfield 20, 3) := by decide +kernel
theorem dX5_readRight_12 : decode cX5_readRight 12 = .ok (.getfield 75, 3) := by decide +kernel
theorem dX5_readRight_15 : decode cX5_readRight 15 = .ok (.iload_n 1, 1) := by decide +kernel
theorem dX5_readRight_16 : decode cX5_readRight 16 = .ok (.iaload, 1) := by decide +kernel
theorem dX5_readRight_17 : decode cX5_readRight 17 = .ok (.if_icmp .ne 34, 3) := by decide +kernel
theorem dX5_readRight_20 : decode cX5_readRight 20 = .ok (.aload_n 0, 1) := by decide +kernel
theorem dX5_readRight_21 : decode cX5_readRight 21 = .ok (.getfield 10, 3) := by decide +kernel
theorem dX5_readRight_24 : decode cX5_readRight 24 = .ok (.iload_n 1, 1) := by decide +kernel
theorem dX5_readRight_25 : decode cX5_readRight 25 = .ok (.invokevirtual 183, 3) := by decide +kernel
theorem dX5_readRight_28 : decode cX5_readRight 28 = .ok (.bipush 7, 2) := by decide +kernel
theorem dX5_readRight_30 : decode cX5_readRight 30 = .ok (.invokestatic 83, 3) := by decide +kernel
theorem dX5_readRight_33 : decode cX5_readRight 33 = .ok (.aload_n 0, 1) := by decide +kernel
theorem dX5_readRight_34 : decode cX5_readRight 34 = .ok (.getfield 20, 3) := by decide +kernel
theorem dX5_readRight_37 : decode cX5_readRight 37 = .ok (.getfield 79, 3) := by decide +kernel
theorem dX5_readRight_40 : decode cX5_readRight 40 = .ok (.iload_n 1, 1) := by decide +kernel
theorem dX5_readRight_41 : decode cX5_readRight 41 = .ok (.invokestatic 83, 3) := by decide +kernel
theorem dX5_readRight_44 : decode cX5_readRight 44 = .ok (.if_icmp .ne 7, 3) := by decide +kernel
theorem dX5_readRight_47 : decode cX5_readRight 47 = .ok (.iconst 1, 1) := by decide +kernel
theorem dX5_readRight_48 : decode cX5_readRight 48 = .ok (.goto 4, 3) := by decide +kernel
theorem dX5_readRight_51 : decode cX5_readRight 51 = .ok (.iconst 0, 1) := by decide +kernel
theorem dX5_readRight_52 : decode cX5_readRight 52 = .ok (.ireturn, 1) := by decide +kernel
theorem dX5_segmentProperty_0 : decode cX5_segmentProperty 0 = .ok (.iload_n 1, 1) := by decide +kernel
theorem dX5_segmentProperty_1 : decode cX5_segmentProperty 1 = .ok (.bipush 8, 2) := by decide +kernel
theorem dX5_segmentProperty_3 : decode cX5_segmentProperty 3 = .ok (.imul, 1) := by decide +kernel
theorem dX5_segmentProperty_4 : decode cX5_segmentProperty 4 = .ok (.iload_n 2, 1) := by decide +kernel
theorem dX5_segmentProperty_5 : decode cX5_segmentProperty 5 = .ok (.iadd, 1) := by decide +kernel
theorem dX5_segmentProperty_6 : decode cX5_segmentProperty 6 = .ok (.istore 4, 2) := by decide +kernel
theorem dX5_segmentProperty_8 : decode cX5_segmentProperty 8 = .ok (.iload_n 3, 1) := by decide +kernel
theorem dX5_segmentProperty_9 : decode cX5_segmentProperty 9 = .ok (.ifCond .ne 14, 3) := by decide +kernel
theorem dX5_segmentProperty_12 : decode cX5_segmentProperty 12 = .ok (.aload_n 0, 1) := by decide +kernel
theorem dX5_segmentProperty_13 : decode cX5_segmentProperty 13 = .ok (.getfield 20, 3) := by decide +kernel
theorem dX5_segmentProperty_16 : decode cX5_segmentProperty 16 = .ok (.getfield 294, 3) := by decide +kernel
theorem dX5_segmentProperty_19 : decode cX5_segmentProperty 19 = .ok (.iload 4, 2) := by decide +kernel
theorem dX5_segmentProperty_21 : decode cX5_segmentProperty 21 = .ok (.iaload, 1) := by decide +kernel
theorem dX5_segmentProperty_22 : decode cX5_segmentProperty 22 = .ok (.ireturn, 1) := by decide +kernel
theorem dX5_segmentProperty_23 : decode cX5_segmentProperty 23 = .ok (.aload_n 0, 1) := by decide +kernel
theorem dX5_segmentProperty_24 : decode cX5_segmentProperty 24 = .ok (.getfield 10, 3) := by decide +kernel
theorem dX5_segmentProperty_27 : decode cX5_segmentProperty 27 = .ok (.iload_n 1, 1) := by decide +kernel
theorem dX5_segmentProperty_28 : decode cX5_segmentProperty 28 = .ok (.invokevirtual 172, 3) := by decide +kernel
theorem dX5_segmentProperty_31 : decode cX5_segmentProperty 31 = .ok (.iload_n 3, 1) := by decide +kernel
theorem dX5_segmentProperty_32 : decode cX5_segmentProperty 32 = .ok (.lookupswitch 50 #[(1, 28), (2, 39)], 28) := by decide +kernel
theorem dX5_segmentProperty_60 : decode cX5_segmentProperty 60 = .ok (.aload_n 0, 1) := by decide +kernel
theorem dX5_segmentProperty_61 : decode cX5_segmentProperty 61 = .ok (.getfield 10, 3) := by decide +kernel
theorem dX5_segmentProperty_64 : decode cX5_segmentProperty 64 = .ok (.getfield 308, 3) := by decide +kernel
theorem dX5_segmentProperty_67 : decode cX5_segmentProperty 67 = .ok (.iload 4, 2) := by decide +kernel
theorem dX5_segmentProperty_69 : decode cX5_segmentProperty 69 = .ok (.iaload, 1) := by decide +kernel
theorem dX5_segmentProperty_70 : decode cX5_segmentProperty 70 = .ok (.ireturn, 1) := by decide +kernel
theorem dX5_segmentProperty_71 : decode cX5_segmentProperty 71 = .ok (.aload_n 0, 1) := by decide +kernel
theorem dX5_segmentProperty_72 : decode cX5_segmentProperty 72 = .ok (.getfield 10, 3) := by decide +kernel
theorem dX5_segmentProperty_75 : decode cX5_segmentProperty 75 = .ok (.getfield 311, 3) := by decide +kernel
theorem dX5_segmentProperty_78 : decode cX5_segmentProperty 78 = .ok (.iload 4, 2) := by decide +kernel
theorem dX5_segmentProperty_80 : decode cX5_segmentProperty 80 = .ok (.iaload, 1) := by decide +kernel
theorem dX5_segmentProperty_81 : decode cX5_segmentProperty 81 = .ok (.ireturn, 1) := by decide +kernel
theorem dX5_segmentProperty_82 : decode cX5_segmentProperty 82 = .ok (.aload_n 0, 1) := by decide +kernel
theorem dX5_segmentProperty_83 : decode cX5_segmentProperty 83 = .ok (.getfield 10, 3) := by decide +kernel
theorem dX5_segmentProperty_86 : decode cX5_segmentProperty 86 = .ok (.getfield 314, 3) := by decide +kernel
theorem dX5_segmentProperty_89 : decode cX5_segmentProperty 89 = .ok (.iload 4, 2) := by decide +kernel
theorem dX5_segmentProperty_91 : decode cX5_segmentProperty 91 = .ok (.iaload, 1) := by decide +kernel
theorem dX5_segmentProperty_92 : decode cX5_segmentProperty 92 = .ok (.ireturn, 1) := by decide +kernel
theorem dX5_number_0 : decode cX5_number 0 = .ok (.iload_n 1, 1) := by decide +kernel
theorem dX5_number_1 : decode cX5_number 1 = .ok (.tableswitch 148 0 11 #[63, 71, 79, 87, 102, 110, 115, 120, 128, 133, 138, 143], 63) := by decide +kernel
theorem dX5_number_64 : decode cX5_number 64 = .ok (.aload_n 0, 1) := by decide +kernel
theorem dX5_number_65 : decode cX5_number 65 = .ok (.getfield 20, 3) := by decide +kernel
theorem dX5_number_68 : decode cX5_number 68 = .ok (.getfield 140, 3) := by decide +kernel
theorem dX5_number_71 : decode cX5_number 71 = .ok (.ireturn, 1) := by decide +kernel
theorem dX5_number_72 : decode cX5_number 72 = .ok (.aload_n 0, 1) := by decide +kernel
theorem dX5_number_73 : decode cX5_number 73 = .ok (.getfield 20, 3) := by decide +kernel
theorem dX5_number_76 : decode cX5_number 76 = .ok (.invokevirtual 134, 3) := by decide +kernel
theorem dX5_number_79 : decode cX5_number 79 = .ok (.ireturn, 1) := by decide +kernel
theorem dX5_number_80 : decode cX5_number 80 = .ok (.aload_n 0, 1) := by decide +kernel
theorem dX5_number_81 : decode cX5_number 81 = .ok (.getfield 20, 3) := by decide +kernel
theorem dX5_number_84 : decode cX5_number 84 = .ok (.getfield 102, 3) := by decide +kernel
theorem dX5_number_87 : decode cX5_number 87 = .ok (.ireturn, 1) := by decide +kernel
theorem dX5_number_88 : decode cX5_number 88 = .ok (.aload_n 0, 1) := by decide +kernel
theorem dX5_number_89 : decode cX5_number 89 = .ok (.getfield 20, 3) := by decide +kernel
theorem dX5_number_92 : decode cX5_number 92 = .ok (.aload_n 0, 1) := by decide +kernel
theorem dX5_number_93 : decode cX5_number 93 = .ok (.getfield 20, 3) := by decide +kernel
theorem dX5_number_96 : decode cX5_number 96 = .ok (.getfield 102, 3) := by decide +kernel
theorem dX5_number_99 : decode cX5_number 99 = .ok (.invokevirtual 317, 3) := by decide +kernel
theorem dX5_number_102 : decode cX5_number 102 = .ok (.ireturn, 1) := by decide +kernel
theorem dX5_number_103 : decode cX5_number 103 = .ok (.aload_n 0, 1) := by decide +kernel
theorem dX5_number_104 : decode cX5_number 104 = .ok (.getfield 20, 3) := by decide +kernel
theorem dX5_number_107 : decode cX5_number 107 = .ok (.getfield 149, 3) := by decide +kernel
theorem dX5_number_110 : decode cX5_number 110 = .ok (.ireturn, 1) := by decide +kernel
theorem dX5_number_111 : decode cX5_number 111 = .ok (.aload_n 0, 1) := by decide +kernel
theorem dX5_number_112 : decode cX5_number 112 = .ok (.invokevirtual 320, 3) := by decide +kernel
theorem dX5_number_115 : decode cX5_number 115 = .ok (.ireturn, 1) := by decide +kernel
theorem dX5_number_116 : decode cX5_number 116 = .ok (.aload_n 0, 1) := by decide +kernel
theorem dX5_number_117 : decode cX5_number 117 = .ok (.invokevirtual 323, 3) := by decide +kernel
theorem dX5_number_120 : decode cX5_number 120 = .ok (.ireturn, 1) := by decide +kernel
theorem dX5_number_121 : decode cX5_number 121 = .ok (.aload_n 0, 1) := by decide +kernel
theorem dX5_number_122 : decode cX5_number 122 = .ok (.getfield 20, 3) := by decide +kernel
theorem dX5_number_125 : decode cX5_number 125 = .ok (.getfield 93, 3) := by decide +kernel
theorem dX5_number_128 : decode cX5_number 128 = .ok (.ireturn, 1) := by decide +kernel
theorem dX5_number_129 : decode cX5_number 129 = .ok (.aload_n 0, 1) := by decide +kernel
theorem dX5_number_130 : decode cX5_number 130 = .ok (.invokevirtual 326, 3) := by decide +kernel
theorem dX5_number_133 : decode cX5_number 133 = .ok (.ireturn, 1) := by decide +kernel
theorem dX5_number_134 : decode cX5_number 134 = .ok (.aload_n 0, 1) := by decide +kernel
theorem dX5_number_135 : decode cX5_number 135 = .ok (.invokevirtual 329, 3) := by decide +kernel
theorem dX5_number_138 : decode cX5_number 138 = .ok (.ireturn, 1) := by decide +kernel
theorem dX5_number_139 : decode cX5_number 139 = .ok (.aload_n 0, 1) := by decide +kernel
theorem dX5_number_140 : decode cX5_number 140 = .ok (.invokevirtual 332, 3) := by decide +kernel
theorem dX5_number_143 : decode cX5_number 143 = .ok (.ireturn, 1) := by decide +kernel
theorem dX5_number_144 : decode cX5_number 144 = .ok (.aload_n 0, 1) := by decide +kernel
theorem dX5_number_145 : decode cX5_number 145 = .ok (.invokevirtual 335, 3) := by decide +kernel
theorem dX5_number_148 : decode cX5_number 148 = .ok (.ireturn, 1) := by decide +kernel
theorem dX5_number_149 : decode cX5_number 149 = .ok (.aload_n 0, 1) := by decide +kernel
theorem dX5_number_150 : decode cX5_number 150 = .ok (.getfield 195, 3) := by decide +kernel
theorem dX5_number_153 : decode cX5_number 153 = .ok (.ireturn, 1) := by decide +kernel
theorem dX5_lightByTicks_0 : decode cX5_lightByTicks 0 = .ok (.iconst 0, 1) := by decide +kernel
theorem dX5_lightByTicks_1 : decode cX5_lightByTicks 1 = .ok (.istore_n 1, 1) := by decide +kernel
theorem dX5_lightByTicks_2 : decode cX5_lightByTicks 2 = .ok (.aload_n 0, 1) := by decide +kernel
theorem dX5_lightByTicks_3 : decode cX5_lightByTicks 3 = .ok (.getfield 20, 3) := by decide +kernel
theorem dX5_lightByTicks_6 : decode cX5_lightByTicks 6 = .ok (.invokevirtual 134, 3) := by decide +kernel
theorem dX5_lightByTicks_9 : decode cX5_lightByTicks 9 = .ok (.istore_n 2, 1) := by decide +kernel
theorem dX5_lightByTicks_10 : decode cX5_lightByTicks 10 = .ok (.iconst 0, 1) := by decide +kernel
theorem dX5_lightByTicks_11 : decode cX5_lightByTicks 11 = .ok (.istore_n 3, 1) := by decide +kernel
theorem dX5_lightByTicks_12 : decode cX5_lightByTicks 12 = .ok (.iload_n 3, 1) := by decide +kernel
theorem dX5_lightByTicks_13 : decode cX5_lightByTicks 13 = .ok (.iload_n 2, 1) := by decide +kernel
theorem dX5_lightByTicks_14 : decode cX5_lightByTicks 14 = .ok (.if_icmp .ge 34, 3) := by decide +kernel
theorem dX5_lightByTicks_17 : decode cX5_lightByTicks 17 = .ok (.aload_n 0, 1) := by decide +kernel
theorem dX5_lightByTicks_18 : decode cX5_lightByTicks 18 = .ok (.getfield 20, 3) := by decide +kernel
theorem dX5_lightByTicks_21 : decode cX5_lightByTicks 21 = .ok (.iload_n 3, 1) := by decide +kernel
theorem dX5_lightByTicks_22 : decode cX5_lightByTicks 22 = .ok (.invokevirtual 317, 3) := by decide +kernel
theorem dX5_lightByTicks_25 : decode cX5_lightByTicks 25 = .ok (.istore 4, 2) := by decide +kernel
theorem dX5_lightByTicks_27 : decode cX5_lightByTicks 27 = .ok (.iload 4, 2) := by decide +kernel
theorem dX5_lightByTicks_29 : decode cX5_lightByTicks 29 = .ok (.iconst (-1), 1) := by decide +kernel
theorem dX5_lightByTicks_30 : decode cX5_lightByTicks 30 = .ok (.if_icmp .eq 12, 3) := by decide +kernel
theorem dX5_lightByTicks_33 : decode cX5_lightByTicks 33 = .ok (.iload_n 1, 1) := by decide +kernel
theorem dX5_lightByTicks_34 : decode cX5_lightByTicks 34 = .ok (.aload_n 0, 1) := by decide +kernel
theorem dX5_lightByTicks_35 : decode cX5_lightByTicks 35 = .ok (.iload 4, 2) := by decide +kernel
theorem dX5_lightByTicks_37 : decode cX5_lightByTicks 37 = .ok (.invokevirtual 338, 3) := by decide +kernel
theorem dX5_lightByTicks_40 : decode cX5_lightByTicks 40 = .ok (.iadd, 1) := by decide +kernel
theorem dX5_lightByTicks_41 : decode cX5_lightByTicks 41 = .ok (.istore_n 1, 1) := by decide +kernel
theorem dX5_lightByTicks_42 : decode cX5_lightByTicks 42 = .ok (.iinc 3 1, 3) := by decide +kernel
theorem dX5_lightByTicks_45 : decode cX5_lightByTicks 45 = .ok (.goto (-33), 3) := by decide +kernel
theorem dX5_lightByTicks_48 : decode cX5_lightByTicks 48 = .ok (.iload_n 1, 1) := by decide +kernel
theorem dX5_lightByTicks_49 : decode cX5_lightByTicks 49 = .ok (.ireturn, 1) := by decide +kernel
theorem dX5_lightBySlots_0 : decode cX5_lightBySlots 0 = .ok (.iconst 0, 1) := by decide +kernel
theorem dX5_lightBySlots_1 : decode cX5_lightBySlots 1 = .ok (.istore_n 1, 1) := by decide +kernel
theorem dX5_lightBySlots_2 : decode cX5_lightBySlots 2 = .ok (.iconst 0, 1) := by decide +kernel
theorem dX5_lightBySlots_3 : decode cX5_lightBySlots 3 = .ok (.istore_n 2, 1) := by decide +kernel
theorem dX5_lightBySlots_4 : decode cX5_lightBySlots 4 = .ok (.iload_n 2, 1) := by decide +kernel
theorem dX5_lightBySlots_5 : decode cX5_lightBySlots 5 = .ok (.bipush 6, 2) := by decide +kernel
theorem dX5_lightBySlots_7 : decode cX5_lightBySlots 7 = .ok (.if_icmp .ge 27, 3) := by decide +kernel
theorem dX5_lightBySlots_10 : decode cX5_lightBySlots 10 = .ok (.iload_n 1, 1) := by decide +kernel
theorem dX5_lightBySlots_11 : decode cX5_lightBySlots 11 = .ok (.aload_n 0, 1) := by decide +kernel
theorem dX5_lightBySlots_12 : decode cX5_lightBySlots 12 = .ok (.getfield 20, 3) := by decide +kernel
theorem dX5_lightBySlots_15 : decode cX5_lightBySlots 15 = .ok (.getfield 99, 3) := by decide +kernel
theorem dX5_lightBySlots_18 : decode cX5_lightBySlots 18 = .ok (.iload_n 2, 1) := by decide +kernel
theorem dX5_lightBySlots_19 : decode cX5_lightBySlots 19 = .ok (.iaload, 1) := by decide +kernel
theorem dX5_lightBySlots_20 : decode cX5_lightBySlots 20 = .ok (.aload_n 0, 1) := by decide +kernel
theorem dX5_lightBySlots_21 : decode cX5_lightBySlots 21 = .ok (.iload_n 2, 1) := by decide +kernel
theorem dX5_lightBySlots_22 : decode cX5_lightBySlots 22 = .ok (.invokevirtual 338, 3) := by decide +kernel
theorem dX5_lightBySlots_25 : decode cX5_lightBySlots 25 = .ok (.imul, 1) := by decide +kernel
theorem dX5_lightBySlots_26 : decode cX5_lightBySlots 26 = .ok (.iadd, 1) := by decide +kernel
theorem dX5_lightBySlots_27 : decode cX5_lightBySlots 27 = .ok (.istore_n 1, 1) := by decide +kernel
theorem dX5_lightBySlots_28 : decode cX5_lightBySlots 28 = .ok (.iinc 2 1, 3) := by decide +kernel
theorem dX5_lightBySlots_31 : decode cX5_lightBySlots 31 = .ok (.goto (-27), 3) := by decide +kernel
theorem dX5_lightBySlots_34 : decode cX5_lightBySlots 34 = .ok (.iload_n 1, 1) := by decide +kernel
theorem dX5_lightBySlots_35 : decode cX5_lightBySlots 35 = .ok (.ireturn, 1) := by decide +kernel
theorem dX5_lightInTick_0 : decode cX5_lightInTick 0 = .ok (.aload_n 0, 1) := by decide +kernel
theorem dX5_lightInTick_1 : decode cX5_lightInTick 1 = .ok (.getfield 20, 3) := by decide +kernel
theorem dX5_lightInTick_4 : decode cX5_lightInTick 4 = .ok (.iload_n 1, 1) := by decide +kernel
theorem dX5_lightInTick_5 : decode cX5_lightInTick 5 = .ok (.invokevirtual 238, 3) := by decide +kernel
theorem dX5_lightInTick_8 : decode cX5_lightInTick 8 = .ok (.istore_n 2, 1) := by decide +kernel
theorem dX5_lightInTick_9 : decode cX5_lightInTick 9 = .ok (.iload_n 2, 1) := by decide +kernel
theorem dX5_lightInTick_10 : decode cX5_lightInTick 10 = .ok (.invokestatic 341, 3) := by decide +kernel
theorem dX5_lightInTick_13 : decode cX5_lightInTick 13 = .ok (.aload_n 0, 1) := by decide +kernel
theorem dX5_lightInTick_14 : decode cX5_lightInTick 14 = .ok (.getfield 20, 3) := by decide +kernel
theorem dX5_lightInTick_17 : decode cX5_lightInTick 17 = .ok (.iload_n 2, 1) := by decide +kernel
theorem dX5_lightInTick_18 : decode cX5_lightInTick 18 = .ok (.invokevirtual 301, 3) := by decide +kernel
theorem dX5_lightInTick_21 : decode cX5_lightInTick 21 = .ok (.imul, 1) := by decide +kernel
theorem dX5_lightInTick_22 : decode cX5_lightInTick 22 = .ok (.ireturn, 1) := by decide +kernel
theorem dX5_workingSlots_0 : decode cX5_workingSlots 0 = .ok (.iconst 0, 1) := by decide +kernel
theorem dX5_workingSlots_1 : decode cX5_workingSlots 1 = .ok (.istore_n 1, 1) := by decide +kernel
theorem dX5_workingSlots_2 : decode cX5_workingSlots 2 = .ok (.iconst 0, 1) := by decide +kernel
theorem dX5_workingSlots_3 : decode cX5_workingSlots 3 = .ok (.istore_n 2, 1) := by decide +kernel
theorem dX5_workingSlots_4 : decode cX5_workingSlots 4 = .ok (.iload_n 2, 1) := by decide +kernel
theorem dX5_workingSlots_5 : decode cX5_workingSlots 5 = .ok (.bipush 6, 2) := by decide +kernel
theorem dX5_workingSlots_7 : decode cX5_workingSlots 7 = .ok (.if_icmp .ge 23, 3) := by decide +kernel
theorem dX5_workingSlots_10 : decode cX5_workingSlots 10 = .ok (.aload_n 0, 1) := by decide +kernel
theorem dX5_workingSlots_11 : decode cX5_workingSlots 11 = .ok (.getfield 20, 3) := by decide +kernel
theorem dX5_workingSlots_14 : decode cX5_workingSlots 14 = .ok (.iload_n 2, 1) := by decide +kernel
theorem dX5_workingSlots_15 : decode cX5_workingSlots 15 = .ok (.invokevirtual 238, 3) := by decide +kernel
theorem dX5_workingSlots_18 : decode cX5_workingSlots 18 = .ok (.ifCond .eq 6, 3) := by decide +kernel
theorem dX5_workingSlots_21 : decode cX5_workingSlots 21 = .ok (.iinc 1 1, 3) := by decide +kernel
theorem dX5_workingSlots_24 : decode cX5_workingSlots 24 = .ok (.iinc 2 1, 3) := by decide +kernel
theorem dX5_workingSlots_27 : decode cX5_workingSlots 27 = .ok (.goto (-23), 3) := by decide +kernel
theorem dX5_workingSlots_30 : decode cX5_workingSlots 30 = .ok (.iload_n 1, 1) := by decide +kernel
theorem dX5_workingSlots_31 : decode cX5_workingSlots 31 = .ok (.ireturn, 1) := by decide +kernel
theorem dX5_slotsReadAsTheirSigns_0 : decode cX5_slotsReadAsTheirSigns 0 = .ok (.iconst 0, 1) := by decide +kernel
theorem dX5_slotsReadAsTheirSigns_1 : decode cX5_slotsReadAsTheirSigns 1 = .ok (.istore_n 1, 1) := by decide +kernel
theorem dX5_slotsReadAsTheirSigns_2 : decode cX5_slotsReadAsTheirSigns 2 = .ok (.iconst 0, 1) := by decide +kernel
theorem dX5_slotsReadAsTheirSigns_3 : decode cX5_slotsReadAsTheirSigns 3 = .ok (.istore_n 2, 1) := by decide +kernel
theorem dX5_slotsReadAsTheirSigns_4 : decode cX5_slotsReadAsTheirSigns 4 = .ok (.iload_n 2, 1) := by decide +kernel
theorem dX5_slotsReadAsTheirSigns_5 : decode cX5_slotsReadAsTheirSigns 5 = .ok (.bipush 6, 2) := by decide +kernel
theorem dX5_slotsReadAsTheirSigns_7 : decode cX5_slotsReadAsTheirSigns 7 = .ok (.if_icmp .ge 40, 3) := by decide +kernel
theorem dX5_slotsReadAsTheirSigns_10 : decode cX5_slotsReadAsTheirSigns 10 = .ok (.aload_n 0, 1) := by decide +kernel
theorem dX5_slotsReadAsTheirSigns_11 : decode cX5_slotsReadAsTheirSigns 11 = .ok (.getfield 10, 3) := by decide +kernel
theorem dX5_slotsReadAsTheirSigns_14 : decode cX5_slotsReadAsTheirSigns 14 = .ok (.iload_n 2, 1) := by decide +kernel
theorem dX5_slotsReadAsTheirSigns_15 : decode cX5_slotsReadAsTheirSigns 15 = .ok (.invokevirtual 172, 3) := by decide +kernel
theorem dX5_slotsReadAsTheirSigns_18 : decode cX5_slotsReadAsTheirSigns 18 = .ok (.aload_n 0, 1) := by decide +kernel
theorem dX5_slotsReadAsTheirSigns_19 : decode cX5_slotsReadAsTheirSigns 19 = .ok (.getfield 10, 3) := by decide +kernel
theorem dX5_slotsReadAsTheirSigns_22 : decode cX5_slotsReadAsTheirSigns 22 = .ok (.iload_n 2, 1) := by decide +kernel
theorem dX5_slotsReadAsTheirSigns_23 : decode cX5_slotsReadAsTheirSigns 23 = .ok (.invokevirtual 175, 3) := by decide +kernel
theorem dX5_slotsReadAsTheirSigns_26 : decode cX5_slotsReadAsTheirSigns 26 = .ok (.aload_n 0, 1) := by decide +kernel
theorem dX5_slotsReadAsTheirSigns_27 : decode cX5_slotsReadAsTheirSigns 27 = .ok (.getfield 20, 3) := by decide +kernel
theorem dX5_slotsReadAsTheirSigns_30 : decode cX5_slotsReadAsTheirSigns 30 = .ok (.getfield 75, 3) := by decide +kernel
theorem dX5_slotsReadAsTheirSigns_33 : decode cX5_slotsReadAsTheirSigns 33 = .ok (.iload_n 2, 1) := by decide +kernel
theorem dX5_slotsReadAsTheirSigns_34 : decode cX5_slotsReadAsTheirSigns 34 = .ok (.iaload, 1) := by decide +kernel
theorem dX5_slotsReadAsTheirSigns_35 : decode cX5_slotsReadAsTheirSigns 35 = .ok (.if_icmp .ne 6, 3) := by decide +kernel
theorem dX5_slotsReadAsTheirSigns_38 : decode cX5_slotsReadAsTheirSigns 38 = .ok (.iinc 1 1, 3) := by decide +kernel
theorem dX5_slotsReadAsTheirSigns_41 : decode cX5_slotsReadAsTheirSigns 41 = .ok (.iinc 2 1, 3) := by decide +kernel
theorem dX5_slotsReadAsTheirSigns_44 : decode cX5_slotsReadAsTheirSigns 44 = .ok (.goto (-40), 3) := by decide +kernel
theorem dX5_slotsReadAsTheirSigns_47 : decode cX5_slotsReadAsTheirSigns 47 = .ok (.iload_n 1, 1) := by decide +kernel
theorem dX5_slotsReadAsTheirSigns_48 : decode cX5_slotsReadAsTheirSigns 48 = .ok (.ireturn, 1) := by decide +kernel
theorem dX5_unevenness_0 : decode cX5_unevenness 0 = .ok (.iconst 0, 1) := by decide +kernel
theorem dX5_unevenness_1 : decode cX5_unevenness 1 = .ok (.istore_n 1, 1) := by decide +kernel
theorem dX5_unevenness_2 : decode cX5_unevenness 2 = .ok (.ldc_w 346, 3) := by decide +kernel
theorem dX5_unevenness_5 : decode cX5_unevenness 5 = .ok (.istore_n 2, 1) := by decide +kernel
theorem dX5_unevenness_6 : decode cX5_unevenness 6 = .ok (.iconst 0, 1) := by decide +kernel
theorem dX5_unevenness_7 : decode cX5_unevenness 7 = .ok (.istore_n 3, 1) := by decide +kernel
theorem dX5_unevenness_8 : decode cX5_unevenness 8 = .ok (.iload_n 3, 1) := by decide +kernel
theorem dX5_unevenness_9 : decode cX5_unevenness 9 = .ok (.bipush 6, 2) := by decide +kernel
theorem dX5_unevenness_11 : decode cX5_unevenness 11 = .ok (.if_icmp .ge 52, 3) := by decide +kernel
theorem dX5_unevenness_14 : decode cX5_unevenness 14 = .ok (.aload_n 0, 1) := by decide +kernel
theorem dX5_unevenness_15 : decode cX5_unevenness 15 = .ok (.getfield 20, 3) := by decide +kernel
theorem dX5_unevenness_18 : decode cX5_unevenness 18 = .ok (.iload_n 3, 1) := by decide +kernel
theorem dX5_unevenness_19 : decode cX5_unevenness 19 = .ok (.invokevirtual 238, 3) := by decide +kernel
theorem dX5_unevenness_22 : decode cX5_unevenness 22 = .ok (.ifCond .eq 35, 3) := by decide +kernel
theorem dX5_unevenness_25 : decode cX5_unevenness 25 = .ok (.aload_n 0, 1) := by decide +kernel
theorem dX5_unevenness_26 : decode cX5_unevenness 26 = .ok (.getfield 10, 3) := by decide +kernel
theorem dX5_unevenness_29 : decode cX5_unevenness 29 = .ok (.iload_n 3, 1) := by decide +kernel
theorem dX5_unevenness_30 : decode cX5_unevenness 30 = .ok (.invokevirtual 172, 3) := by decide +kernel
theorem dX5_unevenness_33 : decode cX5_unevenness 33 = .ok (.aload_n 0, 1) := by decide +kernel
theorem dX5_unevenness_34 : decode cX5_unevenness 34 = .ok (.getfield 10, 3) := by decide +kernel
theorem dX5_unevenness_37 : decode cX5_unevenness 37 = .ok (.iload_n 3, 1) := by decide +kernel
theorem dX5_unevenness_38 : decode cX5_unevenness 38 = .ok (.invokevirtual 241, 3) := by decide +kernel
theorem dX5_unevenness_41 : decode cX5_unevenness 41 = .ok (.istore 4, 2) := by decide +kernel
theorem dX5_unevenness_43 : decode cX5_unevenness 43 = .ok (.iload_n 1, 1) := by decide +kernel
theorem dX5_unevenness_44 : decode cX5_unevenness 44 = .ok (.iload 4, 2) := by decide +kernel
theorem dX5_unevenness_46 : decode cX5_unevenness 46 = .ok (.invokestatic 347, 3) := by decide +kernel
theorem dX5_unevenness_49 : decode cX5_unevenness 49 = .ok (.istore_n 1, 1) := by decide +kernel
theorem dX5_unevenness_50 : decode cX5_unevenness 50 = .ok (.iload_n 2, 1) := by decide +kernel
theorem dX5_unevenness_51 : decode cX5_unevenness 51 = .ok (.iload 4, 2) := by decide +kernel
theorem dX5_unevenness_53 : decode cX5_unevenness 53 = .ok (.invokestatic 285, 3) := by decide +kernel
theorem dX5_unevenness_56 : decode cX5_unevenness 56 = .ok (.istore_n 2, 1) := by decide +kernel
theorem dX5_unevenness_57 : decode cX5_unevenness 57 = .ok (.iinc 3 1, 3) := by decide +kernel
theorem dX5_unevenness_60 : decode cX5_unevenness 60 = .ok (.goto (-52), 3) := by decide +kernel
theorem dX5_unevenness_63 : decode cX5_unevenness 63 = .ok (.iconst 0, 1) := by decide +kernel
theorem dX5_unevenness_64 : decode cX5_unevenness 64 = .ok (.iload_n 1, 1) := by decide +kernel
theorem dX5_unevenness_65 : decode cX5_unevenness 65 = .ok (.iload_n 2, 1) := by decide +kernel
theorem dX5_unevenness_66 : decode cX5_unevenness 66 = .ok (.isub, 1) := by decide +kernel
theorem dX5_unevenness_67 : decode cX5_unevenness 67 = .ok (.invokestatic 347, 3) := by decide +kernel
theorem dX5_unevenness_70 : decode cX5_unevenness 70 = .ok (.ireturn, 1) := by decide +kernel
theorem dX5_flicker_0 : decode cX5_flicker 0 = .ok (.iconst 0, 1) := by decide +kernel
theorem dX5_flicker_1 : decode cX5_flicker 1 = .ok (.istore_n 1, 1) := by decide +kernel
theorem dX5_flicker_2 : decode cX5_flicker 2 = .ok (.iconst 0, 1) := by decide +kernel
theorem dX5_flicker_3 : decode cX5_flicker 3 = .ok (.istore_n 2, 1) := by decide +kernel
theorem dX5_flicker_4 : decode cX5_flicker 4 = .ok (.iload_n 2, 1) := by decide +kernel
theorem dX5_flicker_5 : decode cX5_flicker 5 = .ok (.bipush 6, 2) := by decide +kernel
theorem dX5_flicker_7 : decode cX5_flicker 7 = .ok (.if_icmp .ge 87, 3) := by decide +kernel
theorem dX5_flicker_10 : decode cX5_flicker 10 = .ok (.aload_n 0, 1) := by decide +kernel
theorem dX5_flicker_11 : decode cX5_flicker 11 = .ok (.getfield 20, 3) := by decide +kernel
theorem dX5_flicker_14 : decode cX5_flicker 14 = .ok (.iload_n 2, 1) := by decide +kernel
theorem dX5_flicker_15 : decode cX5_flicker 15 = .ok (.invokevirtual 238, 3) := by decide +kernel
theorem dX5_flicker_18 : decode cX5_flicker 18 = .ok (.istore_n 3, 1) := by decide +kernel
theorem dX5_flicker_19 : decode cX5_flicker 19 = .ok (.aload_n 0, 1) := by decide +kernel
theorem dX5_flicker_20 : decode cX5_flicker 20 = .ok (.getfield 10, 3) := by decide +kernel
theorem dX5_flicker_23 : decode cX5_flicker 23 = .ok (.iload_n 2, 1) := by decide +kernel
theorem dX5_flicker_24 : decode cX5_flicker 24 = .ok (.invokevirtual 172, 3) := by decide +kernel
theorem dX5_flicker_27 : decode cX5_flicker 27 = .ok (.iconst 0, 1) := by decide +kernel
theorem dX5_flicker_28 : decode cX5_flicker 28 = .ok (.istore 4, 2) := by decide +kernel
theorem dX5_flicker_30 : decode cX5_flicker 30 = .ok (.iload 4, 2) := by decide +kernel
theorem dX5_flicker_32 : decode cX5_flicker 32 = .ok (.bipush 8, 2) := by decide +kernel
theorem dX5_flicker_34 : decode cX5_flicker 34 = .ok (.if_icmp .ge 54, 3) := by decide +kernel
theorem dX5_flicker_37 : decode cX5_flicker 37 = .ok (.iload_n 2, 1) := by decide +kernel
theorem dX5_flicker_38 : decode cX5_flicker 38 = .ok (.bipush 8, 2) := by decide +kernel
theorem dX5_flicker_40 : decode cX5_flicker 40 = .ok (.imul, 1) := by decide +kernel
theorem dX5_flicker_41 : decode cX5_flicker 41 = .ok (.iload 4, 2) := by decide +kernel
theorem dX5_flicker_43 : decode cX5_flicker 43 = .ok (.iadd, 1) := by decide +kernel
theorem dX5_flicker_44 : decode cX5_flicker 44 = .ok (.istore 5, 2) := by decide +kernel
theorem dX5_flicker_46 : decode cX5_flicker 46 = .ok (.iload_n 3, 1) := by decide +kernel
theorem dX5_flicker_47 : decode cX5_flicker 47 = .ok (.iload 4, 2) := by decide +kernel
theorem dX5_flicker_49 : decode cX5_flicker 49 = .ok (.invokestatic 83, 3) := by decide +kernel
theorem dX5_flicker_52 : decode cX5_flicker 52 = .ok (.iconst 1, 1) := by decide +kernel
theorem dX5_flicker_53 : decode cX5_flicker 53 = .ok (.if_icmp .ne 29, 3) := by decide +kernel
theorem dX5_flicker_56 : decode cX5_flicker 56 = .ok (.iload_n 1, 1) := by decide +kernel
theorem dX5_flicker_57 : decode cX5_flicker 57 = .ok (.aload_n 0, 1) := by decide +kernel
theorem dX5_flicker_58 : decode cX5_flicker 58 = .ok (.getfield 10, 3) := by decide +kernel
theorem dX5_flicker_61 : decode cX5_flicker 61 = .ok (.getfield 311, 3) := by decide +kernel
theorem dX5_flicker_64 : decode cX5_flicker 64 = .ok (.iload 5, 2) := by decide +kernel
theorem dX5_flicker_66 : decode cX5_flicker 66 = .ok (.iaload, 1) := by decide +kernel
theorem dX5_flicker_67 : decode cX5_flicker 67 = .ok (.aload_n 0, 1) := by decide +kernel
theorem dX5_flicker_68 : decode cX5_flicker 68 = .ok (.getfield 10, 3) := by decide +kernel
theorem dX5_flicker_71 : decode cX5_flicker 71 = .ok (.getfield 314, 3) := by decide +kernel
theorem dX5_flicker_74 : decode cX5_flicker 74 = .ok (.iload 5, 2) := by decide +kernel
theorem dX5_flicker_76 : decode cX5_flicker 76 = .ok (.iaload, 1) := by decide +kernel
theorem dX5_flicker_77 : decode cX5_flicker 77 = .ok (.isub, 1) := by decide +kernel
theorem dX5_flicker_78 : decode cX5_flicker 78 = .ok (.invokestatic 347, 3) := by decide +kernel
theorem dX5_flicker_81 : decode cX5_flicker 81 = .ok (.istore_n 1, 1) := by decide +kernel
theorem dX5_flicker_82 : decode cX5_flicker 82 = .ok (.iinc 4 1, 3) := by decide +kernel
theorem dX5_flicker_85 : decode cX5_flicker 85 = .ok (.goto (-55), 3) := by decide +kernel
theorem dX5_flicker_88 : decode cX5_flicker 88 = .ok (.iinc 2 1, 3) := by decide +kernel
theorem dX5_flicker_91 : decode cX5_flicker 91 = .ok (.goto (-87), 3) := by decide +kernel
theorem dX5_flicker_94 : decode cX5_flicker 94 = .ok (.iload_n 1, 1) := by decide +kernel
theorem dX5_flicker_95 : decode cX5_flicker 95 = .ok (.ireturn, 1) := by decide +kernel
theorem dX5_alikeSigns_0 : decode cX5_alikeSigns 0 = .ok (.aload_n 0, 1) := by decide +kernel
theorem dX5_alikeSigns_1 : decode cX5_alikeSigns 1 = .ok (.getfield 20, 3) := by decide +kernel
theorem dX5_alikeSigns_4 : decode cX5_alikeSigns 4 = .ok (.iload_n 1, 1) := by decide +kernel
theorem dX5_alikeSigns_5 : decode cX5_alikeSigns 5 = .ok (.invokevirtual 350, 3) := by decide +kernel
theorem dX5_alikeSigns_8 : decode cX5_alikeSigns 8 = .ok (.iconst (-1), 1) := by decide +kernel
theorem dX5_alikeSigns_9 : decode cX5_alikeSigns 9 = .ok (.ixor, 1) := by decide +kernel
theorem dX5_alikeSigns_10 : decode cX5_alikeSigns 10 = .ok (.istore_n 2, 1) := by decide +kernel
theorem dX5_alikeSigns_11 : decode cX5_alikeSigns 11 = .ok (.aload_n 0, 1) := by decide +kernel
theorem dX5_alikeSigns_12 : decode cX5_alikeSigns 12 = .ok (.getfield 20, 3) := by decide +kernel
theorem dX5_alikeSigns_15 : decode cX5_alikeSigns 15 = .ok (.getfield 75, 3) := by decide +kernel
theorem dX5_alikeSigns_18 : decode cX5_alikeSigns 18 = .ok (.iload_n 1, 1) := by decide +kernel
theorem dX5_alikeSigns_19 : decode cX5_alikeSigns 19 = .ok (.iaload, 1) := by decide +kernel
theorem dX5_alikeSigns_20 : decode cX5_alikeSigns 20 = .ok (.invokestatic 353, 3) := by decide +kernel
theorem dX5_alikeSigns_23 : decode cX5_alikeSigns 23 = .ok (.iload_n 2, 1) := by decide +kernel
theorem dX5_alikeSigns_24 : decode cX5_alikeSigns 24 = .ok (.iand, 1) := by decide +kernel
theorem dX5_alikeSigns_25 : decode cX5_alikeSigns 25 = .ok (.istore_n 3, 1) := by decide +kernel
theorem dX5_alikeSigns_26 : decode cX5_alikeSigns 26 = .ok (.iconst 0, 1) := by decide +kernel
theorem dX5_alikeSigns_27 : decode cX5_alikeSigns 27 = .ok (.istore 4, 2) := by decide +kernel
theorem dX5_alikeSigns_29 : decode cX5_alikeSigns 29 = .ok (.iconst 0, 1) := by decide +kernel
theorem dX5_alikeSigns_30 : decode cX5_alikeSigns 30 = .ok (.istore 5, 2) := by decide +kernel
theorem dX5_alikeSigns_32 : decode cX5_alikeSigns 32 = .ok (.iload 5, 2) := by decide +kernel
theorem dX5_alikeSigns_34 : decode cX5_alikeSigns 34 = .ok (.bipush 18, 2) := by decide +kernel
theorem dX5_alikeSigns_36 : decode cX5_alikeSigns 36 = .ok (.if_icmp .ge 23, 3) := by decide +kernel
theorem dX5_alikeSigns_39 : decode cX5_alikeSigns 39 = .ok (.iload 5, 2) := by decide +kernel
theorem dX5_alikeSigns_41 : decode cX5_alikeSigns 41 = .ok (.invokestatic 353, 3) := by decide +kernel
theorem dX5_alikeSigns_44 : decode cX5_alikeSigns 44 = .ok (.iload_n 2, 1) := by decide +kernel
theorem dX5_alikeSigns_45 : decode cX5_alikeSigns 45 = .ok (.iand, 1) := by decide +kernel
theorem dX5_alikeSigns_46 : decode cX5_alikeSigns 46 = .ok (.iload_n 3, 1) := by decide +kernel
theorem dX5_alikeSigns_47 : decode cX5_alikeSigns 47 = .ok (.if_icmp .ne 6, 3) := by decide +kernel
theorem dX5_alikeSigns_50 : decode cX5_alikeSigns 50 = .ok (.iinc 4 1, 3) := by decide +kernel
theorem dX5_alikeSigns_53 : decode cX5_alikeSigns 53 = .ok (.iinc 5 1, 3) := by decide +kernel
theorem dX5_alikeSigns_56 : decode cX5_alikeSigns 56 = .ok (.goto (-24), 3) := by decide +kernel
theorem dX5_alikeSigns_59 : decode cX5_alikeSigns 59 = .ok (.iload 4, 2) := by decide +kernel
theorem dX5_alikeSigns_61 : decode cX5_alikeSigns 61 = .ok (.ireturn, 1) := by decide +kernel
theorem dX5_lowestAlike_0 : decode cX5_lowestAlike 0 = .ok (.aload_n 0, 1) := by decide +kernel
theorem dX5_lowestAlike_1 : decode cX5_lowestAlike 1 = .ok (.getfield 20, 3) := by decide +kernel
theorem dX5_lowestAlike_4 : decode cX5_lowestAlike 4 = .ok (.iload_n 1, 1) := by decide +kernel
theorem dX5_lowestAlike_5 : decode cX5_lowestAlike 5 = .ok (.invokevirtual 350, 3) := by decide +kernel
theorem dX5_lowestAlike_8 : decode cX5_lowestAlike 8 = .ok (.iconst (-1), 1) := by decide +kernel
theorem dX5_lowestAlike_9 : decode cX5_lowestAlike 9 = .ok (.ixor, 1) := by decide +kernel
theorem dX5_lowestAlike_10 : decode cX5_lowestAlike 10 = .ok (.istore_n 2, 1) := by decide +kernel
theorem dX5_lowestAlike_11 : decode cX5_lowestAlike 11 = .ok (.aload_n 0, 1) := by decide +kernel
theorem dX5_lowestAlike_12 : decode cX5_lowestAlike 12 = .ok (.getfield 20, 3) := by decide +kernel
theorem dX5_lowestAlike_15 : decode cX5_lowestAlike 15 = .ok (.getfield 75, 3) := by decide +kernel
theorem dX5_lowestAlike_18 : decode cX5_lowestAlike 18 = .ok (.iload_n 1, 1) := by decide +kernel
theorem dX5_lowestAlike_19 : decode cX5_lowestAlike 19 = .ok (.iaload, 1) := by decide +kernel
theorem dX5_lowestAlike_20 : decode cX5_lowestAlike 20 = .ok (.invokestatic 353, 3) := by decide +kernel
theorem dX5_lowestAlike_23 : decode cX5_lowestAlike 23 = .ok (.iload_n 2, 1) := by decide +kernel
theorem dX5_lowestAlike_24 : decode cX5_lowestAlike 24 = .ok (.iand, 1) := by decide +kernel
theorem dX5_lowestAlike_25 : decode cX5_lowestAlike 25 = .ok (.istore_n 3, 1) := by decide +kernel
theorem dX5_lowestAlike_26 : decode cX5_lowestAlike 26 = .ok (.iconst 0, 1) := by decide +kernel
theorem dX5_lowestAlike_27 : decode cX5_lowestAlike 27 = .ok (.istore 4, 2) := by decide +kernel
theorem dX5_lowestAlike_29 : decode cX5_lowestAlike 29 = .ok (.iload 4, 2) := by decide +kernel
theorem dX5_lowestAlike_31 : decode cX5_lowestAlike 31 = .ok (.bipush 18, 2) := by decide +kernel
theorem dX5_lowestAlike_33 : decode cX5_lowestAlike 33 = .ok (.if_icmp .ge 23, 3) := by decide +kernel
theorem dX5_lowestAlike_36 : decode cX5_lowestAlike 36 = .ok (.iload 4, 2) := by decide +kernel
theorem dX5_lowestAlike_38 : decode cX5_lowestAlike 38 = .ok (.invokestatic 353, 3) := by decide +kernel
theorem dX5_lowestAlike_41 : decode cX5_lowestAlike 41 = .ok (.iload_n 2, 1) := by decide +kernel
theorem dX5_lowestAlike_42 : decode cX5_lowestAlike 42 = .ok (.iand, 1) := by decide +kernel
theorem dX5_lowestAlike_43 : decode cX5_lowestAlike 43 = .ok (.iload_n 3, 1) := by decide +kernel
theorem dX5_lowestAlike_44 : decode cX5_lowestAlike 44 = .ok (.if_icmp .ne 6, 3) := by decide +kernel
theorem dX5_lowestAlike_47 : decode cX5_lowestAlike 47 = .ok (.iload 4, 2) := by decide +kernel
theorem dX5_lowestAlike_49 : decode cX5_lowestAlike 49 = .ok (.ireturn, 1) := by decide +kernel
theorem dX5_lowestAlike_50 : decode cX5_lowestAlike 50 = .ok (.iinc 4 1, 3) := by decide +kernel
theorem dX5_lowestAlike_53 : decode cX5_lowestAlike 53 = .ok (.goto (-24), 3) := by decide +kernel
theorem dX5_lowestAlike_56 : decode cX5_lowestAlike 56 = .ok (.aload_n 0, 1) := by decide +kernel
theorem dX5_lowestAlike_57 : decode cX5_lowestAlike 57 = .ok (.getfield 20, 3) := by decide +kernel
theorem dX5_lowestAlike_60 : decode cX5_lowestAlike 60 = .ok (.getfield 75, 3) := by decide +kernel
theorem dX5_lowestAlike_63 : decode cX5_lowestAlike 63 = .ok (.iload_n 1, 1) := by decide +kernel
theorem dX5_lowestAlike_64 : decode cX5_lowestAlike 64 = .ok (.iaload, 1) := by decide +kernel
theorem dX5_lowestAlike_65 : decode cX5_lowestAlike 65 = .ok (.ireturn, 1) := by decide +kernel
theorem dX5_leastHurt_0 : decode cX5_leastHurt 0 = .ok (.aload_n 0, 1) := by decide +kernel
theorem dX5_leastHurt_1 : decode cX5_leastHurt 1 = .ok (.getfield 20, 3) := by decide +kernel
theorem dX5_leastHurt_4 : decode cX5_leastHurt 4 = .ok (.iload_n 1, 1) := by decide +kernel
theorem dX5_leastHurt_5 : decode cX5_leastHurt 5 = .ok (.invokevirtual 350, 3) := by decide +kernel
theorem dX5_leastHurt_8 : decode cX5_leastHurt 8 = .ok (.istore_n 2, 1) := by decide +kernel
theorem dX5_leastHurt_9 : decode cX5_leastHurt 9 = .ok (.bipush 17, 2) := by decide +kernel
theorem dX5_leastHurt_11 : decode cX5_leastHurt 11 = .ok (.istore_n 3, 1) := by decide +kernel
theorem dX5_leastHurt_12 : decode cX5_leastHurt 12 = .ok (.iconst (-1), 1) := by decide +kernel
theorem dX5_leastHurt_13 : decode cX5_leastHurt 13 = .ok (.istore 4, 2) := by decide +kernel
theorem dX5_leastHurt_15 : decode cX5_leastHurt 15 = .ok (.iconst 0, 1) := by decide +kernel
theorem dX5_leastHurt_16 : decode cX5_leastHurt 16 = .ok (.istore 5, 2) := by decide +kernel
theorem dX5_leastHurt_18 : decode cX5_leastHurt 18 = .ok (.iload 5, 2) := by decide +kernel
theorem dX5_leastHurt_20 : decode cX5_leastHurt 20 = .ok (.bipush 18, 2) := by decide +kernel
theorem dX5_leastHurt_22 : decode cX5_leastHurt 22 = .ok (.if_icmp .ge 51, 3) := by decide +kernel
theorem dX5_leastHurt_25 : decode cX5_leastHurt 25 = .ok (.iload 5, 2) := by decide +kernel
theorem dX5_leastHurt_27 : decode cX5_leastHurt 27 = .ok (.invokestatic 353, 3) := by decide +kernel
theorem dX5_leastHurt_30 : decode cX5_leastHurt 30 = .ok (.iload_n 2, 1) := by decide +kernel
theorem dX5_leastHurt_31 : decode cX5_leastHurt 31 = .ok (.iconst (-1), 1) := by decide +kernel
theorem dX5_leastHurt_32 : decode cX5_leastHurt 32 = .ok (.ixor, 1) := by decide +kernel
theorem dX5_leastHurt_33 : decode cX5_leastHurt 33 = .ok (.iand, 1) := by decide +kernel
theorem dX5_leastHurt_34 : decode cX5_leastHurt 34 = .ok (.invokestatic 341, 3) := by decide +kernel
theorem dX5_leastHurt_37 : decode cX5_leastHurt 37 = .ok (.istore 6, 2) := by decide +kernel
theorem dX5_leastHurt_39 : decode cX5_leastHurt 39 = .ok (.iload 5, 2) := by decide +kernel
theorem dX5_leastHurt_41 : decode cX5_leastHurt 41 = .ok (.invokestatic 353, 3) := by decide +kernel
theorem dX5_leastHurt_44 : decode cX5_leastHurt 44 = .ok (.iload_n 2, 1) := by decide +kernel
theorem dX5_leastHurt_45 : decode cX5_leastHurt 45 = .ok (.iand, 1) := by decide +kernel
theorem dX5_leastHurt_46 : decode cX5_leastHurt 46 = .ok (.invokestatic 341, 3) := by decide +kernel
theorem dX5_leastHurt_49 : decode cX5_leastHurt 49 = .ok (.iconst 1, 1) := by decide +kernel
theorem dX5_leastHurt_50 : decode cX5_leastHurt 50 = .ok (.if_icmp .gt 17, 3) := by decide +kernel
theorem dX5_leastHurt_53 : decode cX5_leastHurt 53 = .ok (.iload 6, 2) := by decide +kernel
theorem dX5_leastHurt_55 : decode cX5_leastHurt 55 = .ok (.iload 4, 2) := by decide +kernel
theorem dX5_leastHurt_57 : decode cX5_leastHurt 57 = .ok (.if_icmp .le 10, 3) := by decide +kernel
theorem dX5_leastHurt_60 : decode cX5_leastHurt 60 = .ok (.iload 5, 2) := by decide +kernel
theorem dX5_leastHurt_62 : decode cX5_leastHurt 62 = .ok (.istore_n 3, 1) := by decide +kernel
theorem dX5_leastHurt_63 : decode cX5_leastHurt 63 = .ok (.iload 6, 2) := by decide +kernel
theorem dX5_leastHurt_65 : decode cX5_leastHurt 65 = .ok (.istore 4, 2) := by decide +kernel
theorem dX5_leastHurt_67 : decode cX5_leastHurt 67 = .ok (.iinc 5 1, 3) := by decide +kernel
theorem dX5_leastHurt_70 : decode cX5_leastHurt 70 = .ok (.goto (-52), 3) := by decide +kernel
theorem dX5_leastHurt_73 : decode cX5_leastHurt 73 = .ok (.iload_n 3, 1) := by decide +kernel
theorem dX5_leastHurt_74 : decode cX5_leastHurt 74 = .ok (.ireturn, 1) := by decide +kernel
theorem dX5_meanIfTimed_0 : decode cX5_meanIfTimed 0 = .ok (.aload_n 0, 1) := by decide +kernel
theorem dX5_meanIfTimed_1 : decode cX5_meanIfTimed 1 = .ok (.getfield 23, 3) := by decide +kernel
theorem dX5_meanIfTimed_4 : decode cX5_meanIfTimed 4 = .ok (.getfield 16, 3) := by decide +kernel
theorem dX5_meanIfTimed_7 : decode cX5_meanIfTimed 7 = .ok (.aload_n 0, 1) := by decide +kernel
theorem dX5_meanIfTimed_8 : decode cX5_meanIfTimed 8 = .ok (.getfield 20, 3) := by decide +kernel
theorem dX5_meanIfTimed_11 : decode cX5_meanIfTimed 11 = .ok (.invokevirtual 189, 3) := by decide +kernel
theorem dX5_meanIfTimed_14 : decode cX5_meanIfTimed 14 = .ok (.aload_n 0, 1) := by decide +kernel
theorem dX5_meanIfTimed_15 : decode cX5_meanIfTimed 15 = .ok (.getfield 23, 3) := by decide +kernel
theorem dX5_meanIfTimed_18 : decode cX5_meanIfTimed 18 = .ok (.getfield 16, 3) := by decide +kernel
theorem dX5_meanIfTimed_21 : decode cX5_meanIfTimed 21 = .ok (.getfield 99, 3) := by decide +kernel
theorem dX5_meanIfTimed_24 : decode cX5_meanIfTimed 24 = .ok (.iload_n 1, 1) := by decide +kernel
theorem dX5_meanIfTimed_25 : decode cX5_meanIfTimed 25 = .ok (.iload_n 2, 1) := by decide +kernel
theorem dX5_meanIfTimed_26 : decode cX5_meanIfTimed 26 = .ok (.iastore, 1) := by decide +kernel
theorem dX5_meanIfTimed_27 : decode cX5_meanIfTimed 27 = .ok (.aload_n 0, 1) := by decide +kernel
theorem dX5_meanIfTimed_28 : decode cX5_meanIfTimed 28 = .ok (.getfield 23, 3) := by decide +kernel
theorem dX5_meanIfTimed_31 : decode cX5_meanIfTimed 31 = .ok (.invokevirtual 203, 3) := by decide +kernel
theorem dX5_meanIfTimed_34 : decode cX5_meanIfTimed 34 = .ok (.aload_n 0, 1) := by decide +kernel
theorem dX5_meanIfTimed_35 : decode cX5_meanIfTimed 35 = .ok (.getfield 23, 3) := by decide +kernel
theorem dX5_meanIfTimed_38 : decode cX5_meanIfTimed 38 = .ok (.iload_n 1, 1) := by decide +kernel
theorem dX5_meanIfTimed_39 : decode cX5_meanIfTimed 39 = .ok (.invokevirtual 172, 3) := by decide +kernel
theorem dX5_meanIfTimed_42 : decode cX5_meanIfTimed 42 = .ok (.aload_n 0, 1) := by decide +kernel
theorem dX5_meanIfTimed_43 : decode cX5_meanIfTimed 43 = .ok (.getfield 23, 3) := by decide +kernel
theorem dX5_meanIfTimed_46 : decode cX5_meanIfTimed 46 = .ok (.iload_n 1, 1) := by decide +kernel
theorem dX5_meanIfTimed_47 : decode cX5_meanIfTimed 47 = .ok (.invokevirtual 241, 3) := by decide +kernel
theorem dX5_meanIfTimed_50 : decode cX5_meanIfTimed 50 = .ok (.ireturn, 1) := by decide +kernel
theorem dX5_timeIfBalanced_0 : decode cX5_timeIfBalanced 0 = .ok (.aload_n 0, 1) := by decide +kernel
theorem dX5_timeIfBalanced_1 : decode cX5_timeIfBalanced 1 = .ok (.getfield 29, 3) := by decide +kernel
theorem dX5_timeIfBalanced_4 : decode cX5_timeIfBalanced 4 = .ok (.aload_n 0, 1) := by decide +kernel
theorem dX5_timeIfBalanced_5 : decode cX5_timeIfBalanced 5 = .ok (.getfield 20, 3) := by decide +kernel
theorem dX5_timeIfBalanced_8 : decode cX5_timeIfBalanced 8 = .ok (.iload_n 1, 1) := by decide +kernel
theorem dX5_timeIfBalanced_9 : decode cX5_timeIfBalanced 9 = .ok (.invokevirtual 108, 3) := by decide +kernel
theorem dX5_timeIfBalanced_12 : decode cX5_timeIfBalanced 12 = .ok (.istore_n 3, 1) := by decide +kernel
theorem dX5_timeIfBalanced_13 : decode cX5_timeIfBalanced 13 = .ok (.iload_n 3, 1) := by decide +kernel
theorem dX5_timeIfBalanced_14 : decode cX5_timeIfBalanced 14 = .ok (.ifCond .ne 7, 3) := by decide +kernel
theorem dX5_timeIfBalanced_17 : decode cX5_timeIfBalanced 17 = .ok (.iconst (-1), 1) := by decide +kernel
theorem dX5_timeIfBalanced_18 : decode cX5_timeIfBalanced 18 = .ok (.goto 12, 3) := by decide +kernel
theorem dX5_timeIfBalanced_21 : decode cX5_timeIfBalanced 21 = .ok (.aload_n 0, 1) := by decide +kernel
theorem dX5_timeIfBalanced_22 : decode cX5_timeIfBalanced 22 = .ok (.getfield 29, 3) := by decide +kernel
theorem dX5_timeIfBalanced_25 : decode cX5_timeIfBalanced 25 = .ok (.getfield 117, 3) := by decide +kernel
theorem dX5_timeIfBalanced_28 : decode cX5_timeIfBalanced 28 = .ok (.iload_n 2, 1) := by decide +kernel
theorem dX5_timeIfBalanced_29 : decode cX5_timeIfBalanced 29 = .ok (.iaload, 1) := by decide +kernel
theorem dX5_timeIfBalanced_30 : decode cX5_timeIfBalanced 30 = .ok (.ireturn, 1) := by decide +kernel
theorem dX5_hashWithSlot_0 : decode cX5_hashWithSlot 0 = .ok (.lload_n 1, 1) := by decide +kernel
theorem dX5_hashWithSlot_1 : decode cX5_hashWithSlot 1 = .ok (.lstore 4, 2) := by decide +kernel
theorem dX5_hashWithSlot_3 : decode cX5_hashWithSlot 3 = .ok (.iconst 0, 1) := by decide +kernel
theorem dX5_hashWithSlot_4 : decode cX5_hashWithSlot 4 = .ok (.istore 6, 2) := by decide +kernel
theorem dX5_hashWithSlot_6 : decode cX5_hashWithSlot 6 = .ok (.iload 6, 2) := by decide +kernel
theorem dX5_hashWithSlot_8 : decode cX5_hashWithSlot 8 = .ok (.bipush 10, 2) := by decide +kernel
theorem dX5_hashWithSlot_10 : decode cX5_hashWithSlot 10 = .ok (.if_icmp .ge 26, 3) := by decide +kernel
theorem dX5_hashWithSlot_13 : decode cX5_hashWithSlot 13 = .ok (.ldc2_w 246, 3) := by decide +kernel
theorem dX5_hashWithSlot_16 : decode cX5_hashWithSlot 16 = .ok (.lload 4, 2) := by decide +kernel
theorem dX5_hashWithSlot_18 : decode cX5_hashWithSlot 18 = .ok (.lmul, 1) := by decide +kernel
theorem dX5_hashWithSlot_19 : decode cX5_hashWithSlot 19 = .ok (.aload_n 0, 1) := by decide +kernel
theorem dX5_hashWithSlot_20 : decode cX5_hashWithSlot 20 = .ok (.iload_n 3, 1) := by decide +kernel
theorem dX5_hashWithSlot_21 : decode cX5_hashWithSlot 21 = .ok (.iload 6, 2) := by decide +kernel
theorem dX5_hashWithSlot_23 : decode cX5_hashWithSlot 23 = .ok (.invokevirtual 210, 3) := by decide +kernel
theorem dX5_hashWithSlot_26 : decode cX5_hashWithSlot 26 = .ok (.i2l, 1) := by decide +kernel
theorem dX5_hashWithSlot_27 : decode cX5_hashWithSlot 27 = .ok (.ladd, 1) := by decide +kernel
theorem dX5_hashWithSlot_28 : decode cX5_hashWithSlot 28 = .ok (.lstore 4, 2) := by decide +kernel
theorem dX5_hashWithSlot_30 : decode cX5_hashWithSlot 30 = .ok (.iinc 6 1, 3) := by decide +kernel
theorem dX5_hashWithSlot_33 : decode cX5_hashWithSlot 33 = .ok (.goto (-27), 3) := by decide +kernel
theorem dX5_hashWithSlot_36 : decode cX5_hashWithSlot 36 = .ok (.iconst 0, 1) := by decide +kernel
theorem dX5_hashWithSlot_37 : decode cX5_hashWithSlot 37 = .ok (.istore 6, 2) := by decide +kernel
theorem dX5_hashWithSlot_39 : decode cX5_hashWithSlot 39 = .ok (.iload 6, 2) := by decide +kernel
theorem dX5_hashWithSlot_41 : decode cX5_hashWithSlot 41 = .ok (.bipush 8, 2) := by decide +kernel
theorem dX5_hashWithSlot_43 : decode cX5_hashWithSlot 43 = .ok (.if_icmp .ge 43, 3) := by decide +kernel
theorem dX5_hashWithSlot_46 : decode cX5_hashWithSlot 46 = .ok (.iconst 0, 1) := by decide +kernel
theorem dX5_hashWithSlot_47 : decode cX5_hashWithSlot 47 = .ok (.istore 7, 2) := by decide +kernel
theorem dX5_hashWithSlot_49 : decode cX5_hashWithSlot 49 = .ok (.iload 7, 2) := by decide +kernel
theorem dX5_hashWithSlot_51 : decode cX5_hashWithSlot 51 = .ok (.iconst 4, 1) := by decide +kernel
theorem dX5_hashWithSlot_52 : decode cX5_hashWithSlot 52 = .ok (.if_icmp .ge 28, 3) := by decide +kernel
theorem dX5_hashWithSlot_55 : decode cX5_hashWithSlot 55 = .ok (.ldc2_w 246, 3) := by decide +kernel
theorem dX5_hashWithSlot_58 : decode cX5_hashWithSlot 58 = .ok (.lload 4, 2) := by decide +kernel
theorem dX5_hashWithSlot_60 : decode cX5_hashWithSlot 60 = .ok (.lmul, 1) := by decide +kernel
theorem dX5_hashWithSlot_61 : decode cX5_hashWithSlot 61 = .ok (.aload_n 0, 1) := by decide +kernel
theorem dX5_hashWithSlot_62 : decode cX5_hashWithSlot 62 = .ok (.iload_n 3, 1) := by decide +kernel
theorem dX5_hashWithSlot_63 : decode cX5_hashWithSlot 63 = .ok (.iload 6, 2) := by decide +kernel
theorem dX5_hashWithSlot_65 : decode cX5_hashWithSlot 65 = .ok (.iload 7, 2) := by decide +kernel
theorem dX5_hashWithSlot_67 : decode cX5_hashWithSlot 67 = .ok (.invokevirtual 213, 3) := by decide +kernel
theorem dX5_hashWithSlot_70 : decode cX5_hashWithSlot 70 = .ok (.i2l, 1) := by decide +kernel
theorem dX5_hashWithSlot_71 : decode cX5_hashWithSlot 71 = .ok (.ladd, 1) := by decide +kernel
theorem dX5_hashWithSlot_72 : decode cX5_hashWithSlot 72 = .ok (.lstore 4, 2) := by decide +kernel
theorem dX5_hashWithSlot_74 : decode cX5_hashWithSlot 74 = .ok (.iinc 7 1, 3) := by decide +kernel
theorem dX5_hashWithSlot_77 : decode cX5_hashWithSlot 77 = .ok (.goto (-28), 3) := by decide +kernel
theorem dX5_hashWithSlot_80 : decode cX5_hashWithSlot 80 = .ok (.iinc 6 1, 3) := by decide +kernel
theorem dX5_hashWithSlot_83 : decode cX5_hashWithSlot 83 = .ok (.goto (-44), 3) := by decide +kernel
theorem dX5_hashWithSlot_86 : decode cX5_hashWithSlot 86 = .ok (.ldc2_w 246, 3) := by decide +kernel
theorem dX5_hashWithSlot_89 : decode cX5_hashWithSlot 89 = .ok (.lload 4, 2) := by decide +kernel
theorem dX5_hashWithSlot_91 : decode cX5_hashWithSlot 91 = .ok (.lmul, 1) := by decide +kernel
theorem dX5_hashWithSlot_92 : decode cX5_hashWithSlot 92 = .ok (.aload_n 0, 1) := by decide +kernel
theorem dX5_hashWithSlot_93 : decode cX5_hashWithSlot 93 = .ok (.iload_n 3, 1) := by decide +kernel
theorem dX5_hashWithSlot_94 : decode cX5_hashWithSlot 94 = .ok (.invokevirtual 220, 3) := by decide +kernel
theorem dX5_hashWithSlot_97 : decode cX5_hashWithSlot 97 = .ok (.i2l, 1) := by decide +kernel
theorem dX5_hashWithSlot_98 : decode cX5_hashWithSlot 98 = .ok (.ladd, 1) := by decide +kernel
theorem dX5_hashWithSlot_99 : decode cX5_hashWithSlot 99 = .ok (.lstore 4, 2) := by decide +kernel
theorem dX5_hashWithSlot_101 : decode cX5_hashWithSlot 101 = .ok (.ldc2_w 246, 3) := by decide +kernel
theorem dX5_hashWithSlot_104 : decode cX5_hashWithSlot 104 = .ok (.lload 4, 2) := by decide +kernel
theorem dX5_hashWithSlot_106 : decode cX5_hashWithSlot 106 = .ok (.lmul, 1) := by decide +kernel
theorem dX5_hashWithSlot_107 : decode cX5_hashWithSlot 107 = .ok (.aload_n 0, 1) := by decide +kernel
theorem dX5_hashWithSlot_108 : decode cX5_hashWithSlot 108 = .ok (.iload_n 3, 1) := by decide +kernel
theorem dX5_hashWithSlot_109 : decode cX5_hashWithSlot 109 = .ok (.invokevirtual 223, 3) := by decide +kernel
theorem dX5_hashWithSlot_112 : decode cX5_hashWithSlot 112 = .ok (.i2l, 1) := by decide +kernel
theorem dX5_hashWithSlot_113 : decode cX5_hashWithSlot 113 = .ok (.ladd, 1) := by decide +kernel
theorem dX5_hashWithSlot_114 : decode cX5_hashWithSlot 114 = .ok (.lstore 4, 2) := by decide +kernel
theorem dX5_hashWithSlot_116 : decode cX5_hashWithSlot 116 = .ok (.ldc2_w 246, 3) := by decide +kernel
theorem dX5_hashWithSlot_119 : decode cX5_hashWithSlot 119 = .ok (.lload 4, 2) := by decide +kernel
theorem dX5_hashWithSlot_121 : decode cX5_hashWithSlot 121 = .ok (.lmul, 1) := by decide +kernel
theorem dX5_hashWithSlot_122 : decode cX5_hashWithSlot 122 = .ok (.aload_n 0, 1) := by decide +kernel
theorem dX5_hashWithSlot_123 : decode cX5_hashWithSlot 123 = .ok (.bipush 20, 2) := by decide +kernel
theorem dX5_hashWithSlot_125 : decode cX5_hashWithSlot 125 = .ok (.iload_n 3, 1) := by decide +kernel
theorem dX5_hashWithSlot_126 : decode cX5_hashWithSlot 126 = .ok (.invokevirtual 229, 3) := by decide +kernel
theorem dX5_hashWithSlot_129 : decode cX5_hashWithSlot 129 = .ok (.i2l, 1) := by decide +kernel
theorem dX5_hashWithSlot_130 : decode cX5_hashWithSlot 130 = .ok (.ladd, 1) := by decide +kernel
theorem dX5_hashWithSlot_131 : decode cX5_hashWithSlot 131 = .ok (.lstore 4, 2) := by decide +kernel
theorem dX5_hashWithSlot_133 : decode cX5_hashWithSlot 133 = .ok (.ldc2_w 246, 3) := by decide +kernel
theorem dX5_hashWithSlot_136 : decode cX5_hashWithSlot 136 = .ok (.lload 4, 2) := by decide +kernel
theorem dX5_hashWithSlot_138 : decode cX5_hashWithSlot 138 = .ok (.lmul, 1) := by decide +kernel
theorem dX5_hashWithSlot_139 : decode cX5_hashWithSlot 139 = .ok (.aload_n 0, 1) := by decide +kernel
theorem dX5_hashWithSlot_140 : decode cX5_hashWithSlot 140 = .ok (.iload_n 3, 1) := by decide +kernel
theorem dX5_hashWithSlot_141 : decode cX5_hashWithSlot 141 = .ok (.invokevirtual 232, 3) := by decide +kernel
theorem dX5_hashWithSlot_144 : decode cX5_hashWithSlot 144 = .ok (.i2l, 1) := by decide +kernel
theorem dX5_hashWithSlot_145 : decode cX5_hashWithSlot 145 = .ok (.ladd, 1) := by decide +kernel
theorem dX5_hashWithSlot_146 : decode cX5_hashWithSlot 146 = .ok (.lstore 4, 2) := by decide +kernel
theorem dX5_hashWithSlot_148 : decode cX5_hashWithSlot 148 = .ok (.lload 4, 2) := by decide +kernel
theorem dX5_hashWithSlot_150 : decode cX5_hashWithSlot 150 = .ok (.lreturn, 1) := by decide +kernel
theorem dX5_bitsOf_0 : decode cX5_bitsOf 0 = .ok (.dload_n 0, 1) := by decide +kernel
theorem dX5_bitsOf_1 : decode cX5_bitsOf 1 = .ok (.dconst 0, 1) := by decide +kernel
theorem dX5_bitsOf_2 : decode cX5_bitsOf 2 = .ok (.dcmp .g, 1) := by decide +kernel
theorem dX5_bitsOf_3 : decode cX5_bitsOf 3 = .ok (.ifCond .gt 5, 3) := by decide +kernel
theorem dX5_bitsOf_6 : decode cX5_bitsOf 6 = .ok (.lconst 0, 1) := by decide +kernel
theorem dX5_bitsOf_7 : decode cX5_bitsOf 7 = .ok (.lreturn, 1) := by decide +kernel
theorem dX5_bitsOf_8 : decode cX5_bitsOf 8 = .ok (.iload_n 2, 1) := by decide +kernel
theorem dX5_bitsOf_9 : decode cX5_bitsOf 9 = .ok (.i2l, 1) := by decide +kernel
theorem dX5_bitsOf_10 : decode cX5_bitsOf 10 = .ok (.lstore 4, 2) := by decide +kernel
theorem dX5_bitsOf_12 : decode cX5_bitsOf 12 = .ok (.dload_n 0, 1) := by decide +kernel
theorem dX5_bitsOf_13 : decode cX5_bitsOf 13 = .ok (.dstore 6, 2) := by decide +kernel
theorem dX5_bitsOf_15 : decode cX5_bitsOf 15 = .ok (.iconst 0, 1) := by decide +kernel
theorem dX5_bitsOf_16 : decode cX5_bitsOf 16 = .ok (.istore 8, 2) := by decide +kernel
theorem dX5_bitsOf_18 : decode cX5_bitsOf 18 = .ok (.iload 8, 2) := by decide +kernel
theorem dX5_bitsOf_20 : decode cX5_bitsOf 20 = .ok (.iload_n 2, 1) := by decide +kernel
theorem dX5_bitsOf_21 : decode cX5_bitsOf 21 = .ok (.if_icmp .ge 32, 3) := by decide +kernel
theorem dX5_bitsOf_24 : decode cX5_bitsOf 24 = .ok (.dload 6, 2) := by decide +kernel
theorem dX5_bitsOf_26 : decode cX5_bitsOf 26 = .ok (.ldc2_w 356, 3) := by decide +kernel
theorem dX5_bitsOf_29 : decode cX5_bitsOf 29 = .ok (.dcmp .l, 1) := by decide +kernel
theorem dX5_bitsOf_30 : decode cX5_bitsOf 30 = .ok (.ifCond .lt 23, 3) := by decide +kernel
theorem dX5_bitsOf_33 : decode cX5_bitsOf 33 = .ok (.dload 6, 2) := by decide +kernel
theorem dX5_bitsOf_35 : decode cX5_bitsOf 35 = .ok (.ldc2_w 356, 3) := by decide +kernel
theorem dX5_bitsOf_38 : decode cX5_bitsOf 38 = .ok (.ddiv, 1) := by decide +kernel
theorem dX5_bitsOf_39 : decode cX5_bitsOf 39 = .ok (.dstore 6, 2) := by decide +kernel
theorem dX5_bitsOf_41 : decode cX5_bitsOf 41 = .ok (.lload 4, 2) := by decide +kernel
theorem dX5_bitsOf_43 : decode cX5_bitsOf 43 = .ok (.lconst 1, 1) := by decide +kernel
theorem dX5_bitsOf_44 : decode cX5_bitsOf 44 = .ok (.ladd, 1) := by decide +kernel
theorem dX5_bitsOf_45 : decode cX5_bitsOf 45 = .ok (.lstore 4, 2) := by decide +kernel
theorem dX5_bitsOf_47 : decode cX5_bitsOf 47 = .ok (.iinc 8 1, 3) := by decide +kernel
theorem dX5_bitsOf_50 : decode cX5_bitsOf 50 = .ok (.goto (-32), 3) := by decide +kernel
theorem dX5_bitsOf_53 : decode cX5_bitsOf 53 = .ok (.iconst 0, 1) := by decide +kernel
theorem dX5_bitsOf_54 : decode cX5_bitsOf 54 = .ok (.istore 8, 2) := by decide +kernel
theorem dX5_bitsOf_56 : decode cX5_bitsOf 56 = .ok (.iload 8, 2) := by decide +kernel
theorem dX5_bitsOf_58 : decode cX5_bitsOf 58 = .ok (.iload_n 2, 1) := by decide +kernel
theorem dX5_bitsOf_59 : decode cX5_bitsOf 59 = .ok (.if_icmp .ge 30, 3) := by decide +kernel
theorem dX5_bitsOf_62 : decode cX5_bitsOf 62 = .ok (.dload 6, 2) := by decide +kernel
theorem dX5_bitsOf_64 : decode cX5_bitsOf 64 = .ok (.dconst 1, 1) := by decide +kernel
theorem dX5_bitsOf_65 : decode cX5_bitsOf 65 = .ok (.dcmp .g, 1) := by decide +kernel
theorem dX5_bitsOf_66 : decode cX5_bitsOf 66 = .ok (.ifCond .ge 23, 3) := by decide +kernel
theorem dX5_bitsOf_69 : decode cX5_bitsOf 69 = .ok (.dload 6, 2) := by decide +kernel
theorem dX5_bitsOf_71 : decode cX5_bitsOf 71 = .ok (.ldc2_w 356, 3) := by decide +kernel
theorem dX5_bitsOf_74 : decode cX5_bitsOf 74 = .ok (.dmul, 1) := by decide +kernel
theorem dX5_bitsOf_75 : decode cX5_bitsOf 75 = .ok (.dstore 6, 2) := by decide +kernel
theorem dX5_bitsOf_77 : decode cX5_bitsOf 77 = .ok (.lload 4, 2) := by decide +kernel
theorem dX5_bitsOf_79 : decode cX5_bitsOf 79 = .ok (.lconst 1, 1) := by decide +kernel
theorem dX5_bitsOf_80 : decode cX5_bitsOf 80 = .ok (.lsub, 1) := by decide +kernel
theorem dX5_bitsOf_81 : decode cX5_bitsOf 81 = .ok (.lstore 4, 2) := by decide +kernel
theorem dX5_bitsOf_83 : decode cX5_bitsOf 83 = .ok (.iinc 8 1, 3) := by decide +kernel
theorem dX5_bitsOf_86 : decode cX5_bitsOf 86 = .ok (.goto (-30), 3) := by decide +kernel
theorem dX5_bitsOf_89 : decode cX5_bitsOf 89 = .ok (.dload 6, 2) := by decide +kernel
theorem dX5_bitsOf_91 : decode cX5_bitsOf 91 = .ok (.dconst 1, 1) := by decide +kernel
theorem dX5_bitsOf_92 : decode cX5_bitsOf 92 = .ok (.dsub, 1) := by decide +kernel
theorem dX5_bitsOf_93 : decode cX5_bitsOf 93 = .ok (.lconst 1, 1) := by decide +kernel
theorem dX5_bitsOf_94 : decode cX5_bitsOf 94 = .ok (.iload_n 3, 1) := by decide +kernel
theorem dX5_bitsOf_95 : decode cX5_bitsOf 95 = .ok (.lshl, 1) := by decide +kernel
theorem dX5_bitsOf_96 : decode cX5_bitsOf 96 = .ok (.l2d, 1) := by decide +kernel
theorem dX5_bitsOf_97 : decode cX5_bitsOf 97 = .ok (.dmul, 1) := by decide +kernel
theorem dX5_bitsOf_98 : decode cX5_bitsOf 98 = .ok (.d2l, 1) := by decide +kernel
theorem dX5_bitsOf_99 : decode cX5_bitsOf 99 = .ok (.lstore 8, 2) := by decide +kernel
theorem dX5_bitsOf_101 : decode cX5_bitsOf 101 = .ok (.lload 4, 2) := by decide +kernel
theorem dX5_bitsOf_103 : decode cX5_bitsOf 103 = .ok (.iload_n 3, 1) := by decide +kernel
theorem dX5_bitsOf_104 : decode cX5_bitsOf 104 = .ok (.lshl, 1) := by decide +kernel
theorem dX5_bitsOf_105 : decode cX5_bitsOf 105 = .ok (.lload 8, 2) := by decide +kernel
theorem dX5_bitsOf_107 : decode cX5_bitsOf 107 = .ok (.ladd, 1) := by decide +kernel
theorem dX5_bitsOf_108 : decode cX5_bitsOf 108 = .ok (.lreturn, 1) := by decide +kernel
theorem dX5_bit_0 : decode cX5_bit 0 = .ok (.iload_n 0, 1) := by decide +kernel
theorem dX5_bit_1 : decode cX5_bit 1 = .ok (.iload_n 1, 1) := by decide +kernel
theorem dX5_bit_2 : decode cX5_bit 2 = .ok (.ishr, 1) := by decide +kernel
theorem dX5_bit_3 : decode cX5_bit 3 = .ok (.iconst 1, 1) := by decide +kernel
theorem dX5_bit_4 : decode cX5_bit 4 = .ok (.iand, 1) := by decide +kernel
theorem dX5_bit_5 : decode cX5_bit 5 = .ok (.ireturn, 1) := by decide +kernel
theorem dX5_maskOf_0 : decode cX5_maskOf 0 = .ok (.iload_n 0, 1) := by decide +kernel
theorem dX5_maskOf_1 : decode cX5_maskOf 1 = .ok (.ifCond .lt 17, 3) := by decide +kernel
theorem dX5_maskOf_4 : decode cX5_maskOf 4 = .ok (.iload_n 0, 1) := by decide +kernel
theorem dX5_maskOf_5 : decode cX5_maskOf 5 = .ok (.bipush 18, 2) := by decide +kernel
theorem dX5_maskOf_7 : decode cX5_maskOf 7 = .ok (.if_icmp .ge 11, 3) := by decide +kernel
theorem dX5_maskOf_10 : decode cX5_maskOf 10 = .ok (.getstatic 358, 3) := by decide +kernel
theorem dX5_maskOf_13 : decode cX5_maskOf 13 = .ok (.iload_n 0, 1) := by decide +kernel
theorem dX5_maskOf_14 : decode cX5_maskOf 14 = .ok (.iaload, 1) := by decide +kernel
theorem dX5_maskOf_15 : decode cX5_maskOf 15 = .ok (.goto 4, 3) := by decide +kernel
theorem dX5_maskOf_18 : decode cX5_maskOf 18 = .ok (.iconst 0, 1) := by decide +kernel
theorem dX5_maskOf_19 : decode cX5_maskOf 19 = .ok (.ireturn, 1) := by decide +kernel
theorem dX5_codeOf_0 : decode cX5_codeOf 0 = .ok (.iload_n 0, 1) := by decide +kernel
theorem dX5_codeOf_1 : decode cX5_codeOf 1 = .ok (.ifCond .lt 19, 3) := by decide +kernel
theorem dX5_codeOf_4 : decode cX5_codeOf 4 = .ok (.iload_n 0, 1) := by decide +kernel
theorem dX5_codeOf_5 : decode cX5_codeOf 5 = .ok (.bipush 18, 2) := by decide +kernel
theorem dX5_codeOf_7 : decode cX5_codeOf 7 = .ok (.if_icmp .ge 13, 3) := by decide +kernel
theorem dX5_codeOf_10 : decode cX5_codeOf 10 = .ok (.ldc_w 361, 3) := by decide +kernel
theorem dX5_codeOf_13 : decode cX5_codeOf 13 = .ok (.iload_n 0, 1) := by decide +kernel
theorem dX5_codeOf_14 : decode cX5_codeOf 14 = .ok (.invokevirtual 363, 3) := by decide +kernel
theorem dX5_codeOf_17 : decode cX5_codeOf 17 = .ok (.goto 5, 3) := by decide +kernel
theorem dX5_codeOf_20 : decode cX5_codeOf 20 = .ok (.bipush 63, 2) := by decide +kernel
theorem dX5_codeOf_22 : decode cX5_codeOf 22 = .ok (.ireturn, 1) := by decide +kernel
