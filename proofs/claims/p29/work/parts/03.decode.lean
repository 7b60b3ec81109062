/-! what the instructions are -/
theorem dX0_init_0 : decode cX0_init 0 = .ok (.aload_n 0, 1) := by decide +kernel
theorem dX0_init_1 : decode cX0_init 1 = .ok (.invokespecial 3, 3) := by decide +kernel
theorem dX0_init_4 : decode cX0_init 4 = .ok (.aload_n 0, 1) := by decide +kernel
theorem dX0_init_5 : decode cX0_init 5 = .ok (.bipush 40, 2) := by decide +kernel
theorem dX0_init_7 : decode cX0_init 7 = .ok (.newarray .int, 2) := by decide +kernel
theorem dX0_init_9 : decode cX0_init 9 = .ok (.putfield 9, 3) := by decide +kernel
theorem dX0_init_12 : decode cX0_init 12 = .ok (.aload_n 0, 1) := by decide +kernel
theorem dX0_init_13 : decode cX0_init 13 = .ok (.bipush 40, 2) := by decide +kernel
theorem dX0_init_15 : decode cX0_init 15 = .ok (.newarray .int, 2) := by decide +kernel
theorem dX0_init_17 : decode cX0_init 17 = .ok (.putfield 15, 3) := by decide +kernel
theorem dX0_init_20 : decode cX0_init 20 = .ok (.aload_n 0, 1) := by decide +kernel
theorem dX0_init_21 : decode cX0_init 21 = .ok (.bipush 40, 2) := by decide +kernel
theorem dX0_init_23 : decode cX0_init 23 = .ok (.newarray .int, 2) := by decide +kernel
theorem dX0_init_25 : decode cX0_init 25 = .ok (.putfield 18, 3) := by decide +kernel
theorem dX0_init_28 : decode cX0_init 28 = .ok (.aload_n 0, 1) := by decide +kernel
theorem dX0_init_29 : decode cX0_init 29 = .ok (.bipush 40, 2) := by decide +kernel
theorem dX0_init_31 : decode cX0_init 31 = .ok (.newarray .int, 2) := by decide +kernel
theorem dX0_init_33 : decode cX0_init 33 = .ok (.putfield 21, 3) := by decide +kernel
theorem dX0_init_36 : decode cX0_init 36 = .ok (.return_, 1) := by decide +kernel
theorem dX0_renew_0 : decode cX0_renew 0 = .ok (.iconst 0, 1) := by decide +kernel
theorem dX0_renew_1 : decode cX0_renew 1 = .ok (.istore 4, 2) := by decide +kernel
theorem dX0_renew_3 : decode cX0_renew 3 = .ok (.iload 4, 2) := by decide +kernel
theorem dX0_renew_5 : decode cX0_renew 5 = .ok (.aload_n 1, 1) := by decide +kernel
theorem dX0_renew_6 : decode cX0_renew 6 = .ok (.getfield 24, 3) := by decide +kernel
theorem dX0_renew_9 : decode cX0_renew 9 = .ok (.if_icmp .ge 29, 3) := by decide +kernel
theorem dX0_renew_12 : decode cX0_renew 12 = .ok (.aload_n 0, 1) := by decide +kernel
theorem dX0_renew_13 : decode cX0_renew 13 = .ok (.getfield 9, 3) := by decide +kernel
theorem dX0_renew_16 : decode cX0_renew 16 = .ok (.iload 4, 2) := by decide +kernel
theorem dX0_renew_18 : decode cX0_renew 18 = .ok (.sipush (-5000), 3) := by decide +kernel
theorem dX0_renew_21 : decode cX0_renew 21 = .ok (.iastore, 1) := by decide +kernel
theorem dX0_renew_22 : decode cX0_renew 22 = .ok (.aload_n 0, 1) := by decide +kernel
theorem dX0_renew_23 : decode cX0_renew 23 = .ok (.getfield 15, 3) := by decide +kernel
theorem dX0_renew_26 : decode cX0_renew 26 = .ok (.iload 4, 2) := by decide +kernel
theorem dX0_renew_28 : decode cX0_renew 28 = .ok (.sipush 2000, 3) := by decide +kernel
theorem dX0_renew_31 : decode cX0_renew 31 = .ok (.iastore, 1) := by decide +kernel
theorem dX0_renew_32 : decode cX0_renew 32 = .ok (.iinc 4 1, 3) := by decide +kernel
theorem dX0_renew_35 : decode cX0_renew 35 = .ok (.goto (-32), 3) := by decide +kernel
theorem dX0_renew_38 : decode cX0_renew 38 = .ok (.aload_n 0, 1) := by decide +kernel
theorem dX0_renew_39 : decode cX0_renew 39 = .ok (.aload_n 1, 1) := by decide +kernel
theorem dX0_renew_40 : decode cX0_renew 40 = .ok (.aload_n 3, 1) := by decide +kernel
theorem dX0_renew_41 : decode cX0_renew 41 = .ok (.invokevirtual 30, 3) := by decide +kernel
theorem dX0_renew_44 : decode cX0_renew 44 = .ok (.aload_n 0, 1) := by decide +kernel
theorem dX0_renew_45 : decode cX0_renew 45 = .ok (.aload_n 2, 1) := by decide +kernel
theorem dX0_renew_46 : decode cX0_renew 46 = .ok (.aload_n 3, 1) := by decide +kernel
theorem dX0_renew_47 : decode cX0_renew 47 = .ok (.invokevirtual 34, 3) := by decide +kernel
theorem dX0_renew_50 : decode cX0_renew 50 = .ok (.aload_n 0, 1) := by decide +kernel
theorem dX0_renew_51 : decode cX0_renew 51 = .ok (.aload_n 1, 1) := by decide +kernel
theorem dX0_renew_52 : decode cX0_renew 52 = .ok (.getfield 24, 3) := by decide +kernel
theorem dX0_renew_55 : decode cX0_renew 55 = .ok (.aload_n 3, 1) := by decide +kernel
theorem dX0_renew_56 : decode cX0_renew 56 = .ok (.invokevirtual 38, 3) := by decide +kernel
theorem dX0_renew_59 : decode cX0_renew 59 = .ok (.return_, 1) := by decide +kernel
theorem dX0_gatherDates_0 : decode cX0_gatherDates 0 = .ok (.iconst 0, 1) := by decide +kernel
theorem dX0_gatherDates_1 : decode cX0_gatherDates 1 = .ok (.istore_n 3, 1) := by decide +kernel
theorem dX0_gatherDates_2 : decode cX0_gatherDates 2 = .ok (.iload_n 3, 1) := by decide +kernel
theorem dX0_gatherDates_3 : decode cX0_gatherDates 3 = .ok (.aload_n 1, 1) := by decide +kernel
theorem dX0_gatherDates_4 : decode cX0_gatherDates 4 = .ok (.getfield 24, 3) := by decide +kernel
theorem dX0_gatherDates_7 : decode cX0_gatherDates 7 = .ok (.if_icmp .ge 74, 3) := by decide +kernel
theorem dX0_gatherDates_10 : decode cX0_gatherDates 10 = .ok (.aload_n 1, 1) := by decide +kernel
theorem dX0_gatherDates_11 : decode cX0_gatherDates 11 = .ok (.getfield 42, 3) := by decide +kernel
theorem dX0_gatherDates_14 : decode cX0_gatherDates 14 = .ok (.iload_n 3, 1) := by decide +kernel
theorem dX0_gatherDates_15 : decode cX0_gatherDates 15 = .ok (.invokestatic 46, 3) := by decide +kernel
theorem dX0_gatherDates_18 : decode cX0_gatherDates 18 = .ok (.ifCond .eq 57, 3) := by decide +kernel
theorem dX0_gatherDates_21 : decode cX0_gatherDates 21 = .ok (.aload_n 2, 1) := by decide +kernel
theorem dX0_gatherDates_22 : decode cX0_gatherDates 22 = .ok (.getfield 50, 3) := by decide +kernel
theorem dX0_gatherDates_25 : decode cX0_gatherDates 25 = .ok (.iload_n 3, 1) := by decide +kernel
theorem dX0_gatherDates_26 : decode cX0_gatherDates 26 = .ok (.iaload, 1) := by decide +kernel
theorem dX0_gatherDates_27 : decode cX0_gatherDates 27 = .ok (.istore 4, 2) := by decide +kernel
theorem dX0_gatherDates_29 : decode cX0_gatherDates 29 = .ok (.aload_n 0, 1) := by decide +kernel
theorem dX0_gatherDates_30 : decode cX0_gatherDates 30 = .ok (.getfield 9, 3) := by decide +kernel
theorem dX0_gatherDates_33 : decode cX0_gatherDates 33 = .ok (.iload 4, 2) := by decide +kernel
theorem dX0_gatherDates_35 : decode cX0_gatherDates 35 = .ok (.aload_n 0, 1) := by decide +kernel
theorem dX0_gatherDates_36 : decode cX0_gatherDates 36 = .ok (.getfield 9, 3) := by decide +kernel
theorem dX0_gatherDates_39 : decode cX0_gatherDates 39 = .ok (.iload 4, 2) := by decide +kernel
theorem dX0_gatherDates_41 : decode cX0_gatherDates 41 = .ok (.iaload, 1) := by decide +kernel
theorem dX0_gatherDates_42 : decode cX0_gatherDates 42 = .ok (.aload_n 1, 1) := by decide +kernel
theorem dX0_gatherDates_43 : decode cX0_gatherDates 43 = .ok (.getfield 55, 3) := by decide +kernel
theorem dX0_gatherDates_46 : decode cX0_gatherDates 46 = .ok (.iload_n 3, 1) := by decide +kernel
theorem dX0_gatherDates_47 : decode cX0_gatherDates 47 = .ok (.iaload, 1) := by decide +kernel
theorem dX0_gatherDates_48 : decode cX0_gatherDates 48 = .ok (.invokestatic 58, 3) := by decide +kernel
theorem dX0_gatherDates_51 : decode cX0_gatherDates 51 = .ok (.iastore, 1) := by decide +kernel
theorem dX0_gatherDates_52 : decode cX0_gatherDates 52 = .ok (.aload_n 0, 1) := by decide +kernel
theorem dX0_gatherDates_53 : decode cX0_gatherDates 53 = .ok (.getfield 15, 3) := by decide +kernel
theorem dX0_gatherDates_56 : decode cX0_gatherDates 56 = .ok (.iload 4, 2) := by decide +kernel
theorem dX0_gatherDates_58 : decode cX0_gatherDates 58 = .ok (.aload_n 0, 1) := by decide +kernel
theorem dX0_gatherDates_59 : decode cX0_gatherDates 59 = .ok (.getfield 15, 3) := by decide +kernel
theorem dX0_gatherDates_62 : decode cX0_gatherDates 62 = .ok (.iload 4, 2) := by decide +kernel
theorem dX0_gatherDates_64 : decode cX0_gatherDates 64 = .ok (.iaload, 1) := by decide +kernel
theorem dX0_gatherDates_65 : decode cX0_gatherDates 65 = .ok (.aload_n 1, 1) := by decide +kernel
theorem dX0_gatherDates_66 : decode cX0_gatherDates 66 = .ok (.getfield 64, 3) := by decide +kernel
theorem dX0_gatherDates_69 : decode cX0_gatherDates 69 = .ok (.iload_n 3, 1) := by decide +kernel
theorem dX0_gatherDates_70 : decode cX0_gatherDates 70 = .ok (.iaload, 1) := by decide +kernel
theorem dX0_gatherDates_71 : decode cX0_gatherDates 71 = .ok (.invokestatic 67, 3) := by decide +kernel
theorem dX0_gatherDates_74 : decode cX0_gatherDates 74 = .ok (.iastore, 1) := by decide +kernel
theorem dX0_gatherDates_75 : decode cX0_gatherDates 75 = .ok (.iinc 3 1, 3) := by decide +kernel
theorem dX0_gatherDates_78 : decode cX0_gatherDates 78 = .ok (.goto (-76), 3) := by decide +kernel
theorem dX0_gatherDates_81 : decode cX0_gatherDates 81 = .ok (.return_, 1) := by decide +kernel
theorem dX0_gatherFinds_0 : decode cX0_gatherFinds 0 = .ok (.iconst 0, 1) := by decide +kernel
theorem dX0_gatherFinds_1 : decode cX0_gatherFinds 1 = .ok (.istore_n 3, 1) := by decide +kernel
theorem dX0_gatherFinds_2 : decode cX0_gatherFinds 2 = .ok (.iload_n 3, 1) := by decide +kernel
theorem dX0_gatherFinds_3 : decode cX0_gatherFinds 3 = .ok (.aload_n 1, 1) := by decide +kernel
theorem dX0_gatherFinds_4 : decode cX0_gatherFinds 4 = .ok (.getfield 70, 3) := by decide +kernel
theorem dX0_gatherFinds_7 : decode cX0_gatherFinds 7 = .ok (.if_icmp .ge 45, 3) := by decide +kernel
theorem dX0_gatherFinds_10 : decode cX0_gatherFinds 10 = .ok (.aload_n 2, 1) := by decide +kernel
theorem dX0_gatherFinds_11 : decode cX0_gatherFinds 11 = .ok (.getfield 50, 3) := by decide +kernel
theorem dX0_gatherFinds_14 : decode cX0_gatherFinds 14 = .ok (.aload_n 1, 1) := by decide +kernel
theorem dX0_gatherFinds_15 : decode cX0_gatherFinds 15 = .ok (.getfield 73, 3) := by decide +kernel
theorem dX0_gatherFinds_18 : decode cX0_gatherFinds 18 = .ok (.iload_n 3, 1) := by decide +kernel
theorem dX0_gatherFinds_19 : decode cX0_gatherFinds 19 = .ok (.iaload, 1) := by decide +kernel
theorem dX0_gatherFinds_20 : decode cX0_gatherFinds 20 = .ok (.iaload, 1) := by decide +kernel
theorem dX0_gatherFinds_21 : decode cX0_gatherFinds 21 = .ok (.istore 4, 2) := by decide +kernel
theorem dX0_gatherFinds_23 : decode cX0_gatherFinds 23 = .ok (.aload_n 0, 1) := by decide +kernel
theorem dX0_gatherFinds_24 : decode cX0_gatherFinds 24 = .ok (.getfield 9, 3) := by decide +kernel
theorem dX0_gatherFinds_27 : decode cX0_gatherFinds 27 = .ok (.iload 4, 2) := by decide +kernel
theorem dX0_gatherFinds_29 : decode cX0_gatherFinds 29 = .ok (.aload_n 0, 1) := by decide +kernel
theorem dX0_gatherFinds_30 : decode cX0_gatherFinds 30 = .ok (.getfield 9, 3) := by decide +kernel
theorem dX0_gatherFinds_33 : decode cX0_gatherFinds 33 = .ok (.iload 4, 2) := by decide +kernel
theorem dX0_gatherFinds_35 : decode cX0_gatherFinds 35 = .ok (.iaload, 1) := by decide +kernel
theorem dX0_gatherFinds_36 : decode cX0_gatherFinds 36 = .ok (.aload_n 1, 1) := by decide +kernel
theorem dX0_gatherFinds_37 : decode cX0_gatherFinds 37 = .ok (.getfield 76, 3) := by decide +kernel
theorem dX0_gatherFinds_40 : decode cX0_gatherFinds 40 = .ok (.iload_n 3, 1) := by decide +kernel
theorem dX0_gatherFinds_41 : decode cX0_gatherFinds 41 = .ok (.iaload, 1) := by decide +kernel
theorem dX0_gatherFinds_42 : decode cX0_gatherFinds 42 = .ok (.invokestatic 58, 3) := by decide +kernel
theorem dX0_gatherFinds_45 : decode cX0_gatherFinds 45 = .ok (.iastore, 1) := by decide +kernel
theorem dX0_gatherFinds_46 : decode cX0_gatherFinds 46 = .ok (.iinc 3 1, 3) := by decide +kernel
theorem dX0_gatherFinds_49 : decode cX0_gatherFinds 49 = .ok (.goto (-47), 3) := by decide +kernel
theorem dX0_gatherFinds_52 : decode cX0_gatherFinds 52 = .ok (.return_, 1) := by decide +kernel
theorem dX0_spread_0 : decode cX0_spread 0 = .ok (.iconst 0, 1) := by decide +kernel
theorem dX0_spread_1 : decode cX0_spread 1 = .ok (.istore_n 3, 1) := by decide +kernel
theorem dX0_spread_2 : decode cX0_spread 2 = .ok (.iload_n 3, 1) := by decide +kernel
theorem dX0_spread_3 : decode cX0_spread 3 = .ok (.iload_n 1, 1) := by decide +kernel
theorem dX0_spread_4 : decode cX0_spread 4 = .ok (.if_icmp .ge 120, 3) := by decide +kernel
theorem dX0_spread_7 : decode cX0_spread 7 = .ok (.aload_n 0, 1) := by decide +kernel
theorem dX0_spread_8 : decode cX0_spread 8 = .ok (.getfield 18, 3) := by decide +kernel
theorem dX0_spread_11 : decode cX0_spread 11 = .ok (.iload_n 3, 1) := by decide +kernel
theorem dX0_spread_12 : decode cX0_spread 12 = .ok (.aload_n 0, 1) := by decide +kernel
theorem dX0_spread_13 : decode cX0_spread 13 = .ok (.getfield 9, 3) := by decide +kernel
theorem dX0_spread_16 : decode cX0_spread 16 = .ok (.iload_n 3, 1) := by decide +kernel
theorem dX0_spread_17 : decode cX0_spread 17 = .ok (.iaload, 1) := by decide +kernel
theorem dX0_spread_18 : decode cX0_spread 18 = .ok (.iastore, 1) := by decide +kernel
theorem dX0_spread_19 : decode cX0_spread 19 = .ok (.aload_n 0, 1) := by decide +kernel
theorem dX0_spread_20 : decode cX0_spread 20 = .ok (.getfield 21, 3) := by decide +kernel
theorem dX0_spread_23 : decode cX0_spread 23 = .ok (.iload_n 3, 1) := by decide +kernel
theorem dX0_spread_24 : decode cX0_spread 24 = .ok (.aload_n 0, 1) := by decide +kernel
theorem dX0_spread_25 : decode cX0_spread 25 = .ok (.getfield 15, 3) := by decide +kernel
theorem dX0_spread_28 : decode cX0_spread 28 = .ok (.iload_n 3, 1) := by decide +kernel
theorem dX0_spread_29 : decode cX0_spread 29 = .ok (.iaload, 1) := by decide +kernel
theorem dX0_spread_30 : decode cX0_spread 30 = .ok (.iastore, 1) := by decide +kernel
theorem dX0_spread_31 : decode cX0_spread 31 = .ok (.iconst 0, 1) := by decide +kernel
theorem dX0_spread_32 : decode cX0_spread 32 = .ok (.istore 4, 2) := by decide +kernel
theorem dX0_spread_34 : decode cX0_spread 34 = .ok (.iload 4, 2) := by decide +kernel
theorem dX0_spread_36 : decode cX0_spread 36 = .ok (.iload_n 1, 1) := by decide +kernel
theorem dX0_spread_37 : decode cX0_spread 37 = .ok (.if_icmp .ge 81, 3) := by decide +kernel
theorem dX0_spread_40 : decode cX0_spread 40 = .ok (.aload_n 2, 1) := by decide +kernel
theorem dX0_spread_41 : decode cX0_spread 41 = .ok (.getfield 77, 3) := by decide +kernel
theorem dX0_spread_44 : decode cX0_spread 44 = .ok (.iload_n 3, 1) := by decide +kernel
theorem dX0_spread_45 : decode cX0_spread 45 = .ok (.laload, 1) := by decide +kernel
theorem dX0_spread_46 : decode cX0_spread 46 = .ok (.iload 4, 2) := by decide +kernel
theorem dX0_spread_48 : decode cX0_spread 48 = .ok (.invokestatic 46, 3) := by decide +kernel
theorem dX0_spread_51 : decode cX0_spread 51 = .ok (.ifCond .eq 25, 3) := by decide +kernel
theorem dX0_spread_54 : decode cX0_spread 54 = .ok (.aload_n 0, 1) := by decide +kernel
theorem dX0_spread_55 : decode cX0_spread 55 = .ok (.getfield 18, 3) := by decide +kernel
theorem dX0_spread_58 : decode cX0_spread 58 = .ok (.iload_n 3, 1) := by decide +kernel
theorem dX0_spread_59 : decode cX0_spread 59 = .ok (.aload_n 0, 1) := by decide +kernel
theorem dX0_spread_60 : decode cX0_spread 60 = .ok (.getfield 18, 3) := by decide +kernel
theorem dX0_spread_63 : decode cX0_spread 63 = .ok (.iload_n 3, 1) := by decide +kernel
theorem dX0_spread_64 : decode cX0_spread 64 = .ok (.iaload, 1) := by decide +kernel
theorem dX0_spread_65 : decode cX0_spread 65 = .ok (.aload_n 0, 1) := by decide +kernel
theorem dX0_spread_66 : decode cX0_spread 66 = .ok (.getfield 9, 3) := by decide +kernel
theorem dX0_spread_69 : decode cX0_spread 69 = .ok (.iload 4, 2) := by decide +kernel
theorem dX0_spread_71 : decode cX0_spread 71 = .ok (.iaload, 1) := by decide +kernel
theorem dX0_spread_72 : decode cX0_spread 72 = .ok (.invokestatic 58, 3) := by decide +kernel
theorem dX0_spread_75 : decode cX0_spread 75 = .ok (.iastore, 1) := by decide +kernel
theorem dX0_spread_76 : decode cX0_spread 76 = .ok (.aload_n 2, 1) := by decide +kernel
theorem dX0_spread_77 : decode cX0_spread 77 = .ok (.getfield 81, 3) := by decide +kernel
theorem dX0_spread_80 : decode cX0_spread 80 = .ok (.iload_n 3, 1) := by decide +kernel
theorem dX0_spread_81 : decode cX0_spread 81 = .ok (.laload, 1) := by decide +kernel
theorem dX0_spread_82 : decode cX0_spread 82 = .ok (.iload 4, 2) := by decide +kernel
theorem dX0_spread_84 : decode cX0_spread 84 = .ok (.invokestatic 46, 3) := by decide +kernel
theorem dX0_spread_87 : decode cX0_spread 87 = .ok (.ifCond .eq 25, 3) := by decide +kernel
theorem dX0_spread_90 : decode cX0_spread 90 = .ok (.aload_n 0, 1) := by decide +kernel
theorem dX0_spread_91 : decode cX0_spread 91 = .ok (.getfield 21, 3) := by decide +kernel
theorem dX0_spread_94 : decode cX0_spread 94 = .ok (.iload_n 3, 1) := by decide +kernel
theorem dX0_spread_95 : decode cX0_spread 95 = .ok (.aload_n 0, 1) := by decide +kernel
theorem dX0_spread_96 : decode cX0_spread 96 = .ok (.getfield 21, 3) := by decide +kernel
theorem dX0_spread_99 : decode cX0_spread 99 = .ok (.iload_n 3, 1) := by decide +kernel
theorem dX0_spread_100 : decode cX0_spread 100 = .ok (.iaload, 1) := by decide +kernel
theorem dX0_spread_101 : decode cX0_spread 101 = .ok (.aload_n 0, 1) := by decide +kernel
theorem dX0_spread_102 : decode cX0_spread 102 = .ok (.getfield 15, 3) := by decide +kernel
theorem dX0_spread_105 : decode cX0_spread 105 = .ok (.iload 4, 2) := by decide +kernel
theorem dX0_spread_107 : decode cX0_spread 107 = .ok (.iaload, 1) := by decide +kernel
theorem dX0_spread_108 : decode cX0_spread 108 = .ok (.invokestatic 67, 3) := by decide +kernel
theorem dX0_spread_111 : decode cX0_spread 111 = .ok (.iastore, 1) := by decide +kernel
theorem dX0_spread_112 : decode cX0_spread 112 = .ok (.iinc 4 1, 3) := by decide +kernel
theorem dX0_spread_115 : decode cX0_spread 115 = .ok (.goto (-81), 3) := by decide +kernel
theorem dX0_spread_118 : decode cX0_spread 118 = .ok (.iinc 3 1, 3) := by decide +kernel
theorem dX0_spread_121 : decode cX0_spread 121 = .ok (.goto (-119), 3) := by decide +kernel
theorem dX0_spread_124 : decode cX0_spread 124 = .ok (.return_, 1) := by decide +kernel
theorem dX1_init_0 : decode cX1_init 0 = .ok (.aload_n 0, 1) := by decide +kernel
theorem dX1_init_1 : decode cX1_init 1 = .ok (.invokespecial 3, 3) := by decide +kernel
theorem dX1_init_4 : decode cX1_init 4 = .ok (.aload_n 0, 1) := by decide +kernel
theorem dX1_init_5 : decode cX1_init 5 = .ok (.bipush 60, 2) := by decide +kernel
theorem dX1_init_7 : decode cX1_init 7 = .ok (.newarray .int, 2) := by decide +kernel
theorem dX1_init_9 : decode cX1_init 9 = .ok (.putfield 9, 3) := by decide +kernel
theorem dX1_init_12 : decode cX1_init 12 = .ok (.aload_n 0, 1) := by decide +kernel
theorem dX1_init_13 : decode cX1_init 13 = .ok (.bipush 60, 2) := by decide +kernel
theorem dX1_init_15 : decode cX1_init 15 = .ok (.newarray .int, 2) := by decide +kernel
theorem dX1_init_17 : decode cX1_init 17 = .ok (.putfield 15, 3) := by decide +kernel
theorem dX1_init_20 : decode cX1_init 20 = .ok (.aload_n 0, 1) := by decide +kernel
theorem dX1_init_21 : decode cX1_init 21 = .ok (.bipush 60, 2) := by decide +kernel
theorem dX1_init_23 : decode cX1_init 23 = .ok (.newarray .int, 2) := by decide +kernel
theorem dX1_init_25 : decode cX1_init 25 = .ok (.putfield 18, 3) := by decide +kernel
theorem dX1_init_28 : decode cX1_init 28 = .ok (.aload_n 0, 1) := by decide +kernel
theorem dX1_init_29 : decode cX1_init 29 = .ok (.bipush 60, 2) := by decide +kernel
theorem dX1_init_31 : decode cX1_init 31 = .ok (.newarray .int, 2) := by decide +kernel
theorem dX1_init_33 : decode cX1_init 33 = .ok (.putfield 21, 3) := by decide +kernel
theorem dX1_init_36 : decode cX1_init 36 = .ok (.aload_n 0, 1) := by decide +kernel
theorem dX1_init_37 : decode cX1_init 37 = .ok (.bipush 60, 2) := by decide +kernel
theorem dX1_init_39 : decode cX1_init 39 = .ok (.newarray .int, 2) := by decide +kernel
theorem dX1_init_41 : decode cX1_init 41 = .ok (.putfield 24, 3) := by decide +kernel
theorem dX1_init_44 : decode cX1_init 44 = .ok (.aload_n 0, 1) := by decide +kernel
theorem dX1_init_45 : decode cX1_init 45 = .ok (.bipush 60, 2) := by decide +kernel
theorem dX1_init_47 : decode cX1_init 47 = .ok (.newarray .int, 2) := by decide +kernel
theorem dX1_init_49 : decode cX1_init 49 = .ok (.putfield 27, 3) := by decide +kernel
theorem dX1_init_52 : decode cX1_init 52 = .ok (.aload_n 0, 1) := by decide +kernel
theorem dX1_init_53 : decode cX1_init 53 = .ok (.bipush 60, 2) := by decide +kernel
theorem dX1_init_55 : decode cX1_init 55 = .ok (.newarray .int, 2) := by decide +kernel
theorem dX1_init_57 : decode cX1_init 57 = .ok (.putfield 30, 3) := by decide +kernel
theorem dX1_init_60 : decode cX1_init 60 = .ok (.return_, 1) := by decide +kernel
theorem dX1_append_0 : decode cX1_append 0 = .ok (.aload_n 0, 1) := by decide +kernel
theorem dX1_append_1 : decode cX1_append 1 = .ok (.getfield 9, 3) := by decide +kernel
theorem dX1_append_4 : decode cX1_append 4 = .ok (.aload_n 0, 1) := by decide +kernel
theorem dX1_append_5 : decode cX1_append 5 = .ok (.getfield 33, 3) := by decide +kernel
theorem dX1_append_8 : decode cX1_append 8 = .ok (.iload_n 1, 1) := by decide +kernel
theorem dX1_append_9 : decode cX1_append 9 = .ok (.iastore, 1) := by decide +kernel
theorem dX1_append_10 : decode cX1_append 10 = .ok (.aload_n 0, 1) := by decide +kernel
theorem dX1_append_11 : decode cX1_append 11 = .ok (.getfield 15, 3) := by decide +kernel
theorem dX1_append_14 : decode cX1_append 14 = .ok (.aload_n 0, 1) := by decide +kernel
theorem dX1_append_15 : decode cX1_append 15 = .ok (.getfield 33, 3) := by decide +kernel
theorem dX1_append_18 : decode cX1_append 18 = .ok (.iload_n 2, 1) := by decide +kernel
theorem dX1_append_19 : decode cX1_append 19 = .ok (.iastore, 1) := by decide +kernel
theorem dX1_append_20 : decode cX1_append 20 = .ok (.aload_n 0, 1) := by decide +kernel
theorem dX1_append_21 : decode cX1_append 21 = .ok (.getfield 18, 3) := by decide +kernel
theorem dX1_append_24 : decode cX1_append 24 = .ok (.aload_n 0, 1) := by decide +kernel
theorem dX1_append_25 : decode cX1_append 25 = .ok (.getfield 33, 3) := by decide +kernel
theorem dX1_append_28 : decode cX1_append 28 = .ok (.iload_n 3, 1) := by decide +kernel
theorem dX1_append_29 : decode cX1_append 29 = .ok (.iastore, 1) := by decide +kernel
theorem dX1_append_30 : decode cX1_append 30 = .ok (.aload_n 0, 1) := by decide +kernel
theorem dX1_append_31 : decode cX1_append 31 = .ok (.getfield 21, 3) := by decide +kernel
theorem dX1_append_34 : decode cX1_append 34 = .ok (.aload_n 0, 1) := by decide +kernel
theorem dX1_append_35 : decode cX1_append 35 = .ok (.getfield 33, 3) := by decide +kernel
theorem dX1_append_38 : decode cX1_append 38 = .ok (.iload 4, 2) := by decide +kernel
theorem dX1_append_40 : decode cX1_append 40 = .ok (.iastore, 1) := by decide +kernel
theorem dX1_append_41 : decode cX1_append 41 = .ok (.aload_n 0, 1) := by decide +kernel
theorem dX1_append_42 : decode cX1_append 42 = .ok (.dup, 1) := by decide +kernel
theorem dX1_append_43 : decode cX1_append 43 = .ok (.getfield 33, 3) := by decide +kernel
theorem dX1_append_46 : decode cX1_append 46 = .ok (.iconst 1, 1) := by decide +kernel
theorem dX1_append_47 : decode cX1_append 47 = .ok (.iadd, 1) := by decide +kernel
theorem dX1_append_48 : decode cX1_append 48 = .ok (.putfield 33, 3) := by decide +kernel
theorem dX1_append_51 : decode cX1_append 51 = .ok (.aload_n 0, 1) := by decide +kernel
theorem dX1_append_52 : decode cX1_append 52 = .ok (.getfield 33, 3) := by decide +kernel
theorem dX1_append_55 : decode cX1_append 55 = .ok (.iconst 1, 1) := by decide +kernel
theorem dX1_append_56 : decode cX1_append 56 = .ok (.isub, 1) := by decide +kernel
theorem dX1_append_57 : decode cX1_append 57 = .ok (.ireturn, 1) := by decide +kernel
theorem dX1_countIn_0 : decode cX1_countIn 0 = .ok (.iconst 0, 1) := by decide +kernel
theorem dX1_countIn_1 : decode cX1_countIn 1 = .ok (.istore_n 2, 1) := by decide +kernel
theorem dX1_countIn_2 : decode cX1_countIn 2 = .ok (.iconst 0, 1) := by decide +kernel
theorem dX1_countIn_3 : decode cX1_countIn 3 = .ok (.istore_n 3, 1) := by decide +kernel
theorem dX1_countIn_4 : decode cX1_countIn 4 = .ok (.iload_n 3, 1) := by decide +kernel
theorem dX1_countIn_5 : decode cX1_countIn 5 = .ok (.aload_n 0, 1) := by decide +kernel
theorem dX1_countIn_6 : decode cX1_countIn 6 = .ok (.getfield 33, 3) := by decide +kernel
theorem dX1_countIn_9 : decode cX1_countIn 9 = .ok (.if_icmp .ge 22, 3) := by decide +kernel
theorem dX1_countIn_12 : decode cX1_countIn 12 = .ok (.aload_n 0, 1) := by decide +kernel
theorem dX1_countIn_13 : decode cX1_countIn 13 = .ok (.getfield 9, 3) := by decide +kernel
theorem dX1_countIn_16 : decode cX1_countIn 16 = .ok (.iload_n 3, 1) := by decide +kernel
theorem dX1_countIn_17 : decode cX1_countIn 17 = .ok (.iaload, 1) := by decide +kernel
theorem dX1_countIn_18 : decode cX1_countIn 18 = .ok (.iload_n 1, 1) := by decide +kernel
theorem dX1_countIn_19 : decode cX1_countIn 19 = .ok (.if_icmp .ne 6, 3) := by decide +kernel
theorem dX1_countIn_22 : decode cX1_countIn 22 = .ok (.iinc 2 1, 3) := by decide +kernel
theorem dX1_countIn_25 : decode cX1_countIn 25 = .ok (.iinc 3 1, 3) := by decide +kernel
theorem dX1_countIn_28 : decode cX1_countIn 28 = .ok (.goto (-24), 3) := by decide +kernel
theorem dX1_countIn_31 : decode cX1_countIn 31 = .ok (.iload_n 2, 1) := by decide +kernel
theorem dX1_countIn_32 : decode cX1_countIn 32 = .ok (.ireturn, 1) := by decide +kernel
theorem dX2_init_0 : decode cX2_init 0 = .ok (.aload_n 0, 1) := by decide +kernel
theorem dX2_init_1 : decode cX2_init 1 = .ok (.invokespecial 3, 3) := by decide +kernel
theorem dX2_init_4 : decode cX2_init 4 = .ok (.aload_n 0, 1) := by decide +kernel
theorem dX2_init_5 : decode cX2_init 5 = .ok (.bipush 40, 2) := by decide +kernel
theorem dX2_init_7 : decode cX2_init 7 = .ok (.newarray .int, 2) := by decide +kernel
theorem dX2_init_9 : decode cX2_init 9 = .ok (.putfield 9, 3) := by decide +kernel
theorem dX2_init_12 : decode cX2_init 12 = .ok (.aload_n 0, 1) := by decide +kernel
theorem dX2_init_13 : decode cX2_init 13 = .ok (.bipush 40, 2) := by decide +kernel
theorem dX2_init_15 : decode cX2_init 15 = .ok (.newarray .long, 2) := by decide +kernel
theorem dX2_init_17 : decode cX2_init 17 = .ok (.putfield 15, 3) := by decide +kernel
theorem dX2_init_20 : decode cX2_init 20 = .ok (.aload_n 0, 1) := by decide +kernel
theorem dX2_init_21 : decode cX2_init 21 = .ok (.bipush 40, 2) := by decide +kernel
theorem dX2_init_23 : decode cX2_init 23 = .ok (.newarray .long, 2) := by decide +kernel
theorem dX2_init_25 : decode cX2_init 25 = .ok (.putfield 19, 3) := by decide +kernel
theorem dX2_init_28 : decode cX2_init 28 = .ok (.aload_n 0, 1) := by decide +kernel
theorem dX2_init_29 : decode cX2_init 29 = .ok (.bipush 40, 2) := by decide +kernel
theorem dX2_init_31 : decode cX2_init 31 = .ok (.newarray .long, 2) := by decide +kernel
theorem dX2_init_33 : decode cX2_init 33 = .ok (.putfield 22, 3) := by decide +kernel
theorem dX2_init_36 : decode cX2_init 36 = .ok (.aload_n 0, 1) := by decide +kernel
theorem dX2_init_37 : decode cX2_init 37 = .ok (.bipush 40, 2) := by decide +kernel
theorem dX2_init_39 : decode cX2_init 39 = .ok (.newarray .long, 2) := by decide +kernel
theorem dX2_init_41 : decode cX2_init 41 = .ok (.putfield 25, 3) := by decide +kernel
theorem dX2_init_44 : decode cX2_init 44 = .ok (.aload_n 0, 1) := by decide +kernel
theorem dX2_init_45 : decode cX2_init 45 = .ok (.bipush 40, 2) := by decide +kernel
theorem dX2_init_47 : decode cX2_init 47 = .ok (.newarray .long, 2) := by decide +kernel
theorem dX2_init_49 : decode cX2_init 49 = .ok (.putfield 28, 3) := by decide +kernel
theorem dX2_init_52 : decode cX2_init 52 = .ok (.aload_n 0, 1) := by decide +kernel
theorem dX2_init_53 : decode cX2_init 53 = .ok (.bipush 40, 2) := by decide +kernel
theorem dX2_init_55 : decode cX2_init 55 = .ok (.newarray .int, 2) := by decide +kernel
theorem dX2_init_57 : decode cX2_init 57 = .ok (.putfield 31, 3) := by decide +kernel
theorem dX2_init_60 : decode cX2_init 60 = .ok (.aload_n 0, 1) := by decide +kernel
theorem dX2_init_61 : decode cX2_init 61 = .ok (.bipush 40, 2) := by decide +kernel
theorem dX2_init_63 : decode cX2_init 63 = .ok (.newarray .int, 2) := by decide +kernel
theorem dX2_init_65 : decode cX2_init 65 = .ok (.putfield 34, 3) := by decide +kernel
theorem dX2_init_68 : decode cX2_init 68 = .ok (.aload_n 0, 1) := by decide +kernel
theorem dX2_init_69 : decode cX2_init 69 = .ok (.bipush 40, 2) := by decide +kernel
theorem dX2_init_71 : decode cX2_init 71 = .ok (.newarray .int, 2) := by decide +kernel
theorem dX2_init_73 : decode cX2_init 73 = .ok (.putfield 37, 3) := by decide +kernel
theorem dX2_init_76 : decode cX2_init 76 = .ok (.return_, 1) := by decide +kernel
theorem dX2_isSameBody_0 : decode cX2_isSameBody 0 = .ok (.aload_n 0, 1) := by decide +kernel
theorem dX2_isSameBody_1 : decode cX2_isSameBody 1 = .ok (.getfield 9, 3) := by decide +kernel
theorem dX2_isSameBody_4 : decode cX2_isSameBody 4 = .ok (.iload_n 1, 1) := by decide +kernel
theorem dX2_isSameBody_5 : decode cX2_isSameBody 5 = .ok (.iaload, 1) := by decide +kernel
theorem dX2_isSameBody_6 : decode cX2_isSameBody 6 = .ok (.aload_n 0, 1) := by decide +kernel
theorem dX2_isSameBody_7 : decode cX2_isSameBody 7 = .ok (.getfield 9, 3) := by decide +kernel
theorem dX2_isSameBody_10 : decode cX2_isSameBody 10 = .ok (.iload_n 2, 1) := by decide +kernel
theorem dX2_isSameBody_11 : decode cX2_isSameBody 11 = .ok (.iaload, 1) := by decide +kernel
theorem dX2_isSameBody_12 : decode cX2_isSameBody 12 = .ok (.if_icmp .ne 7, 3) := by decide +kernel
theorem dX2_isSameBody_15 : decode cX2_isSameBody 15 = .ok (.iconst 1, 1) := by decide +kernel
theorem dX2_isSameBody_16 : decode cX2_isSameBody 16 = .ok (.goto 4, 3) := by decide +kernel
theorem dX2_isSameBody_19 : decode cX2_isSameBody 19 = .ok (.iconst 0, 1) := by decide +kernel
theorem dX2_isSameBody_20 : decode cX2_isSameBody 20 = .ok (.ireturn, 1) := by decide +kernel
theorem dX2_isLater_0 : decode cX2_isLater 0 = .ok (.aload_n 0, 1) := by decide +kernel
theorem dX2_isLater_1 : decode cX2_isLater 1 = .ok (.getfield 22, 3) := by decide +kernel
theorem dX2_isLater_4 : decode cX2_isLater 4 = .ok (.aload_n 0, 1) := by decide +kernel
theorem dX2_isLater_5 : decode cX2_isLater 5 = .ok (.getfield 9, 3) := by decide +kernel
theorem dX2_isLater_8 : decode cX2_isLater 8 = .ok (.iload_n 1, 1) := by decide +kernel
theorem dX2_isLater_9 : decode cX2_isLater 9 = .ok (.iaload, 1) := by decide +kernel
theorem dX2_isLater_10 : decode cX2_isLater 10 = .ok (.laload, 1) := by decide +kernel
theorem dX2_isLater_11 : decode cX2_isLater 11 = .ok (.aload_n 0, 1) := by decide +kernel
theorem dX2_isLater_12 : decode cX2_isLater 12 = .ok (.getfield 9, 3) := by decide +kernel
theorem dX2_isLater_15 : decode cX2_isLater 15 = .ok (.iload_n 2, 1) := by decide +kernel
theorem dX2_isLater_16 : decode cX2_isLater 16 = .ok (.iaload, 1) := by decide +kernel
theorem dX2_isLater_17 : decode cX2_isLater 17 = .ok (.invokestatic 40, 3) := by decide +kernel
theorem dX2_isLater_20 : decode cX2_isLater 20 = .ok (.ireturn, 1) := by decide +kernel
theorem dX2_renew_0 : decode cX2_renew 0 = .ok (.aload_n 0, 1) := by decide +kernel
theorem dX2_renew_1 : decode cX2_renew 1 = .ok (.iload_n 1, 1) := by decide +kernel
theorem dX2_renew_2 : decode cX2_renew 2 = .ok (.putfield 44, 3) := by decide +kernel
theorem dX2_renew_5 : decode cX2_renew 5 = .ok (.aload_n 0, 1) := by decide +kernel
theorem dX2_renew_6 : decode cX2_renew 6 = .ok (.aload_n 2, 1) := by decide +kernel
theorem dX2_renew_7 : decode cX2_renew 7 = .ok (.invokevirtual 48, 3) := by decide +kernel
theorem dX2_renew_10 : decode cX2_renew 10 = .ok (.aload_n 0, 1) := by decide +kernel
theorem dX2_renew_11 : decode cX2_renew 11 = .ok (.invokevirtual 52, 3) := by decide +kernel
theorem dX2_renew_14 : decode cX2_renew 14 = .ok (.aload_n 0, 1) := by decide +kernel
theorem dX2_renew_15 : decode cX2_renew 15 = .ok (.aload_n 2, 1) := by decide +kernel
theorem dX2_renew_16 : decode cX2_renew 16 = .ok (.invokevirtual 55, 3) := by decide +kernel
theorem dX2_renew_19 : decode cX2_renew 19 = .ok (.aload_n 0, 1) := by decide +kernel
theorem dX2_renew_20 : decode cX2_renew 20 = .ok (.invokevirtual 58, 3) := by decide +kernel
theorem dX2_renew_23 : decode cX2_renew 23 = .ok (.aload_n 0, 1) := by decide +kernel
theorem dX2_renew_24 : decode cX2_renew 24 = .ok (.invokevirtual 61, 3) := by decide +kernel
theorem dX2_renew_27 : decode cX2_renew 27 = .ok (.aload_n 0, 1) := by decide +kernel
theorem dX2_renew_28 : decode cX2_renew 28 = .ok (.invokevirtual 64, 3) := by decide +kernel
theorem dX2_renew_31 : decode cX2_renew 31 = .ok (.aload_n 0, 1) := by decide +kernel
theorem dX2_renew_32 : decode cX2_renew 32 = .ok (.aload_n 0, 1) := by decide +kernel
theorem dX2_renew_33 : decode cX2_renew 33 = .ok (.getfield 67, 3) := by decide +kernel
theorem dX2_renew_36 : decode cX2_renew 36 = .ok (.aload_n 0, 1) := by decide +kernel
theorem dX2_renew_37 : decode cX2_renew 37 = .ok (.getfield 22, 3) := by decide +kernel
theorem dX2_renew_40 : decode cX2_renew 40 = .ok (.aload_n 0, 1) := by decide +kernel
theorem dX2_renew_41 : decode cX2_renew 41 = .ok (.getfield 31, 3) := by decide +kernel
theorem dX2_renew_44 : decode cX2_renew 44 = .ok (.invokevirtual 71, 3) := by decide +kernel
theorem dX2_renew_47 : decode cX2_renew 47 = .ok (.aload_n 0, 1) := by decide +kernel
theorem dX2_renew_48 : decode cX2_renew 48 = .ok (.aload_n 0, 1) := by decide +kernel
theorem dX2_renew_49 : decode cX2_renew 49 = .ok (.getfield 67, 3) := by decide +kernel
theorem dX2_renew_52 : decode cX2_renew 52 = .ok (.aload_n 0, 1) := by decide +kernel
theorem dX2_renew_53 : decode cX2_renew 53 = .ok (.getfield 25, 3) := by decide +kernel
theorem dX2_renew_56 : decode cX2_renew 56 = .ok (.aload_n 0, 1) := by decide +kernel
theorem dX2_renew_57 : decode cX2_renew 57 = .ok (.getfield 34, 3) := by decide +kernel
theorem dX2_renew_60 : decode cX2_renew 60 = .ok (.invokevirtual 71, 3) := by decide +kernel
theorem dX2_renew_63 : decode cX2_renew 63 = .ok (.return_, 1) := by decide +kernel
theorem dX2_joinUnits_0 : decode cX2_joinUnits 0 = .ok (.iconst 0, 1) := by decide +kernel
theorem dX2_joinUnits_1 : decode cX2_joinUnits 1 = .ok (.istore_n 2, 1) := by decide +kernel
theorem dX2_joinUnits_2 : decode cX2_joinUnits 2 = .ok (.iload_n 2, 1) := by decide +kernel
theorem dX2_joinUnits_3 : decode cX2_joinUnits 3 = .ok (.aload_n 0, 1) := by decide +kernel
theorem dX2_joinUnits_4 : decode cX2_joinUnits 4 = .ok (.getfield 44, 3) := by decide +kernel
theorem dX2_joinUnits_7 : decode cX2_joinUnits 7 = .ok (.if_icmp .ge 16, 3) := by decide +kernel
theorem dX2_joinUnits_10 : decode cX2_joinUnits 10 = .ok (.aload_n 0, 1) := by decide +kernel
theorem dX2_joinUnits_11 : decode cX2_joinUnits 11 = .ok (.getfield 9, 3) := by decide +kernel
theorem dX2_joinUnits_14 : decode cX2_joinUnits 14 = .ok (.iload_n 2, 1) := by decide +kernel
theorem dX2_joinUnits_15 : decode cX2_joinUnits 15 = .ok (.iload_n 2, 1) := by decide +kernel
theorem dX2_joinUnits_16 : decode cX2_joinUnits 16 = .ok (.iastore, 1) := by decide +kernel
theorem dX2_joinUnits_17 : decode cX2_joinUnits 17 = .ok (.iinc 2 1, 3) := by decide +kernel
theorem dX2_joinUnits_20 : decode cX2_joinUnits 20 = .ok (.goto (-18), 3) := by decide +kernel
theorem dX2_joinUnits_23 : decode cX2_joinUnits 23 = .ok (.iconst 0, 1) := by decide +kernel
theorem dX2_joinUnits_24 : decode cX2_joinUnits 24 = .ok (.istore_n 2, 1) := by decide +kernel
theorem dX2_joinUnits_25 : decode cX2_joinUnits 25 = .ok (.iload_n 2, 1) := by decide +kernel
theorem dX2_joinUnits_26 : decode cX2_joinUnits 26 = .ok (.aload_n 1, 1) := by decide +kernel
theorem dX2_joinUnits_27 : decode cX2_joinUnits 27 = .ok (.getfield 75, 3) := by decide +kernel
theorem dX2_joinUnits_30 : decode cX2_joinUnits 30 = .ok (.if_icmp .ge 45, 3) := by decide +kernel
theorem dX2_joinUnits_33 : decode cX2_joinUnits 33 = .ok (.aload_n 1, 1) := by decide +kernel
theorem dX2_joinUnits_34 : decode cX2_joinUnits 34 = .ok (.getfield 78, 3) := by decide +kernel
theorem dX2_joinUnits_37 : decode cX2_joinUnits 37 = .ok (.iload_n 2, 1) := by decide +kernel
theorem dX2_joinUnits_38 : decode cX2_joinUnits 38 = .ok (.iaload, 1) := by decide +kernel
theorem dX2_joinUnits_39 : decode cX2_joinUnits 39 = .ok (.iconst 4, 1) := by decide +kernel
theorem dX2_joinUnits_40 : decode cX2_joinUnits 40 = .ok (.if_icmp .ne 29, 3) := by decide +kernel
theorem dX2_joinUnits_43 : decode cX2_joinUnits 43 = .ok (.aload_n 0, 1) := by decide +kernel
theorem dX2_joinUnits_44 : decode cX2_joinUnits 44 = .ok (.aload_n 0, 1) := by decide +kernel
theorem dX2_joinUnits_45 : decode cX2_joinUnits 45 = .ok (.getfield 9, 3) := by decide +kernel
theorem dX2_joinUnits_48 : decode cX2_joinUnits 48 = .ok (.aload_n 1, 1) := by decide +kernel
theorem dX2_joinUnits_49 : decode cX2_joinUnits 49 = .ok (.getfield 81, 3) := by decide +kernel
theorem dX2_joinUnits_52 : decode cX2_joinUnits 52 = .ok (.iload_n 2, 1) := by decide +kernel
theorem dX2_joinUnits_53 : decode cX2_joinUnits 53 = .ok (.iaload, 1) := by decide +kernel
theorem dX2_joinUnits_54 : decode cX2_joinUnits 54 = .ok (.iaload, 1) := by decide +kernel
theorem dX2_joinUnits_55 : decode cX2_joinUnits 55 = .ok (.aload_n 0, 1) := by decide +kernel
theorem dX2_joinUnits_56 : decode cX2_joinUnits 56 = .ok (.getfield 9, 3) := by decide +kernel
theorem dX2_joinUnits_59 : decode cX2_joinUnits 59 = .ok (.aload_n 1, 1) := by decide +kernel
theorem dX2_joinUnits_60 : decode cX2_joinUnits 60 = .ok (.getfield 84, 3) := by decide +kernel
theorem dX2_joinUnits_63 : decode cX2_joinUnits 63 = .ok (.iload_n 2, 1) := by decide +kernel
theorem dX2_joinUnits_64 : decode cX2_joinUnits 64 = .ok (.iaload, 1) := by decide +kernel
theorem dX2_joinUnits_65 : decode cX2_joinUnits 65 = .ok (.iaload, 1) := by decide +kernel
theorem dX2_joinUnits_66 : decode cX2_joinUnits 66 = .ok (.invokevirtual 87, 3) := by decide +kernel
theorem dX2_joinUnits_69 : decode cX2_joinUnits 69 = .ok (.iinc 2 1, 3) := by decide +kernel
theorem dX2_joinUnits_72 : decode cX2_joinUnits 72 = .ok (.goto (-47), 3) := by decide +kernel
theorem dX2_joinUnits_75 : decode cX2_joinUnits 75 = .ok (.return_, 1) := by decide +kernel
theorem dX2_joinBodies_0 : decode cX2_joinBodies 0 = .ok (.iload_n 1, 1) := by decide +kernel
theorem dX2_joinBodies_1 : decode cX2_joinBodies 1 = .ok (.iload_n 2, 1) := by decide +kernel
theorem dX2_joinBodies_2 : decode cX2_joinBodies 2 = .ok (.invokestatic 91, 3) := by decide +kernel
theorem dX2_joinBodies_5 : decode cX2_joinBodies 5 = .ok (.istore_n 3, 1) := by decide +kernel
theorem dX2_joinBodies_6 : decode cX2_joinBodies 6 = .ok (.iconst 0, 1) := by decide +kernel
theorem dX2_joinBodies_7 : decode cX2_joinBodies 7 = .ok (.istore 4, 2) := by decide +kernel
theorem dX2_joinBodies_9 : decode cX2_joinBodies 9 = .ok (.iload 4, 2) := by decide +kernel
theorem dX2_joinBodies_11 : decode cX2_joinBodies 11 = .ok (.aload_n 0, 1) := by decide +kernel
theorem dX2_joinBodies_12 : decode cX2_joinBodies 12 = .ok (.getfield 44, 3) := by decide +kernel
theorem dX2_joinBodies_15 : decode cX2_joinBodies 15 = .ok (.if_icmp .ge 39, 3) := by decide +kernel
theorem dX2_joinBodies_18 : decode cX2_joinBodies 18 = .ok (.aload_n 0, 1) := by decide +kernel
theorem dX2_joinBodies_19 : decode cX2_joinBodies 19 = .ok (.getfield 9, 3) := by decide +kernel
theorem dX2_joinBodies_22 : decode cX2_joinBodies 22 = .ok (.iload 4, 2) := by decide +kernel
theorem dX2_joinBodies_24 : decode cX2_joinBodies 24 = .ok (.iaload, 1) := by decide +kernel
theorem dX2_joinBodies_25 : decode cX2_joinBodies 25 = .ok (.iload_n 1, 1) := by decide +kernel
theorem dX2_joinBodies_26 : decode cX2_joinBodies 26 = .ok (.if_icmp .eq 14, 3) := by decide +kernel
theorem dX2_joinBodies_29 : decode cX2_joinBodies 29 = .ok (.aload_n 0, 1) := by decide +kernel
theorem dX2_joinBodies_30 : decode cX2_joinBodies 30 = .ok (.getfield 9, 3) := by decide +kernel
theorem dX2_joinBodies_33 : decode cX2_joinBodies 33 = .ok (.iload 4, 2) := by decide +kernel
theorem dX2_joinBodies_35 : decode cX2_joinBodies 35 = .ok (.iaload, 1) := by decide +kernel
theorem dX2_joinBodies_36 : decode cX2_joinBodies 36 = .ok (.iload_n 2, 1) := by decide +kernel
theorem dX2_joinBodies_37 : decode cX2_joinBodies 37 = .ok (.if_icmp .ne 11, 3) := by decide +kernel
theorem dX2_joinBodies_40 : decode cX2_joinBodies 40 = .ok (.aload_n 0, 1) := by decide +kernel
theorem dX2_joinBodies_41 : decode cX2_joinBodies 41 = .ok (.getfield 9, 3) := by decide +kernel
theorem dX2_joinBodies_44 : decode cX2_joinBodies 44 = .ok (.iload 4, 2) := by decide +kernel
theorem dX2_joinBodies_46 : decode cX2_joinBodies 46 = .ok (.iload_n 3, 1) := by decide +kernel
theorem dX2_joinBodies_47 : decode cX2_joinBodies 47 = .ok (.iastore, 1) := by decide +kernel
theorem dX2_joinBodies_48 : decode cX2_joinBodies 48 = .ok (.iinc 4 1, 3) := by decide +kernel
theorem dX2_joinBodies_51 : decode cX2_joinBodies 51 = .ok (.goto (-42), 3) := by decide +kernel
theorem dX2_joinBodies_54 : decode cX2_joinBodies 54 = .ok (.return_, 1) := by decide +kernel
theorem dX2_gatherMembers_0 : decode cX2_gatherMembers 0 = .ok (.aload_n 0, 1) := by decide +kernel
theorem dX2_gatherMembers_1 : decode cX2_gatherMembers 1 = .ok (.lconst 0, 1) := by decide +kernel
theorem dX2_gatherMembers_2 : decode cX2_gatherMembers 2 = .ok (.putfield 67, 3) := by decide +kernel
theorem dX2_gatherMembers_5 : decode cX2_gatherMembers 5 = .ok (.iconst 0, 1) := by decide +kernel
theorem dX2_gatherMembers_6 : decode cX2_gatherMembers 6 = .ok (.istore_n 1, 1) := by decide +kernel
theorem dX2_gatherMembers_7 : decode cX2_gatherMembers 7 = .ok (.iload_n 1, 1) := by decide +kernel
theorem dX2_gatherMembers_8 : decode cX2_gatherMembers 8 = .ok (.aload_n 0, 1) := by decide +kernel
theorem dX2_gatherMembers_9 : decode cX2_gatherMembers 9 = .ok (.getfield 44, 3) := by decide +kernel
theorem dX2_gatherMembers_12 : decode cX2_gatherMembers 12 = .ok (.if_icmp .ge 16, 3) := by decide +kernel
theorem dX2_gatherMembers_15 : decode cX2_gatherMembers 15 = .ok (.aload_n 0, 1) := by decide +kernel
theorem dX2_gatherMembers_16 : decode cX2_gatherMembers 16 = .ok (.getfield 15, 3) := by decide +kernel
theorem dX2_gatherMembers_19 : decode cX2_gatherMembers 19 = .ok (.iload_n 1, 1) := by decide +kernel
theorem dX2_gatherMembers_20 : decode cX2_gatherMembers 20 = .ok (.lconst 0, 1) := by decide +kernel
theorem dX2_gatherMembers_21 : decode cX2_gatherMembers 21 = .ok (.lastore, 1) := by decide +kernel
theorem dX2_gatherMembers_22 : decode cX2_gatherMembers 22 = .ok (.iinc 1 1, 3) := by decide +kernel
theorem dX2_gatherMembers_25 : decode cX2_gatherMembers 25 = .ok (.goto (-18), 3) := by decide +kernel
theorem dX2_gatherMembers_28 : decode cX2_gatherMembers 28 = .ok (.iconst 0, 1) := by decide +kernel
theorem dX2_gatherMembers_29 : decode cX2_gatherMembers 29 = .ok (.istore_n 1, 1) := by decide +kernel
theorem dX2_gatherMembers_30 : decode cX2_gatherMembers 30 = .ok (.iload_n 1, 1) := by decide +kernel
theorem dX2_gatherMembers_31 : decode cX2_gatherMembers 31 = .ok (.aload_n 0, 1) := by decide +kernel
theorem dX2_gatherMembers_32 : decode cX2_gatherMembers 32 = .ok (.getfield 44, 3) := by decide +kernel
theorem dX2_gatherMembers_35 : decode cX2_gatherMembers 35 = .ok (.if_icmp .ge 45, 3) := by decide +kernel
theorem dX2_gatherMembers_38 : decode cX2_gatherMembers 38 = .ok (.aload_n 0, 1) := by decide +kernel
theorem dX2_gatherMembers_39 : decode cX2_gatherMembers 39 = .ok (.dup, 1) := by decide +kernel
theorem dX2_gatherMembers_40 : decode cX2_gatherMembers 40 = .ok (.getfield 67, 3) := by decide +kernel
theorem dX2_gatherMembers_43 : decode cX2_gatherMembers 43 = .ok (.aload_n 0, 1) := by decide +kernel
theorem dX2_gatherMembers_44 : decode cX2_gatherMembers 44 = .ok (.getfield 9, 3) := by decide +kernel
theorem dX2_gatherMembers_47 : decode cX2_gatherMembers 47 = .ok (.iload_n 1, 1) := by decide +kernel
theorem dX2_gatherMembers_48 : decode cX2_gatherMembers 48 = .ok (.iaload, 1) := by decide +kernel
theorem dX2_gatherMembers_49 : decode cX2_gatherMembers 49 = .ok (.invokestatic 97, 3) := by decide +kernel
theorem dX2_gatherMembers_52 : decode cX2_gatherMembers 52 = .ok (.lor, 1) := by decide +kernel
theorem dX2_gatherMembers_53 : decode cX2_gatherMembers 53 = .ok (.putfield 67, 3) := by decide +kernel
theorem dX2_gatherMembers_56 : decode cX2_gatherMembers 56 = .ok (.aload_n 0, 1) := by decide +kernel
theorem dX2_gatherMembers_57 : decode cX2_gatherMembers 57 = .ok (.getfield 15, 3) := by decide +kernel
theorem dX2_gatherMembers_60 : decode cX2_gatherMembers 60 = .ok (.aload_n 0, 1) := by decide +kernel
theorem dX2_gatherMembers_61 : decode cX2_gatherMembers 61 = .ok (.getfield 9, 3) := by decide +kernel
theorem dX2_gatherMembers_64 : decode cX2_gatherMembers 64 = .ok (.iload_n 1, 1) := by decide +kernel
theorem dX2_gatherMembers_65 : decode cX2_gatherMembers 65 = .ok (.iaload, 1) := by decide +kernel
theorem dX2_gatherMembers_66 : decode cX2_gatherMembers 66 = .ok (.dup2, 1) := by decide +kernel
theorem dX2_gatherMembers_67 : decode cX2_gatherMembers 67 = .ok (.laload, 1) := by decide +kernel
theorem dX2_gatherMembers_68 : decode cX2_gatherMembers 68 = .ok (.iload_n 1, 1) := by decide +kernel
theorem dX2_gatherMembers_69 : decode cX2_gatherMembers 69 = .ok (.invokestatic 97, 3) := by decide +kernel
theorem dX2_gatherMembers_72 : decode cX2_gatherMembers 72 = .ok (.lor, 1) := by decide +kernel
theorem dX2_gatherMembers_73 : decode cX2_gatherMembers 73 = .ok (.lastore, 1) := by decide +kernel
theorem dX2_gatherMembers_74 : decode cX2_gatherMembers 74 = .ok (.iinc 1 1, 3) := by decide +kernel
theorem dX2_gatherMembers_77 : decode cX2_gatherMembers 77 = .ok (.goto (-47), 3) := by decide +kernel
theorem dX2_gatherMembers_80 : decode cX2_gatherMembers 80 = .ok (.return_, 1) := by decide +kernel
theorem dX2_gatherDirectlyEarlier_0 : decode cX2_gatherDirectlyEarlier 0 = .ok (.iconst 0, 1) := by decide +kernel
theorem dX2_gatherDirectlyEarlier_1 : decode cX2_gatherDirectlyEarlier 1 = .ok (.istore_n 2, 1) := by decide +kernel
theorem dX2_gatherDirectlyEarlier_2 : decode cX2_gatherDirectlyEarlier 2 = .ok (.iload_n 2, 1) := by decide +kernel
theorem dX2_gatherDirectlyEarlier_3 : decode cX2_gatherDirectlyEarlier 3 = .ok (.aload_n 0, 1) := by decide +kernel
theorem dX2_gatherDirectlyEarlier_4 : decode cX2_gatherDirectlyEarlier 4 = .ok (.getfield 44, 3) := by decide +kernel
theorem dX2_gatherDirectlyEarlier_7 : decode cX2_gatherDirectlyEarlier 7 = .ok (.if_icmp .ge 16, 3) := by decide +kernel
theorem dX2_gatherDirectlyEarlier_10 : decode cX2_gatherDirectlyEarlier 10 = .ok (.aload_n 0, 1) := by decide +kernel
theorem dX2_gatherDirectlyEarlier_11 : decode cX2_gatherDirectlyEarlier 11 = .ok (.getfield 19, 3) := by decide +kernel
theorem dX2_gatherDirectlyEarlier_14 : decode cX2_gatherDirectlyEarlier 14 = .ok (.iload_n 2, 1) := by decide +kernel
theorem dX2_gatherDirectlyEarlier_15 : decode cX2_gatherDirectlyEarlier 15 = .ok (.lconst 0, 1) := by decide +kernel
theorem dX2_gatherDirectlyEarlier_16 : decode cX2_gatherDirectlyEarlier 16 = .ok (.lastore, 1) := by decide +kernel
theorem dX2_gatherDirectlyEarlier_17 : decode cX2_gatherDirectlyEarlier 17 = .ok (.iinc 2 1, 3) := by decide +kernel
theorem dX2_gatherDirectlyEarlier_20 : decode cX2_gatherDirectlyEarlier 20 = .ok (.goto (-18), 3) := by decide +kernel
theorem dX2_gatherDirectlyEarlier_23 : decode cX2_gatherDirectlyEarlier 23 = .ok (.iconst 0, 1) := by decide +kernel
theorem dX2_gatherDirectlyEarlier_24 : decode cX2_gatherDirectlyEarlier 24 = .ok (.istore_n 2, 1) := by decide +kernel
theorem dX2_gatherDirectlyEarlier_25 : decode cX2_gatherDirectlyEarlier 25 = .ok (.iload_n 2, 1) := by decide +kernel
theorem dX2_gatherDirectlyEarlier_26 : decode cX2_gatherDirectlyEarlier 26 = .ok (.aload_n 1, 1) := by decide +kernel
theorem dX2_gatherDirectlyEarlier_27 : decode cX2_gatherDirectlyEarlier 27 = .ok (.getfield 75, 3) := by decide +kernel
theorem dX2_gatherDirectlyEarlier_30 : decode cX2_gatherDirectlyEarlier 30 = .ok (.if_icmp .ge 54, 3) := by decide +kernel
theorem dX2_gatherDirectlyEarlier_33 : decode cX2_gatherDirectlyEarlier 33 = .ok (.aload_n 1, 1) := by decide +kernel
theorem dX2_gatherDirectlyEarlier_34 : decode cX2_gatherDirectlyEarlier 34 = .ok (.getfield 78, 3) := by decide +kernel
theorem dX2_gatherDirectlyEarlier_37 : decode cX2_gatherDirectlyEarlier 37 = .ok (.iload_n 2, 1) := by decide +kernel
theorem dX2_gatherDirectlyEarlier_38 : decode cX2_gatherDirectlyEarlier 38 = .ok (.iaload, 1) := by decide +kernel
theorem dX2_gatherDirectlyEarlier_39 : decode cX2_gatherDirectlyEarlier 39 = .ok (.iconst 4, 1) := by decide +kernel
theorem dX2_gatherDirectlyEarlier_40 : decode cX2_gatherDirectlyEarlier 40 = .ok (.if_icmp .eq 38, 3) := by decide +kernel
theorem dX2_gatherDirectlyEarlier_43 : decode cX2_gatherDirectlyEarlier 43 = .ok (.aload_n 0, 1) := by decide +kernel
theorem dX2_gatherDirectlyEarlier_44 : decode cX2_gatherDirectlyEarlier 44 = .ok (.getfield 9, 3) := by decide +kernel
theorem dX2_gatherDirectlyEarlier_47 : decode cX2_gatherDirectlyEarlier 47 = .ok (.aload_n 1, 1) := by decide +kernel
theorem dX2_gatherDirectlyEarlier_48 : decode cX2_gatherDirectlyEarlier 48 = .ok (.getfield 81, 3) := by decide +kernel
theorem dX2_gatherDirectlyEarlier_51 : decode cX2_gatherDirectlyEarlier 51 = .ok (.iload_n 2, 1) := by decide +kernel
theorem dX2_gatherDirectlyEarlier_52 : decode cX2_gatherDirectlyEarlier 52 = .ok (.iaload, 1) := by decide +kernel
theorem dX2_gatherDirectlyEarlier_53 : decode cX2_gatherDirectlyEarlier 53 = .ok (.iaload, 1) := by decide +kernel
theorem dX2_gatherDirectlyEarlier_54 : decode cX2_gatherDirectlyEarlier 54 = .ok (.istore_n 3, 1) := by decide +kernel
theorem dX2_gatherDirectlyEarlier_55 : decode cX2_gatherDirectlyEarlier 55 = .ok (.aload_n 0, 1) := by decide +kernel
theorem dX2_gatherDirectlyEarlier_56 : decode cX2_gatherDirectlyEarlier 56 = .ok (.getfield 19, 3) := by decide +kernel
theorem dX2_gatherDirectlyEarlier_59 : decode cX2_gatherDirectlyEarlier 59 = .ok (.iload_n 3, 1) := by decide +kernel
theorem dX2_gatherDirectlyEarlier_60 : decode cX2_gatherDirectlyEarlier 60 = .ok (.dup2, 1) := by decide +kernel
theorem dX2_gatherDirectlyEarlier_61 : decode cX2_gatherDirectlyEarlier 61 = .ok (.laload, 1) := by decide +kernel
theorem dX2_gatherDirectlyEarlier_62 : decode cX2_gatherDirectlyEarlier 62 = .ok (.aload_n 0, 1) := by decide +kernel
theorem dX2_gatherDirectlyEarlier_63 : decode cX2_gatherDirectlyEarlier 63 = .ok (.getfield 9, 3) := by decide +kernel
theorem dX2_gatherDirectlyEarlier_66 : decode cX2_gatherDirectlyEarlier 66 = .ok (.aload_n 1, 1) := by decide +kernel
theorem dX2_gatherDirectlyEarlier_67 : decode cX2_gatherDirectlyEarlier 67 = .ok (.getfield 84, 3) := by decide +kernel
theorem dX2_gatherDirectlyEarlier_70 : decode cX2_gatherDirectlyEarlier 70 = .ok (.iload_n 2, 1) := by decide +kernel
theorem dX2_gatherDirectlyEarlier_71 : decode cX2_gatherDirectlyEarlier 71 = .ok (.iaload, 1) := by decide +kernel
theorem dX2_gatherDirectlyEarlier_72 : decode cX2_gatherDirectlyEarlier 72 = .ok (.iaload, 1) := by decide +kernel
theorem dX2_gatherDirectlyEarlier_73 : decode cX2_gatherDirectlyEarlier 73 = .ok (.invokestatic 97, 3) := by decide +kernel
theorem dX2_gatherDirectlyEarlier_76 : decode cX2_gatherDirectlyEarlier 76 = .ok (.lor, 1) := by decide +kernel
theorem dX2_gatherDirectlyEarlier_77 : decode cX2_gatherDirectlyEarlier 77 = .ok (.lastore, 1) := by decide +kernel
theorem dX2_gatherDirectlyEarlier_78 : decode cX2_gatherDirectlyEarlier 78 = .ok (.iinc 2 1, 3) := by decide +kernel
theorem dX2_gatherDirectlyEarlier_81 : decode cX2_gatherDirectlyEarlier 81 = .ok (.goto (-56), 3) := by decide +kernel
theorem dX2_gatherDirectlyEarlier_84 : decode cX2_gatherDirectlyEarlier 84 = .ok (.return_, 1) := by decide +kernel
theorem dX2_gatherEarlier_0 : decode cX2_gatherEarlier 0 = .ok (.iconst 0, 1) := by decide +kernel
theorem dX2_gatherEarlier_1 : decode cX2_gatherEarlier 1 = .ok (.istore_n 1, 1) := by decide +kernel
theorem dX2_gatherEarlier_2 : decode cX2_gatherEarlier 2 = .ok (.iload_n 1, 1) := by decide +kernel
theorem dX2_gatherEarlier_3 : decode cX2_gatherEarlier 3 = .ok (.aload_n 0, 1) := by decide +kernel
theorem dX2_gatherEarlier_4 : decode cX2_gatherEarlier 4 = .ok (.getfield 44, 3) := by decide +kernel
theorem dX2_gatherEarlier_7 : decode cX2_gatherEarlier 7 = .ok (.if_icmp .ge 21, 3) := by decide +kernel
theorem dX2_gatherEarlier_10 : decode cX2_gatherEarlier 10 = .ok (.aload_n 0, 1) := by decide +kernel
theorem dX2_gatherEarlier_11 : decode cX2_gatherEarlier 11 = .ok (.getfield 22, 3) := by decide +kernel
theorem dX2_gatherEarlier_14 : decode cX2_gatherEarlier 14 = .ok (.iload_n 1, 1) := by decide +kernel
theorem dX2_gatherEarlier_15 : decode cX2_gatherEarlier 15 = .ok (.aload_n 0, 1) := by decide +kernel
theorem dX2_gatherEarlier_16 : decode cX2_gatherEarlier 16 = .ok (.getfield 19, 3) := by decide +kernel
theorem dX2_gatherEarlier_19 : decode cX2_gatherEarlier 19 = .ok (.iload_n 1, 1) := by decide +kernel
theorem dX2_gatherEarlier_20 : decode cX2_gatherEarlier 20 = .ok (.laload, 1) := by decide +kernel
theorem dX2_gatherEarlier_21 : decode cX2_gatherEarlier 21 = .ok (.lastore, 1) := by decide +kernel
theorem dX2_gatherEarlier_22 : decode cX2_gatherEarlier 22 = .ok (.iinc 1 1, 3) := by decide +kernel
theorem dX2_gatherEarlier_25 : decode cX2_gatherEarlier 25 = .ok (.goto (-23), 3) := by decide +kernel
theorem dX2_gatherEarlier_28 : decode cX2_gatherEarlier 28 = .ok (.iconst 0, 1) := by decide +kernel
theorem dX2_gatherEarlier_29 : decode cX2_gatherEarlier 29 = .ok (.istore_n 1, 1) := by decide +kernel
theorem dX2_gatherEarlier_30 : decode cX2_gatherEarlier 30 = .ok (.iload_n 1, 1) := by decide +kernel
theorem dX2_gatherEarlier_31 : decode cX2_gatherEarlier 31 = .ok (.aload_n 0, 1) := by decide +kernel
theorem dX2_gatherEarlier_32 : decode cX2_gatherEarlier 32 = .ok (.getfield 44, 3) := by decide +kernel
theorem dX2_gatherEarlier_35 : decode cX2_gatherEarlier 35 = .ok (.if_icmp .ge 53, 3) := by decide +kernel
theorem dX2_gatherEarlier_38 : decode cX2_gatherEarlier 38 = .ok (.iconst 0, 1) := by decide +kernel
theorem dX2_gatherEarlier_39 : decode cX2_gatherEarlier 39 = .ok (.istore_n 2, 1) := by decide +kernel
theorem dX2_gatherEarlier_40 : decode cX2_gatherEarlier 40 = .ok (.iload_n 2, 1) := by decide +kernel
theorem dX2_gatherEarlier_41 : decode cX2_gatherEarlier 41 = .ok (.aload_n 0, 1) := by decide +kernel
theorem dX2_gatherEarlier_42 : decode cX2_gatherEarlier 42 = .ok (.getfield 44, 3) := by decide +kernel
theorem dX2_gatherEarlier_45 : decode cX2_gatherEarlier 45 = .ok (.if_icmp .ge 37, 3) := by decide +kernel
theorem dX2_gatherEarlier_48 : decode cX2_gatherEarlier 48 = .ok (.aload_n 0, 1) := by decide +kernel
theorem dX2_gatherEarlier_49 : decode cX2_gatherEarlier 49 = .ok (.getfield 22, 3) := by decide +kernel
theorem dX2_gatherEarlier_52 : decode cX2_gatherEarlier 52 = .ok (.iload_n 2, 1) := by decide +kernel
theorem dX2_gatherEarlier_53 : decode cX2_gatherEarlier 53 = .ok (.laload, 1) := by decide +kernel
theorem dX2_gatherEarlier_54 : decode cX2_gatherEarlier 54 = .ok (.iload_n 1, 1) := by decide +kernel
theorem dX2_gatherEarlier_55 : decode cX2_gatherEarlier 55 = .ok (.invokestatic 40, 3) := by decide +kernel
theorem dX2_gatherEarlier_58 : decode cX2_gatherEarlier 58 = .ok (.ifCond .eq 18, 3) := by decide +kernel
theorem dX2_gatherEarlier_61 : decode cX2_gatherEarlier 61 = .ok (.aload_n 0, 1) := by decide +kernel
theorem dX2_gatherEarlier_62 : decode cX2_gatherEarlier 62 = .ok (.getfield 22, 3) := by decide +kernel
theorem dX2_gatherEarlier_65 : decode cX2_gatherEarlier 65 = .ok (.iload_n 2, 1) := by decide +kernel
theorem dX2_gatherEarlier_66 : decode cX2_gatherEarlier 66 = .ok (.dup2, 1) := by decide +kernel
theorem dX2_gatherEarlier_67 : decode cX2_gatherEarlier 67 = .ok (.laload, 1) := by decide +kernel
theorem dX2_gatherEarlier_68 : decode cX2_gatherEarlier 68 = .ok (.aload_n 0, 1) := by decide +kernel
theorem dX2_gatherEarlier_69 : decode cX2_gatherEarlier 69 = .ok (.getfield 22, 3) := by decide +kernel
theorem dX2_gatherEarlier_72 : decode cX2_gatherEarlier 72 = .ok (.iload_n 1, 1) := by decide +kernel
theorem dX2_gatherEarlier_73 : decode cX2_gatherEarlier 73 = .ok (.laload, 1) := by decide +kernel
theorem dX2_gatherEarlier_74 : decode cX2_gatherEarlier 74 = .ok (.lor, 1) := by decide +kernel
theorem dX2_gatherEarlier_75 : decode cX2_gatherEarlier 75 = .ok (.lastore, 1) := by decide +kernel
theorem dX2_gatherEarlier_76 : decode cX2_gatherEarlier 76 = .ok (.iinc 2 1, 3) := by decide +kernel
theorem dX2_gatherEarlier_79 : decode cX2_gatherEarlier 79 = .ok (.goto (-39), 3) := by decide +kernel
theorem dX2_gatherEarlier_82 : decode cX2_gatherEarlier 82 = .ok (.iinc 1 1, 3) := by decide +kernel
theorem dX2_gatherEarlier_85 : decode cX2_gatherEarlier 85 = .ok (.goto (-55), 3) := by decide +kernel
theorem dX2_gatherEarlier_88 : decode cX2_gatherEarlier 88 = .ok (.return_, 1) := by decide +kernel
theorem dX2_gatherLater_0 : decode cX2_gatherLater 0 = .ok (.iconst 0, 1) := by decide +kernel
theorem dX2_gatherLater_1 : decode cX2_gatherLater 1 = .ok (.istore_n 1, 1) := by decide +kernel
theorem dX2_gatherLater_2 : decode cX2_gatherLater 2 = .ok (.iload_n 1, 1) := by decide +kernel
theorem dX2_gatherLater_3 : decode cX2_gatherLater 3 = .ok (.aload_n 0, 1) := by decide +kernel
theorem dX2_gatherLater_4 : decode cX2_gatherLater 4 = .ok (.getfield 44, 3) := by decide +kernel
theorem dX2_gatherLater_7 : decode cX2_gatherLater 7 = .ok (.if_icmp .ge 58, 3) := by decide +kernel
theorem dX2_gatherLater_10 : decode cX2_gatherLater 10 = .ok (.aload_n 0, 1) := by decide +kernel
theorem dX2_gatherLater_11 : decode cX2_gatherLater 11 = .ok (.getfield 25, 3) := by decide +kernel
theorem dX2_gatherLater_14 : decode cX2_gatherLater 14 = .ok (.iload_n 1, 1) := by decide +kernel
theorem dX2_gatherLater_15 : decode cX2_gatherLater 15 = .ok (.lconst 0, 1) := by decide +kernel
theorem dX2_gatherLater_16 : decode cX2_gatherLater 16 = .ok (.lastore, 1) := by decide +kernel
theorem dX2_gatherLater_17 : decode cX2_gatherLater 17 = .ok (.iconst 0, 1) := by decide +kernel
theorem dX2_gatherLater_18 : decode cX2_gatherLater 18 = .ok (.istore_n 2, 1) := by decide +kernel
theorem dX2_gatherLater_19 : decode cX2_gatherLater 19 = .ok (.iload_n 2, 1) := by decide +kernel
theorem dX2_gatherLater_20 : decode cX2_gatherLater 20 = .ok (.aload_n 0, 1) := by decide +kernel
theorem dX2_gatherLater_21 : decode cX2_gatherLater 21 = .ok (.getfield 44, 3) := by decide +kernel
theorem dX2_gatherLater_24 : decode cX2_gatherLater 24 = .ok (.if_icmp .ge 35, 3) := by decide +kernel
theorem dX2_gatherLater_27 : decode cX2_gatherLater 27 = .ok (.aload_n 0, 1) := by decide +kernel
theorem dX2_gatherLater_28 : decode cX2_gatherLater 28 = .ok (.getfield 22, 3) := by decide +kernel
theorem dX2_gatherLater_31 : decode cX2_gatherLater 31 = .ok (.iload_n 2, 1) := by decide +kernel
theorem dX2_gatherLater_32 : decode cX2_gatherLater 32 = .ok (.laload, 1) := by decide +kernel
theorem dX2_gatherLater_33 : decode cX2_gatherLater 33 = .ok (.iload_n 1, 1) := by decide +kernel
theorem dX2_gatherLater_34 : decode cX2_gatherLater 34 = .ok (.invokestatic 40, 3) := by decide +kernel
theorem dX2_gatherLater_37 : decode cX2_gatherLater 37 = .ok (.ifCond .eq 16, 3) := by decide +kernel
theorem dX2_gatherLater_40 : decode cX2_gatherLater 40 = .ok (.aload_n 0, 1) := by decide +kernel
theorem dX2_gatherLater_41 : decode cX2_gatherLater 41 = .ok (.getfield 25, 3) := by decide +kernel
theorem dX2_gatherLater_44 : decode cX2_gatherLater 44 = .ok (.iload_n 1, 1) := by decide +kernel
theorem dX2_gatherLater_45 : decode cX2_gatherLater 45 = .ok (.dup2, 1) := by decide +kernel
theorem dX2_gatherLater_46 : decode cX2_gatherLater 46 = .ok (.laload, 1) := by decide +kernel
theorem dX2_gatherLater_47 : decode cX2_gatherLater 47 = .ok (.iload_n 2, 1) := by decide +kernel
theorem dX2_gatherLater_48 : decode cX2_gatherLater 48 = .ok (.invokestatic 97, 3) := by decide +kernel
theorem dX2_gatherLater_51 : decode cX2_gatherLater 51 = .ok (.lor, 1) := by decide +kernel
theorem dX2_gatherLater_52 : decode cX2_gatherLater 52 = .ok (.lastore, 1) := by decide +kernel
theorem dX2_gatherLater_53 : decode cX2_gatherLater 53 = .ok (.iinc 2 1, 3) := by decide +kernel
theorem dX2_gatherLater_56 : decode cX2_gatherLater 56 = .ok (.goto (-37), 3) := by decide +kernel
theorem dX2_gatherLater_59 : decode cX2_gatherLater 59 = .ok (.iinc 1 1, 3) := by decide +kernel
theorem dX2_gatherLater_62 : decode cX2_gatherLater 62 = .ok (.goto (-60), 3) := by decide +kernel
theorem dX2_gatherLater_65 : decode cX2_gatherLater 65 = .ok (.return_, 1) := by decide +kernel
theorem dX2_gatherLinks_0 : decode cX2_gatherLinks 0 = .ok (.iconst 0, 1) := by decide +kernel
theorem dX2_gatherLinks_1 : decode cX2_gatherLinks 1 = .ok (.istore_n 1, 1) := by decide +kernel
theorem dX2_gatherLinks_2 : decode cX2_gatherLinks 2 = .ok (.iload_n 1, 1) := by decide +kernel
theorem dX2_gatherLinks_3 : decode cX2_gatherLinks 3 = .ok (.aload_n 0, 1) := by decide +kernel
theorem dX2_gatherLinks_4 : decode cX2_gatherLinks 4 = .ok (.getfield 44, 3) := by decide +kernel
theorem dX2_gatherLinks_7 : decode cX2_gatherLinks 7 = .ok (.if_icmp .ge 71, 3) := by decide +kernel
theorem dX2_gatherLinks_10 : decode cX2_gatherLinks 10 = .ok (.lconst 0, 1) := by decide +kernel
theorem dX2_gatherLinks_11 : decode cX2_gatherLinks 11 = .ok (.lstore_n 2, 1) := by decide +kernel
theorem dX2_gatherLinks_12 : decode cX2_gatherLinks 12 = .ok (.iconst 0, 1) := by decide +kernel
theorem dX2_gatherLinks_13 : decode cX2_gatherLinks 13 = .ok (.istore 4, 2) := by decide +kernel
theorem dX2_gatherLinks_15 : decode cX2_gatherLinks 15 = .ok (.iload 4, 2) := by decide +kernel
theorem dX2_gatherLinks_17 : decode cX2_gatherLinks 17 = .ok (.aload_n 0, 1) := by decide +kernel
theorem dX2_gatherLinks_18 : decode cX2_gatherLinks 18 = .ok (.getfield 44, 3) := by decide +kernel
theorem dX2_gatherLinks_21 : decode cX2_gatherLinks 21 = .ok (.if_icmp .ge 33, 3) := by decide +kernel
theorem dX2_gatherLinks_24 : decode cX2_gatherLinks 24 = .ok (.aload_n 0, 1) := by decide +kernel
theorem dX2_gatherLinks_25 : decode cX2_gatherLinks 25 = .ok (.getfield 22, 3) := by decide +kernel
theorem dX2_gatherLinks_28 : decode cX2_gatherLinks 28 = .ok (.iload_n 1, 1) := by decide +kernel
theorem dX2_gatherLinks_29 : decode cX2_gatherLinks 29 = .ok (.laload, 1) := by decide +kernel
theorem dX2_gatherLinks_30 : decode cX2_gatherLinks 30 = .ok (.iload 4, 2) := by decide +kernel
theorem dX2_gatherLinks_32 : decode cX2_gatherLinks 32 = .ok (.invokestatic 40, 3) := by decide +kernel
theorem dX2_gatherLinks_35 : decode cX2_gatherLinks 35 = .ok (.ifCond .eq 13, 3) := by decide +kernel
theorem dX2_gatherLinks_38 : decode cX2_gatherLinks 38 = .ok (.lload_n 2, 1) := by decide +kernel
theorem dX2_gatherLinks_39 : decode cX2_gatherLinks 39 = .ok (.aload_n 0, 1) := by decide +kernel
theorem dX2_gatherLinks_40 : decode cX2_gatherLinks 40 = .ok (.getfield 22, 3) := by decide +kernel
theorem dX2_gatherLinks_43 : decode cX2_gatherLinks 43 = .ok (.iload 4, 2) := by decide +kernel
theorem dX2_gatherLinks_45 : decode cX2_gatherLinks 45 = .ok (.laload, 1) := by decide +kernel
theorem dX2_gatherLinks_46 : decode cX2_gatherLinks 46 = .ok (.lor, 1) := by decide +kernel
theorem dX2_gatherLinks_47 : decode cX2_gatherLinks 47 = .ok (.lstore_n 2, 1) := by decide +kernel
theorem dX2_gatherLinks_48 : decode cX2_gatherLinks 48 = .ok (.iinc 4 1, 3) := by decide +kernel
theorem dX2_gatherLinks_51 : decode cX2_gatherLinks 51 = .ok (.goto (-36), 3) := by decide +kernel
theorem dX2_gatherLinks_54 : decode cX2_gatherLinks 54 = .ok (.aload_n 0, 1) := by decide +kernel
theorem dX2_gatherLinks_55 : decode cX2_gatherLinks 55 = .ok (.getfield 28, 3) := by decide +kernel
theorem dX2_gatherLinks_58 : decode cX2_gatherLinks 58 = .ok (.iload_n 1, 1) := by decide +kernel
theorem dX2_gatherLinks_59 : decode cX2_gatherLinks 59 = .ok (.aload_n 0, 1) := by decide +kernel
theorem dX2_gatherLinks_60 : decode cX2_gatherLinks 60 = .ok (.getfield 19, 3) := by decide +kernel
theorem dX2_gatherLinks_63 : decode cX2_gatherLinks 63 = .ok (.iload_n 1, 1) := by decide +kernel
theorem dX2_gatherLinks_64 : decode cX2_gatherLinks 64 = .ok (.laload, 1) := by decide +kernel
theorem dX2_gatherLinks_65 : decode cX2_gatherLinks 65 = .ok (.lload_n 2, 1) := by decide +kernel
theorem dX2_gatherLinks_66 : decode cX2_gatherLinks 66 = .ok (.ldc2_w 101, 3) := by decide +kernel
theorem dX2_gatherLinks_69 : decode cX2_gatherLinks 69 = .ok (.lxor, 1) := by decide +kernel
theorem dX2_gatherLinks_70 : decode cX2_gatherLinks 70 = .ok (.land, 1) := by decide +kernel
theorem dX2_gatherLinks_71 : decode cX2_gatherLinks 71 = .ok (.lastore, 1) := by decide +kernel
theorem dX2_gatherLinks_72 : decode cX2_gatherLinks 72 = .ok (.iinc 1 1, 3) := by decide +kernel
theorem dX2_gatherLinks_75 : decode cX2_gatherLinks 75 = .ok (.goto (-73), 3) := by decide +kernel
theorem dX2_gatherLinks_78 : decode cX2_gatherLinks 78 = .ok (.return_, 1) := by decide +kernel
theorem dX2_rank_0 : decode cX2_rank 0 = .ok (.lconst 0, 1) := by decide +kernel
theorem dX2_rank_1 : decode cX2_rank 1 = .ok (.lstore 5, 2) := by decide +kernel
theorem dX2_rank_3 : decode cX2_rank 3 = .ok (.iconst 0, 1) := by decide +kernel
theorem dX2_rank_4 : decode cX2_rank 4 = .ok (.istore 7, 2) := by decide +kernel
theorem dX2_rank_6 : decode cX2_rank 6 = .ok (.iload 7, 2) := by decide +kernel
theorem dX2_rank_8 : decode cX2_rank 8 = .ok (.bipush 40, 2) := by decide +kernel
theorem dX2_rank_10 : decode cX2_rank 10 = .ok (.if_icmp .ge 83, 3) := by decide +kernel
theorem dX2_rank_13 : decode cX2_rank 13 = .ok (.lload 5, 2) := by decide +kernel
theorem dX2_rank_15 : decode cX2_rank 15 = .ok (.lload_n 1, 1) := by decide +kernel
theorem dX2_rank_16 : decode cX2_rank 16 = .ok (.lcmp, 1) := by decide +kernel
theorem dX2_rank_17 : decode cX2_rank 17 = .ok (.ifCond .eq 76, 3) := by decide +kernel
theorem dX2_rank_20 : decode cX2_rank 20 = .ok (.lload_n 1, 1) := by decide +kernel
theorem dX2_rank_21 : decode cX2_rank 21 = .ok (.lload 5, 2) := by decide +kernel
theorem dX2_rank_23 : decode cX2_rank 23 = .ok (.ldc2_w 101, 3) := by decide +kernel
theorem dX2_rank_26 : decode cX2_rank 26 = .ok (.lxor, 1) := by decide +kernel
theorem dX2_rank_27 : decode cX2_rank 27 = .ok (.land, 1) := by decide +kernel
theorem dX2_rank_28 : decode cX2_rank 28 = .ok (.lstore 8, 2) := by decide +kernel
theorem dX2_rank_30 : decode cX2_rank 30 = .ok (.iconst 0, 1) := by decide +kernel
theorem dX2_rank_31 : decode cX2_rank 31 = .ok (.istore 10, 2) := by decide +kernel
theorem dX2_rank_33 : decode cX2_rank 33 = .ok (.iload 10, 2) := by decide +kernel
theorem dX2_rank_35 : decode cX2_rank 35 = .ok (.aload_n 0, 1) := by decide +kernel
theorem dX2_rank_36 : decode cX2_rank 36 = .ok (.getfield 44, 3) := by decide +kernel
theorem dX2_rank_39 : decode cX2_rank 39 = .ok (.if_icmp .ge 48, 3) := by decide +kernel
theorem dX2_rank_42 : decode cX2_rank 42 = .ok (.lload 8, 2) := by decide +kernel
theorem dX2_rank_44 : decode cX2_rank 44 = .ok (.iload 10, 2) := by decide +kernel
theorem dX2_rank_46 : decode cX2_rank 46 = .ok (.invokestatic 40, 3) := by decide +kernel
theorem dX2_rank_49 : decode cX2_rank 49 = .ok (.ifCond .eq 32, 3) := by decide +kernel
theorem dX2_rank_52 : decode cX2_rank 52 = .ok (.aload_n 3, 1) := by decide +kernel
theorem dX2_rank_53 : decode cX2_rank 53 = .ok (.iload 10, 2) := by decide +kernel
theorem dX2_rank_55 : decode cX2_rank 55 = .ok (.laload, 1) := by decide +kernel
theorem dX2_rank_56 : decode cX2_rank 56 = .ok (.lload 8, 2) := by decide +kernel
theorem dX2_rank_58 : decode cX2_rank 58 = .ok (.land, 1) := by decide +kernel
theorem dX2_rank_59 : decode cX2_rank 59 = .ok (.lconst 0, 1) := by decide +kernel
theorem dX2_rank_60 : decode cX2_rank 60 = .ok (.lcmp, 1) := by decide +kernel
theorem dX2_rank_61 : decode cX2_rank 61 = .ok (.ifCond .ne 20, 3) := by decide +kernel
theorem dX2_rank_64 : decode cX2_rank 64 = .ok (.aload 4, 2) := by decide +kernel
theorem dX2_rank_66 : decode cX2_rank 66 = .ok (.iload 10, 2) := by decide +kernel
theorem dX2_rank_68 : decode cX2_rank 68 = .ok (.iload 7, 2) := by decide +kernel
theorem dX2_rank_70 : decode cX2_rank 70 = .ok (.iastore, 1) := by decide +kernel
theorem dX2_rank_71 : decode cX2_rank 71 = .ok (.lload 5, 2) := by decide +kernel
theorem dX2_rank_73 : decode cX2_rank 73 = .ok (.iload 10, 2) := by decide +kernel
theorem dX2_rank_75 : decode cX2_rank 75 = .ok (.invokestatic 97, 3) := by decide +kernel
theorem dX2_rank_78 : decode cX2_rank 78 = .ok (.lor, 1) := by decide +kernel
theorem dX2_rank_79 : decode cX2_rank 79 = .ok (.lstore 5, 2) := by decide +kernel
theorem dX2_rank_81 : decode cX2_rank 81 = .ok (.iinc 10 1, 3) := by decide +kernel
theorem dX2_rank_84 : decode cX2_rank 84 = .ok (.goto (-51), 3) := by decide +kernel
theorem dX2_rank_87 : decode cX2_rank 87 = .ok (.iinc 7 1, 3) := by decide +kernel
theorem dX2_rank_90 : decode cX2_rank 90 = .ok (.goto (-84), 3) := by decide +kernel
theorem dX2_rank_93 : decode cX2_rank 93 = .ok (.return_, 1) := by decide +kernel
theorem dX2_linkCount_0 : decode cX2_linkCount 0 = .ok (.iconst 0, 1) := by decide +kernel
theorem dX2_linkCount_1 : decode cX2_linkCount 1 = .ok (.istore_n 1, 1) := by decide +kernel
theorem dX2_linkCount_2 : decode cX2_linkCount 2 = .ok (.iconst 0, 1) := by decide +kernel
theorem dX2_linkCount_3 : decode cX2_linkCount 3 = .ok (.istore_n 2, 1) := by decide +kernel
theorem dX2_linkCount_4 : decode cX2_linkCount 4 = .ok (.iload_n 2, 1) := by decide +kernel
theorem dX2_linkCount_5 : decode cX2_linkCount 5 = .ok (.aload_n 0, 1) := by decide +kernel
theorem dX2_linkCount_6 : decode cX2_linkCount 6 = .ok (.getfield 44, 3) := by decide +kernel
theorem dX2_linkCount_9 : decode cX2_linkCount 9 = .ok (.if_icmp .ge 21, 3) := by decide +kernel
theorem dX2_linkCount_12 : decode cX2_linkCount 12 = .ok (.iload_n 1, 1) := by decide +kernel
theorem dX2_linkCount_13 : decode cX2_linkCount 13 = .ok (.aload_n 0, 1) := by decide +kernel
theorem dX2_linkCount_14 : decode cX2_linkCount 14 = .ok (.getfield 28, 3) := by decide +kernel
theorem dX2_linkCount_17 : decode cX2_linkCount 17 = .ok (.iload_n 2, 1) := by decide +kernel
theorem dX2_linkCount_18 : decode cX2_linkCount 18 = .ok (.laload, 1) := by decide +kernel
theorem dX2_linkCount_19 : decode cX2_linkCount 19 = .ok (.invokestatic 103, 3) := by decide +kernel
theorem dX2_linkCount_22 : decode cX2_linkCount 22 = .ok (.iadd, 1) := by decide +kernel
theorem dX2_linkCount_23 : decode cX2_linkCount 23 = .ok (.istore_n 1, 1) := by decide +kernel
theorem dX2_linkCount_24 : decode cX2_linkCount 24 = .ok (.iinc 2 1, 3) := by decide +kernel
theorem dX2_linkCount_27 : decode cX2_linkCount 27 = .ok (.goto (-23), 3) := by decide +kernel
theorem dX2_linkCount_30 : decode cX2_linkCount 30 = .ok (.iload_n 1, 1) := by decide +kernel
theorem dX2_linkCount_31 : decode cX2_linkCount 31 = .ok (.ireturn, 1) := by decide +kernel
theorem dX2_levelCount_0 : decode cX2_levelCount 0 = .ok (.iconst 0, 1) := by decide +kernel
theorem dX2_levelCount_1 : decode cX2_levelCount 1 = .ok (.istore_n 1, 1) := by decide +kernel
theorem dX2_levelCount_2 : decode cX2_levelCount 2 = .ok (.iconst 0, 1) := by decide +kernel
theorem dX2_levelCount_3 : decode cX2_levelCount 3 = .ok (.istore_n 2, 1) := by decide +kernel
theorem dX2_levelCount_4 : decode cX2_levelCount 4 = .ok (.iload_n 2, 1) := by decide +kernel
theorem dX2_levelCount_5 : decode cX2_levelCount 5 = .ok (.aload_n 0, 1) := by decide +kernel
theorem dX2_levelCount_6 : decode cX2_levelCount 6 = .ok (.getfield 44, 3) := by decide +kernel
theorem dX2_levelCount_9 : decode cX2_levelCount 9 = .ok (.if_icmp .ge 33, 3) := by decide +kernel
theorem dX2_levelCount_12 : decode cX2_levelCount 12 = .ok (.aload_n 0, 1) := by decide +kernel
theorem dX2_levelCount_13 : decode cX2_levelCount 13 = .ok (.getfield 67, 3) := by decide +kernel
theorem dX2_levelCount_16 : decode cX2_levelCount 16 = .ok (.iload_n 2, 1) := by decide +kernel
theorem dX2_levelCount_17 : decode cX2_levelCount 17 = .ok (.invokestatic 40, 3) := by decide +kernel
theorem dX2_levelCount_20 : decode cX2_levelCount 20 = .ok (.ifCond .eq 16, 3) := by decide +kernel
theorem dX2_levelCount_23 : decode cX2_levelCount 23 = .ok (.iload_n 1, 1) := by decide +kernel
theorem dX2_levelCount_24 : decode cX2_levelCount 24 = .ok (.aload_n 0, 1) := by decide +kernel
theorem dX2_levelCount_25 : decode cX2_levelCount 25 = .ok (.getfield 31, 3) := by decide +kernel
theorem dX2_levelCount_28 : decode cX2_levelCount 28 = .ok (.iload_n 2, 1) := by decide +kernel
theorem dX2_levelCount_29 : decode cX2_levelCount 29 = .ok (.iaload, 1) := by decide +kernel
theorem dX2_levelCount_30 : decode cX2_levelCount 30 = .ok (.iconst 1, 1) := by decide +kernel
theorem dX2_levelCount_31 : decode cX2_levelCount 31 = .ok (.iadd, 1) := by decide +kernel
theorem dX2_levelCount_32 : decode cX2_levelCount 32 = .ok (.invokestatic 109, 3) := by decide +kernel
theorem dX2_levelCount_35 : decode cX2_levelCount 35 = .ok (.istore_n 1, 1) := by decide +kernel
theorem dX2_levelCount_36 : decode cX2_levelCount 36 = .ok (.iinc 2 1, 3) := by decide +kernel
theorem dX2_levelCount_39 : decode cX2_levelCount 39 = .ok (.goto (-35), 3) := by decide +kernel
theorem dX2_levelCount_42 : decode cX2_levelCount 42 = .ok (.iload_n 1, 1) := by decide +kernel
theorem dX2_levelCount_43 : decode cX2_levelCount 43 = .ok (.ireturn, 1) := by decide +kernel
theorem dX2_bodyOnWay_0 : decode cX2_bodyOnWay 0 = .ok (.aload_n 0, 1) := by decide +kernel
theorem dX2_bodyOnWay_1 : decode cX2_bodyOnWay 1 = .ok (.getfield 25, 3) := by decide +kernel
theorem dX2_bodyOnWay_4 : decode cX2_bodyOnWay 4 = .ok (.iload_n 2, 1) := by decide +kernel
theorem dX2_bodyOnWay_5 : decode cX2_bodyOnWay 5 = .ok (.laload, 1) := by decide +kernel
theorem dX2_bodyOnWay_6 : decode cX2_bodyOnWay 6 = .ok (.iload_n 2, 1) := by decide +kernel
theorem dX2_bodyOnWay_7 : decode cX2_bodyOnWay 7 = .ok (.invokestatic 97, 3) := by decide +kernel
theorem dX2_bodyOnWay_10 : decode cX2_bodyOnWay 10 = .ok (.lor, 1) := by decide +kernel
theorem dX2_bodyOnWay_11 : decode cX2_bodyOnWay 11 = .ok (.lstore 4, 2) := by decide +kernel
theorem dX2_bodyOnWay_13 : decode cX2_bodyOnWay 13 = .ok (.lload 4, 2) := by decide +kernel
theorem dX2_bodyOnWay_15 : decode cX2_bodyOnWay 15 = .ok (.iload_n 1, 1) := by decide +kernel
theorem dX2_bodyOnWay_16 : decode cX2_bodyOnWay 16 = .ok (.invokestatic 40, 3) := by decide +kernel
theorem dX2_bodyOnWay_19 : decode cX2_bodyOnWay 19 = .ok (.ifCond .ne 5, 3) := by decide +kernel
theorem dX2_bodyOnWay_22 : decode cX2_bodyOnWay 22 = .ok (.iconst (-1), 1) := by decide +kernel
theorem dX2_bodyOnWay_23 : decode cX2_bodyOnWay 23 = .ok (.ireturn, 1) := by decide +kernel
theorem dX2_bodyOnWay_24 : decode cX2_bodyOnWay 24 = .ok (.aload_n 0, 1) := by decide +kernel
theorem dX2_bodyOnWay_25 : decode cX2_bodyOnWay 25 = .ok (.lload 4, 2) := by decide +kernel
theorem dX2_bodyOnWay_27 : decode cX2_bodyOnWay 27 = .ok (.aload_n 0, 1) := by decide +kernel
theorem dX2_bodyOnWay_28 : decode cX2_bodyOnWay 28 = .ok (.getfield 22, 3) := by decide +kernel
theorem dX2_bodyOnWay_31 : decode cX2_bodyOnWay 31 = .ok (.aload_n 0, 1) := by decide +kernel
theorem dX2_bodyOnWay_32 : decode cX2_bodyOnWay 32 = .ok (.getfield 37, 3) := by decide +kernel
theorem dX2_bodyOnWay_35 : decode cX2_bodyOnWay 35 = .ok (.invokevirtual 71, 3) := by decide +kernel
theorem dX2_bodyOnWay_38 : decode cX2_bodyOnWay 38 = .ok (.iload_n 1, 1) := by decide +kernel
theorem dX2_bodyOnWay_39 : decode cX2_bodyOnWay 39 = .ok (.istore 6, 2) := by decide +kernel
theorem dX2_bodyOnWay_41 : decode cX2_bodyOnWay 41 = .ok (.iconst 0, 1) := by decide +kernel
theorem dX2_bodyOnWay_42 : decode cX2_bodyOnWay 42 = .ok (.istore 7, 2) := by decide +kernel
theorem dX2_bodyOnWay_44 : decode cX2_bodyOnWay 44 = .ok (.iload 7, 2) := by decide +kernel
theorem dX2_bodyOnWay_46 : decode cX2_bodyOnWay 46 = .ok (.iload_n 3, 1) := by decide +kernel
theorem dX2_bodyOnWay_47 : decode cX2_bodyOnWay 47 = .ok (.if_icmp .ge 32, 3) := by decide +kernel
theorem dX2_bodyOnWay_50 : decode cX2_bodyOnWay 50 = .ok (.iload 6, 2) := by decide +kernel
theorem dX2_bodyOnWay_52 : decode cX2_bodyOnWay 52 = .ok (.ifCond .lt 27, 3) := by decide +kernel
theorem dX2_bodyOnWay_55 : decode cX2_bodyOnWay 55 = .ok (.aload_n 0, 1) := by decide +kernel
theorem dX2_bodyOnWay_56 : decode cX2_bodyOnWay 56 = .ok (.iload 6, 2) := by decide +kernel
theorem dX2_bodyOnWay_58 : decode cX2_bodyOnWay 58 = .ok (.aload_n 0, 1) := by decide +kernel
theorem dX2_bodyOnWay_59 : decode cX2_bodyOnWay 59 = .ok (.getfield 28, 3) := by decide +kernel
theorem dX2_bodyOnWay_62 : decode cX2_bodyOnWay 62 = .ok (.iload 6, 2) := by decide +kernel
theorem dX2_bodyOnWay_64 : decode cX2_bodyOnWay 64 = .ok (.laload, 1) := by decide +kernel
theorem dX2_bodyOnWay_65 : decode cX2_bodyOnWay 65 = .ok (.lload 4, 2) := by decide +kernel
theorem dX2_bodyOnWay_67 : decode cX2_bodyOnWay 67 = .ok (.land, 1) := by decide +kernel
theorem dX2_bodyOnWay_68 : decode cX2_bodyOnWay 68 = .ok (.invokevirtual 112, 3) := by decide +kernel
theorem dX2_bodyOnWay_71 : decode cX2_bodyOnWay 71 = .ok (.istore 6, 2) := by decide +kernel
theorem dX2_bodyOnWay_73 : decode cX2_bodyOnWay 73 = .ok (.iinc 7 1, 3) := by decide +kernel
theorem dX2_bodyOnWay_76 : decode cX2_bodyOnWay 76 = .ok (.goto (-32), 3) := by decide +kernel
theorem dX2_bodyOnWay_79 : decode cX2_bodyOnWay 79 = .ok (.iload 6, 2) := by decide +kernel
theorem dX2_bodyOnWay_81 : decode cX2_bodyOnWay 81 = .ok (.ireturn, 1) := by decide +kernel
theorem dX2_nextOnWay_0 : decode cX2_nextOnWay 0 = .ok (.iconst 0, 1) := by decide +kernel
theorem dX2_nextOnWay_1 : decode cX2_nextOnWay 1 = .ok (.istore 4, 2) := by decide +kernel
theorem dX2_nextOnWay_3 : decode cX2_nextOnWay 3 = .ok (.iload 4, 2) := by decide +kernel
theorem dX2_nextOnWay_5 : decode cX2_nextOnWay 5 = .ok (.aload_n 0, 1) := by decide +kernel
theorem dX2_nextOnWay_6 : decode cX2_nextOnWay 6 = .ok (.getfield 44, 3) := by decide +kernel
theorem dX2_nextOnWay_9 : decode cX2_nextOnWay 9 = .ok (.if_icmp .ge 39, 3) := by decide +kernel
theorem dX2_nextOnWay_12 : decode cX2_nextOnWay 12 = .ok (.lload_n 2, 1) := by decide +kernel
theorem dX2_nextOnWay_13 : decode cX2_nextOnWay 13 = .ok (.iload 4, 2) := by decide +kernel
theorem dX2_nextOnWay_15 : decode cX2_nextOnWay 15 = .ok (.invokestatic 40, 3) := by decide +kernel
theorem dX2_nextOnWay_18 : decode cX2_nextOnWay 18 = .ok (.ifCond .eq 24, 3) := by decide +kernel
theorem dX2_nextOnWay_21 : decode cX2_nextOnWay 21 = .ok (.aload_n 0, 1) := by decide +kernel
theorem dX2_nextOnWay_22 : decode cX2_nextOnWay 22 = .ok (.getfield 37, 3) := by decide +kernel
theorem dX2_nextOnWay_25 : decode cX2_nextOnWay 25 = .ok (.iload 4, 2) := by decide +kernel
theorem dX2_nextOnWay_27 : decode cX2_nextOnWay 27 = .ok (.iaload, 1) := by decide +kernel
theorem dX2_nextOnWay_28 : decode cX2_nextOnWay 28 = .ok (.aload_n 0, 1) := by decide +kernel
theorem dX2_nextOnWay_29 : decode cX2_nextOnWay 29 = .ok (.getfield 37, 3) := by decide +kernel
theorem dX2_nextOnWay_32 : decode cX2_nextOnWay 32 = .ok (.iload_n 1, 1) := by decide +kernel
theorem dX2_nextOnWay_33 : decode cX2_nextOnWay 33 = .ok (.iaload, 1) := by decide +kernel
theorem dX2_nextOnWay_34 : decode cX2_nextOnWay 34 = .ok (.iconst 1, 1) := by decide +kernel
theorem dX2_nextOnWay_35 : decode cX2_nextOnWay 35 = .ok (.isub, 1) := by decide +kernel
theorem dX2_nextOnWay_36 : decode cX2_nextOnWay 36 = .ok (.if_icmp .ne 6, 3) := by decide +kernel
theorem dX2_nextOnWay_39 : decode cX2_nextOnWay 39 = .ok (.iload 4, 2) := by decide +kernel
theorem dX2_nextOnWay_41 : decode cX2_nextOnWay 41 = .ok (.ireturn, 1) := by decide +kernel
theorem dX2_nextOnWay_42 : decode cX2_nextOnWay 42 = .ok (.iinc 4 1, 3) := by decide +kernel
theorem dX2_nextOnWay_45 : decode cX2_nextOnWay 45 = .ok (.goto (-42), 3) := by decide +kernel
theorem dX2_nextOnWay_48 : decode cX2_nextOnWay 48 = .ok (.iconst (-1), 1) := by decide +kernel
theorem dX2_nextOnWay_49 : decode cX2_nextOnWay 49 = .ok (.ireturn, 1) := by decide +kernel
theorem dX3_init_0 : decode cX3_init 0 = .ok (.aload_n 0, 1) := by decide +kernel
theorem dX3_init_1 : decode cX3_init 1 = .ok (.invokespecial 3, 3) := by decide +kernel
theorem dX3_init_4 : decode cX3_init 4 = .ok (.aload_n 0, 1) := by decide +kernel
theorem dX3_init_5 : decode cX3_init 5 = .ok (.bipush 80, 2) := by decide +kernel
theorem dX3_init_7 : decode cX3_init 7 = .ok (.newarray .int, 2) := by decide +kernel
theorem dX3_init_9 : decode cX3_init 9 = .ok (.putfield 9, 3) := by decide +kernel
theorem dX3_init_12 : decode cX3_init 12 = .ok (.aload_n 0, 1) := by decide +kernel
theorem dX3_init_13 : decode cX3_init 13 = .ok (.bipush 80, 2) := by decide +kernel
theorem dX3_init_15 : decode cX3_init 15 = .ok (.newarray .int, 2) := by decide +kernel
theorem dX3_init_17 : decode cX3_init 17 = .ok (.putfield 15, 3) := by decide +kernel
theorem dX3_init_20 : decode cX3_init 20 = .ok (.aload_n 0, 1) := by decide +kernel
theorem dX3_init_21 : decode cX3_init 21 = .ok (.bipush 80, 2) := by decide +kernel
theorem dX3_init_23 : decode cX3_init 23 = .ok (.newarray .int, 2) := by decide +kernel
theorem dX3_init_25 : decode cX3_init 25 = .ok (.putfield 18, 3) := by decide +kernel
theorem dX3_init_28 : decode cX3_init 28 = .ok (.return_, 1) := by decide +kernel
theorem dX3_append_0 : decode cX3_append 0 = .ok (.aload_n 0, 1) := by decide +kernel
theorem dX3_append_1 : decode cX3_append 1 = .ok (.getfield 9, 3) := by decide +kernel
theorem dX3_append_4 : decode cX3_append 4 = .ok (.aload_n 0, 1) := by decide +kernel
theorem dX3_append_5 : decode cX3_append 5 = .ok (.getfield 21, 3) := by decide +kernel
theorem dX3_append_8 : decode cX3_append 8 = .ok (.iload_n 1, 1) := by decide +kernel
theorem dX3_append_9 : decode cX3_append 9 = .ok (.iastore, 1) := by decide +kernel
theorem dX3_append_10 : decode cX3_append 10 = .ok (.aload_n 0, 1) := by decide +kernel
theorem dX3_append_11 : decode cX3_append 11 = .ok (.getfield 15, 3) := by decide +kernel
theorem dX3_append_14 : decode cX3_append 14 = .ok (.aload_n 0, 1) := by decide +kernel
theorem dX3_append_15 : decode cX3_append 15 = .ok (.getfield 21, 3) := by decide +kernel
theorem dX3_append_18 : decode cX3_append 18 = .ok (.iload_n 2, 1) := by decide +kernel
theorem dX3_append_19 : decode cX3_append 19 = .ok (.iastore, 1) := by decide +kernel
theorem dX3_append_20 : decode cX3_append 20 = .ok (.aload_n 0, 1) := by decide +kernel
theorem dX3_append_21 : decode cX3_append 21 = .ok (.getfield 18, 3) := by decide +kernel
theorem dX3_append_24 : decode cX3_append 24 = .ok (.aload_n 0, 1) := by decide +kernel
theorem dX3_append_25 : decode cX3_append 25 = .ok (.getfield 21, 3) := by decide +kernel
theorem dX3_append_28 : decode cX3_append 28 = .ok (.iload_n 3, 1) := by decide +kernel
theorem dX3_append_29 : decode cX3_append 29 = .ok (.iastore, 1) := by decide +kernel
theorem dX3_append_30 : decode cX3_append 30 = .ok (.aload_n 0, 1) := by decide +kernel
theorem dX3_append_31 : decode cX3_append 31 = .ok (.dup, 1) := by decide +kernel
theorem dX3_append_32 : decode cX3_append 32 = .ok (.getfield 21, 3) := by decide +kernel
theorem dX3_append_35 : decode cX3_append 35 = .ok (.iconst 1, 1) := by decide +kernel
theorem dX3_append_36 : decode cX3_append 36 = .ok (.iadd, 1) := by decide +kernel
theorem dX3_append_37 : decode cX3_append 37 = .ok (.putfield 21, 3) := by decide +kernel
theorem dX3_append_40 : decode cX3_append 40 = .ok (.return_, 1) := by decide +kernel
theorem dX3_remove_0 : decode cX3_remove 0 = .ok (.iload_n 1, 1) := by decide +kernel
theorem dX3_remove_1 : decode cX3_remove 1 = .ok (.iconst 1, 1) := by decide +kernel
theorem dX3_remove_2 : decode cX3_remove 2 = .ok (.iadd, 1) := by decide +kernel
theorem dX3_remove_3 : decode cX3_remove 3 = .ok (.istore_n 2, 1) := by decide +kernel
theorem dX3_remove_4 : decode cX3_remove 4 = .ok (.iload_n 2, 1) := by decide +kernel
theorem dX3_remove_5 : decode cX3_remove 5 = .ok (.aload_n 0, 1) := by decide +kernel
theorem dX3_remove_6 : decode cX3_remove 6 = .ok (.getfield 21, 3) := by decide +kernel
theorem dX3_remove_9 : decode cX3_remove 9 = .ok (.if_icmp .ge 51, 3) := by decide +kernel
theorem dX3_remove_12 : decode cX3_remove 12 = .ok (.aload_n 0, 1) := by decide +kernel
theorem dX3_remove_13 : decode cX3_remove 13 = .ok (.getfield 9, 3) := by decide +kernel
theorem dX3_remove_16 : decode cX3_remove 16 = .ok (.iload_n 2, 1) := by decide +kernel
theorem dX3_remove_17 : decode cX3_remove 17 = .ok (.iconst 1, 1) := by decide +kernel
theorem dX3_remove_18 : decode cX3_remove 18 = .ok (.isub, 1) := by decide +kernel
theorem dX3_remove_19 : decode cX3_remove 19 = .ok (.aload_n 0, 1) := by decide +kernel
theorem dX3_remove_20 : decode cX3_remove 20 = .ok (.getfield 9, 3) := by decide +kernel
theorem dX3_remove_23 : decode cX3_remove 23 = .ok (.iload_n 2, 1) := by decide +kernel
theorem dX3_remove_24 : decode cX3_remove 24 = .ok (.iaload, 1) := by decide +kernel
theorem dX3_remove_25 : decode cX3_remove 25 = .ok (.iastore, 1) := by decide +kernel
theorem dX3_remove_26 : decode cX3_remove 26 = .ok (.aload_n 0, 1) := by decide +kernel
theorem dX3_remove_27 : decode cX3_remove 27 = .ok (.getfield 15, 3) := by decide +kernel
theorem dX3_remove_30 : decode cX3_remove 30 = .ok (.iload_n 2, 1) := by decide +kernel
theorem dX3_remove_31 : decode cX3_remove 31 = .ok (.iconst 1, 1) := by decide +kernel
theorem dX3_remove_32 : decode cX3_remove 32 = .ok (.isub, 1) := by decide +kernel
theorem dX3_remove_33 : decode cX3_remove 33 = .ok (.aload_n 0, 1) := by decide +kernel
theorem dX3_remove_34 : decode cX3_remove 34 = .ok (.getfield 15, 3) := by decide +kernel
theorem dX3_remove_37 : decode cX3_remove 37 = .ok (.iload_n 2, 1) := by decide +kernel
theorem dX3_remove_38 : decode cX3_remove 38 = .ok (.iaload, 1) := by decide +kernel
theorem dX3_remove_39 : decode cX3_remove 39 = .ok (.iastore, 1) := by decide +kernel
theorem dX3_remove_40 : decode cX3_remove 40 = .ok (.aload_n 0, 1) := by decide +kernel
theorem dX3_remove_41 : decode cX3_remove 41 = .ok (.getfield 18, 3) := by decide +kernel
theorem dX3_remove_44 : decode cX3_remove 44 = .ok (.iload_n 2, 1) := by decide +kernel
theorem dX3_remove_45 : decode cX3_remove 45 = .ok (.iconst 1, 1) := by decide +kernel
theorem dX3_remove_46 : decode cX3_remove 46 = .ok (.isub, 1) := by decide +kernel
theorem dX3_remove_47 : decode cX3_remove 47 = .ok (.aload_n 0, 1) := by decide +kernel
theorem dX3_remove_48 : decode cX3_remove 48 = .ok (.getfield 18, 3) := by decide +kernel
theorem dX3_remove_51 : decode cX3_remove 51 = .ok (.iload_n 2, 1) := by decide +kernel
theorem dX3_remove_52 : decode cX3_remove 52 = .ok (.iaload, 1) := by decide +kernel
theorem dX3_remove_53 : decode cX3_remove 53 = .ok (.iastore, 1) := by decide +kernel
theorem dX3_remove_54 : decode cX3_remove 54 = .ok (.iinc 2 1, 3) := by decide +kernel
theorem dX3_remove_57 : decode cX3_remove 57 = .ok (.goto (-53), 3) := by decide +kernel
theorem dX3_remove_60 : decode cX3_remove 60 = .ok (.aload_n 0, 1) := by decide +kernel
theorem dX3_remove_61 : decode cX3_remove 61 = .ok (.dup, 1) := by decide +kernel
theorem dX3_remove_62 : decode cX3_remove 62 = .ok (.getfield 21, 3) := by decide +kernel
theorem dX3_remove_65 : decode cX3_remove 65 = .ok (.iconst 1, 1) := by decide +kernel
theorem dX3_remove_66 : decode cX3_remove 66 = .ok (.isub, 1) := by decide +kernel
theorem dX3_remove_67 : decode cX3_remove 67 = .ok (.putfield 21, 3) := by decide +kernel
theorem dX3_remove_70 : decode cX3_remove 70 = .ok (.return_, 1) := by decide +kernel
theorem dX3_isTold_0 : decode cX3_isTold 0 = .ok (.iconst 0, 1) := by decide +kernel
theorem dX3_isTold_1 : decode cX3_isTold 1 = .ok (.istore 4, 2) := by decide +kernel
theorem dX3_isTold_3 : decode cX3_isTold 3 = .ok (.iload 4, 2) := by decide +kernel
theorem dX3_isTold_5 : decode cX3_isTold 5 = .ok (.aload_n 0, 1) := by decide +kernel
theorem dX3_isTold_6 : decode cX3_isTold 6 = .ok (.getfield 21, 3) := by decide +kernel
theorem dX3_isTold_9 : decode cX3_isTold 9 = .ok (.if_icmp .ge 95, 3) := by decide +kernel
theorem dX3_isTold_12 : decode cX3_isTold 12 = .ok (.aload_n 0, 1) := by decide +kernel
theorem dX3_isTold_13 : decode cX3_isTold 13 = .ok (.getfield 9, 3) := by decide +kernel
theorem dX3_isTold_16 : decode cX3_isTold 16 = .ok (.iload 4, 2) := by decide +kernel
theorem dX3_isTold_18 : decode cX3_isTold 18 = .ok (.iaload, 1) := by decide +kernel
theorem dX3_isTold_19 : decode cX3_isTold 19 = .ok (.iload_n 1, 1) := by decide +kernel
theorem dX3_isTold_20 : decode cX3_isTold 20 = .ok (.if_icmp .ne 78, 3) := by decide +kernel
theorem dX3_isTold_23 : decode cX3_isTold 23 = .ok (.aload_n 0, 1) := by decide +kernel
theorem dX3_isTold_24 : decode cX3_isTold 24 = .ok (.getfield 15, 3) := by decide +kernel
theorem dX3_isTold_27 : decode cX3_isTold 27 = .ok (.iload 4, 2) := by decide +kernel
theorem dX3_isTold_29 : decode cX3_isTold 29 = .ok (.iaload, 1) := by decide +kernel
theorem dX3_isTold_30 : decode cX3_isTold 30 = .ok (.iload_n 2, 1) := by decide +kernel
theorem dX3_isTold_31 : decode cX3_isTold 31 = .ok (.if_icmp .ne 18, 3) := by decide +kernel
theorem dX3_isTold_34 : decode cX3_isTold 34 = .ok (.aload_n 0, 1) := by decide +kernel
theorem dX3_isTold_35 : decode cX3_isTold 35 = .ok (.getfield 18, 3) := by decide +kernel
theorem dX3_isTold_38 : decode cX3_isTold 38 = .ok (.iload 4, 2) := by decide +kernel
theorem dX3_isTold_40 : decode cX3_isTold 40 = .ok (.iaload, 1) := by decide +kernel
theorem dX3_isTold_41 : decode cX3_isTold 41 = .ok (.iload_n 3, 1) := by decide +kernel
theorem dX3_isTold_42 : decode cX3_isTold 42 = .ok (.if_icmp .ne 7, 3) := by decide +kernel
theorem dX3_isTold_45 : decode cX3_isTold 45 = .ok (.iconst 1, 1) := by decide +kernel
theorem dX3_isTold_46 : decode cX3_isTold 46 = .ok (.goto 4, 3) := by decide +kernel
theorem dX3_isTold_49 : decode cX3_isTold 49 = .ok (.iconst 0, 1) := by decide +kernel
theorem dX3_isTold_50 : decode cX3_isTold 50 = .ok (.istore 5, 2) := by decide +kernel
theorem dX3_isTold_52 : decode cX3_isTold 52 = .ok (.aload_n 0, 1) := by decide +kernel
theorem dX3_isTold_53 : decode cX3_isTold 53 = .ok (.getfield 15, 3) := by decide +kernel
theorem dX3_isTold_56 : decode cX3_isTold 56 = .ok (.iload 4, 2) := by decide +kernel
theorem dX3_isTold_58 : decode cX3_isTold 58 = .ok (.iaload, 1) := by decide +kernel
theorem dX3_isTold_59 : decode cX3_isTold 59 = .ok (.iload_n 3, 1) := by decide +kernel
theorem dX3_isTold_60 : decode cX3_isTold 60 = .ok (.if_icmp .ne 18, 3) := by decide +kernel
theorem dX3_isTold_63 : decode cX3_isTold 63 = .ok (.aload_n 0, 1) := by decide +kernel
theorem dX3_isTold_64 : decode cX3_isTold 64 = .ok (.getfield 18, 3) := by decide +kernel
theorem dX3_isTold_67 : decode cX3_isTold 67 = .ok (.iload 4, 2) := by decide +kernel
theorem dX3_isTold_69 : decode cX3_isTold 69 = .ok (.iaload, 1) := by decide +kernel
theorem dX3_isTold_70 : decode cX3_isTold 70 = .ok (.iload_n 2, 1) := by decide +kernel
theorem dX3_isTold_71 : decode cX3_isTold 71 = .ok (.if_icmp .ne 7, 3) := by decide +kernel
theorem dX3_isTold_74 : decode cX3_isTold 74 = .ok (.iconst 1, 1) := by decide +kernel
theorem dX3_isTold_75 : decode cX3_isTold 75 = .ok (.goto 4, 3) := by decide +kernel
theorem dX3_isTold_78 : decode cX3_isTold 78 = .ok (.iconst 0, 1) := by decide +kernel
theorem dX3_isTold_79 : decode cX3_isTold 79 = .ok (.istore 6, 2) := by decide +kernel
theorem dX3_isTold_81 : decode cX3_isTold 81 = .ok (.iload 5, 2) := by decide +kernel
theorem dX3_isTold_83 : decode cX3_isTold 83 = .ok (.ifCond .ne 13, 3) := by decide +kernel
theorem dX3_isTold_86 : decode cX3_isTold 86 = .ok (.iload_n 1, 1) := by decide +kernel
theorem dX3_isTold_87 : decode cX3_isTold 87 = .ok (.iconst 4, 1) := by decide +kernel
theorem dX3_isTold_88 : decode cX3_isTold 88 = .ok (.if_icmp .ne 10, 3) := by decide +kernel
theorem dX3_isTold_91 : decode cX3_isTold 91 = .ok (.iload 6, 2) := by decide +kernel
theorem dX3_isTold_93 : decode cX3_isTold 93 = .ok (.ifCond .eq 5, 3) := by decide +kernel
theorem dX3_isTold_96 : decode cX3_isTold 96 = .ok (.iconst 1, 1) := by decide +kernel
theorem dX3_isTold_97 : decode cX3_isTold 97 = .ok (.ireturn, 1) := by decide +kernel
theorem dX3_isTold_98 : decode cX3_isTold 98 = .ok (.iinc 4 1, 3) := by decide +kernel
theorem dX3_isTold_101 : decode cX3_isTold 101 = .ok (.goto (-98), 3) := by decide +kernel
theorem dX3_isTold_104 : decode cX3_isTold 104 = .ok (.iconst 0, 1) := by decide +kernel
theorem dX3_isTold_105 : decode cX3_isTold 105 = .ok (.ireturn, 1) := by decide +kernel
theorem dX4_init_0 : decode cX4_init 0 = .ok (.aload_n 0, 1) := by decide +kernel
theorem dX4_init_1 : decode cX4_init 1 = .ok (.invokespecial 3, 3) := by decide +kernel
theorem dX4_init_4 : decode cX4_init 4 = .ok (.aload_n 0, 1) := by decide +kernel
theorem dX4_init_5 : decode cX4_init 5 = .ok (.bipush 40, 2) := by decide +kernel
theorem dX4_init_7 : decode cX4_init 7 = .ok (.newarray .int, 2) := by decide +kernel
theorem dX4_init_9 : decode cX4_init 9 = .ok (.putfield 9, 3) := by decide +kernel
theorem dX4_init_12 : decode cX4_init 12 = .ok (.aload_n 0, 1) := by decide +kernel
theorem dX4_init_13 : decode cX4_init 13 = .ok (.bipush 40, 2) := by decide +kernel
theorem dX4_init_15 : decode cX4_init 15 = .ok (.newarray .int, 2) := by decide +kernel
theorem dX4_init_17 : decode cX4_init 17 = .ok (.putfield 15, 3) := by decide +kernel
theorem dX4_init_20 : decode cX4_init 20 = .ok (.aload_n 0, 1) := by decide +kernel
theorem dX4_init_21 : decode cX4_init 21 = .ok (.bipush 40, 2) := by decide +kernel
theorem dX4_init_23 : decode cX4_init 23 = .ok (.newarray .int, 2) := by decide +kernel
theorem dX4_init_25 : decode cX4_init 25 = .ok (.putfield 18, 3) := by decide +kernel
theorem dX4_init_28 : decode cX4_init 28 = .ok (.aload_n 0, 1) := by decide +kernel
theorem dX4_init_29 : decode cX4_init 29 = .ok (.bipush 40, 2) := by decide +kernel
theorem dX4_init_31 : decode cX4_init 31 = .ok (.newarray .int, 2) := by decide +kernel
theorem dX4_init_33 : decode cX4_init 33 = .ok (.putfield 21, 3) := by decide +kernel
theorem dX4_init_36 : decode cX4_init 36 = .ok (.return_, 1) := by decide +kernel
theorem dX4_append_0 : decode cX4_append 0 = .ok (.aload_n 0, 1) := by decide +kernel
theorem dX4_append_1 : decode cX4_append 1 = .ok (.getfield 9, 3) := by decide +kernel
theorem dX4_append_4 : decode cX4_append 4 = .ok (.aload_n 0, 1) := by decide +kernel
theorem dX4_append_5 : decode cX4_append 5 = .ok (.getfield 24, 3) := by decide +kernel
theorem dX4_append_8 : decode cX4_append 8 = .ok (.iload_n 1, 1) := by decide +kernel
theorem dX4_append_9 : decode cX4_append 9 = .ok (.iastore, 1) := by decide +kernel
theorem dX4_append_10 : decode cX4_append 10 = .ok (.aload_n 0, 1) := by decide +kernel
theorem dX4_append_11 : decode cX4_append 11 = .ok (.dup, 1) := by decide +kernel
theorem dX4_append_12 : decode cX4_append 12 = .ok (.getfield 24, 3) := by decide +kernel
theorem dX4_append_15 : decode cX4_append 15 = .ok (.iconst 1, 1) := by decide +kernel
theorem dX4_append_16 : decode cX4_append 16 = .ok (.iadd, 1) := by decide +kernel
theorem dX4_append_17 : decode cX4_append 17 = .ok (.putfield 24, 3) := by decide +kernel
theorem dX4_append_20 : decode cX4_append 20 = .ok (.aload_n 0, 1) := by decide +kernel
theorem dX4_append_21 : decode cX4_append 21 = .ok (.getfield 24, 3) := by decide +kernel
theorem dX4_append_24 : decode cX4_append 24 = .ok (.iconst 1, 1) := by decide +kernel
theorem dX4_append_25 : decode cX4_append 25 = .ok (.isub, 1) := by decide +kernel
theorem dX4_append_26 : decode cX4_append 26 = .ok (.ireturn, 1) := by decide +kernel
theorem dX4_setDate_0 : decode cX4_setDate 0 = .ok (.aload_n 0, 1) := by decide +kernel
theorem dX4_setDate_1 : decode cX4_setDate 1 = .ok (.getfield 18, 3) := by decide +kernel
theorem dX4_setDate_4 : decode cX4_setDate 4 = .ok (.iload_n 1, 1) := by decide +kernel
theorem dX4_setDate_5 : decode cX4_setDate 5 = .ok (.iload_n 2, 1) := by decide +kernel
theorem dX4_setDate_6 : decode cX4_setDate 6 = .ok (.iastore, 1) := by decide +kernel
theorem dX4_setDate_7 : decode cX4_setDate 7 = .ok (.aload_n 0, 1) := by decide +kernel
theorem dX4_setDate_8 : decode cX4_setDate 8 = .ok (.getfield 21, 3) := by decide +kernel
theorem dX4_setDate_11 : decode cX4_setDate 11 = .ok (.iload_n 1, 1) := by decide +kernel
theorem dX4_setDate_12 : decode cX4_setDate 12 = .ok (.iload_n 3, 1) := by decide +kernel
theorem dX4_setDate_13 : decode cX4_setDate 13 = .ok (.iastore, 1) := by decide +kernel
theorem dX4_setDate_14 : decode cX4_setDate 14 = .ok (.iload_n 2, 1) := by decide +kernel
theorem dX4_setDate_15 : decode cX4_setDate 15 = .ok (.iload_n 3, 1) := by decide +kernel
theorem dX4_setDate_16 : decode cX4_setDate 16 = .ok (.if_icmp .gt 19, 3) := by decide +kernel
theorem dX4_setDate_19 : decode cX4_setDate 19 = .ok (.aload_n 0, 1) := by decide +kernel
theorem dX4_setDate_20 : decode cX4_setDate 20 = .ok (.dup, 1) := by decide +kernel
theorem dX4_setDate_21 : decode cX4_setDate 21 = .ok (.getfield 28, 3) := by decide +kernel
theorem dX4_setDate_24 : decode cX4_setDate 24 = .ok (.iload_n 1, 1) := by decide +kernel
theorem dX4_setDate_25 : decode cX4_setDate 25 = .ok (.invokestatic 32, 3) := by decide +kernel
theorem dX4_setDate_28 : decode cX4_setDate 28 = .ok (.lor, 1) := by decide +kernel
theorem dX4_setDate_29 : decode cX4_setDate 29 = .ok (.putfield 28, 3) := by decide +kernel
theorem dX4_setDate_32 : decode cX4_setDate 32 = .ok (.goto 20, 3) := by decide +kernel
theorem dX4_setDate_35 : decode cX4_setDate 35 = .ok (.aload_n 0, 1) := by decide +kernel
theorem dX4_setDate_36 : decode cX4_setDate 36 = .ok (.dup, 1) := by decide +kernel
theorem dX4_setDate_37 : decode cX4_setDate 37 = .ok (.getfield 28, 3) := by decide +kernel
theorem dX4_setDate_40 : decode cX4_setDate 40 = .ok (.iload_n 1, 1) := by decide +kernel
theorem dX4_setDate_41 : decode cX4_setDate 41 = .ok (.invokestatic 32, 3) := by decide +kernel
theorem dX4_setDate_44 : decode cX4_setDate 44 = .ok (.ldc2_w 36, 3) := by decide +kernel
theorem dX4_setDate_47 : decode cX4_setDate 47 = .ok (.lxor, 1) := by decide +kernel
theorem dX4_setDate_48 : decode cX4_setDate 48 = .ok (.land, 1) := by decide +kernel
theorem dX4_setDate_49 : decode cX4_setDate 49 = .ok (.putfield 28, 3) := by decide +kernel
theorem dX4_setDate_52 : decode cX4_setDate 52 = .ok (.return_, 1) := by decide +kernel
theorem dX5_init_0 : decode cX5_init 0 = .ok (.aload_n 0, 1) := by decide +kernel
theorem dX5_init_1 : decode cX5_init 1 = .ok (.invokespecial 1, 3) := by decide +kernel
theorem dX5_init_4 : decode cX5_init 4 = .ok (.aload_n 0, 1) := by decide +kernel
theorem dX5_init_5 : decode cX5_init 5 = .ok (.new 7, 3) := by decide +kernel
theorem dX5_init_8 : decode cX5_init 8 = .ok (.dup, 1) := by decide +kernel
theorem dX5_init_9 : decode cX5_init 9 = .ok (.invokespecial 9, 3) := by decide +kernel
theorem dX5_init_12 : decode cX5_init 12 = .ok (.putfield 10, 3) := by decide +kernel
theorem dX5_init_15 : decode cX5_init 15 = .ok (.aload_n 0, 1) := by decide +kernel
theorem dX5_init_16 : decode cX5_init 16 = .ok (.new 16, 3) := by decide +kernel
theorem dX5_init_19 : decode cX5_init 19 = .ok (.dup, 1) := by decide +kernel
theorem dX5_init_20 : decode cX5_init 20 = .ok (.invokespecial 18, 3) := by decide +kernel
theorem dX5_init_23 : decode cX5_init 23 = .ok (.putfield 19, 3) := by decide +kernel
theorem dX5_init_26 : decode cX5_init 26 = .ok (.aload_n 0, 1) := by decide +kernel
theorem dX5_init_27 : decode cX5_init 27 = .ok (.new 23, 3) := by decide +kernel
theorem dX5_init_30 : decode cX5_init 30 = .ok (.dup, 1) := by decide +kernel
theorem dX5_init_31 : decode cX5_init 31 = .ok (.invokespecial 25, 3) := by decide +kernel
theorem dX5_init_34 : decode cX5_init 34 = .ok (.putfield 26, 3) := by decide +kernel
theorem dX5_init_37 : decode cX5_init 37 = .ok (.aload_n 0, 1) := by decide +kernel
theorem dX5_init_38 : decode cX5_init 38 = .ok (.new 30, 3) := by decide +kernel
theorem dX5_init_41 : decode cX5_init 41 = .ok (.dup, 1) := by decide +kernel
theorem dX5_init_42 : decode cX5_init 42 = .ok (.invokespecial 32, 3) := by decide +kernel
theorem dX5_init_45 : decode cX5_init 45 = .ok (.putfield 33, 3) := by decide +kernel
theorem dX5_init_48 : decode cX5_init 48 = .ok (.aload_n 0, 1) := by decide +kernel
theorem dX5_init_49 : decode cX5_init 49 = .ok (.new 37, 3) := by decide +kernel
theorem dX5_init_52 : decode cX5_init 52 = .ok (.dup, 1) := by decide +kernel
theorem dX5_init_53 : decode cX5_init 53 = .ok (.invokespecial 39, 3) := by decide +kernel
theorem dX5_init_56 : decode cX5_init 56 = .ok (.putfield 40, 3) := by decide +kernel
theorem dX5_init_59 : decode cX5_init 59 = .ok (.return_, 1) := by decide +kernel
theorem dX5_addUnit_0 : decode cX5_addUnit 0 = .ok (.iload_n 1, 1) := by decide +kernel
theorem dX5_addUnit_1 : decode cX5_addUnit 1 = .ok (.iconst 0, 1) := by decide +kernel
theorem dX5_addUnit_2 : decode cX5_addUnit 2 = .ok (.iconst 3, 1) := by decide +kernel
theorem dX5_addUnit_3 : decode cX5_addUnit 3 = .ok (.invokestatic 44, 3) := by decide +kernel
theorem dX5_addUnit_6 : decode cX5_addUnit 6 = .ok (.ifCond .ne 13, 3) := by decide +kernel
theorem dX5_addUnit_19 : decode cX5_addUnit 19 = .ok (.aload_n 0, 1) := by decide +kernel
theorem dX5_addUnit_20 : decode cX5_addUnit 20 = .ok (.getfield 10, 3) := by decide +kernel
theorem dX5_addUnit_23 : decode cX5_addUnit 23 = .ok (.getfield 55, 3) := by decide +kernel
theorem dX5_addUnit_26 : decode cX5_addUnit 26 = .ok (.bipush 40, 2) := by decide +kernel
theorem dX5_addUnit_28 : decode cX5_addUnit 28 = .ok (.if_icmp .lt 13, 3) := by decide +kernel
theorem dX5_addUnit_41 : decode cX5_addUnit 41 = .ok (.aload_n 0, 1) := by decide +kernel
theorem dX5_addUnit_42 : decode cX5_addUnit 42 = .ok (.getfield 10, 3) := by decide +kernel
theorem dX5_addUnit_45 : decode cX5_addUnit 45 = .ok (.iload_n 1, 1) := by decide +kernel
theorem dX5_addUnit_46 : decode cX5_addUnit 46 = .ok (.invokevirtual 64, 3) := by decide +kernel
theorem dX5_addUnit_49 : decode cX5_addUnit 49 = .ok (.istore_n 2, 1) := by decide +kernel
theorem dX5_addUnit_50 : decode cX5_addUnit 50 = .ok (.aload_n 0, 1) := by decide +kernel
theorem dX5_addUnit_51 : decode cX5_addUnit 51 = .ok (.invokevirtual 68, 3) := by decide +kernel
theorem dX5_addUnit_54 : decode cX5_addUnit 54 = .ok (.iload_n 2, 1) := by decide +kernel
theorem dX5_addUnit_55 : decode cX5_addUnit 55 = .ok (.ireturn, 1) := by decide +kernel
theorem dX5_relate_0 : decode cX5_relate 0 = .ok (.iload_n 1, 1) := by decide +kernel
theorem dX5_relate_1 : decode cX5_relate 1 = .ok (.iconst 0, 1) := by decide +kernel
theorem dX5_relate_2 : decode cX5_relate 2 = .ok (.iconst 4, 1) := by decide +kernel
theorem dX5_relate_3 : decode cX5_relate 3 = .ok (.invokestatic 44, 3) := by decide +kernel
theorem dX5_relate_6 : decode cX5_relate 6 = .ok (.ifCond .ne 13, 3) := by decide +kernel
theorem dX5_relate_19 : decode cX5_relate 19 = .ok (.aload_n 0, 1) := by decide +kernel
theorem dX5_relate_20 : decode cX5_relate 20 = .ok (.iload_n 2, 1) := by decide +kernel
theorem dX5_relate_21 : decode cX5_relate 21 = .ok (.invokevirtual 73, 3) := by decide +kernel
theorem dX5_relate_24 : decode cX5_relate 24 = .ok (.aload_n 0, 1) := by decide +kernel
theorem dX5_relate_25 : decode cX5_relate 25 = .ok (.iload_n 3, 1) := by decide +kernel
theorem dX5_relate_26 : decode cX5_relate 26 = .ok (.invokevirtual 73, 3) := by decide +kernel
theorem dX5_relate_29 : decode cX5_relate 29 = .ok (.aload_n 0, 1) := by decide +kernel
theorem dX5_relate_30 : decode cX5_relate 30 = .ok (.getfield 19, 3) := by decide +kernel
theorem dX5_relate_33 : decode cX5_relate 33 = .ok (.getfield 77, 3) := by decide +kernel
theorem dX5_relate_36 : decode cX5_relate 36 = .ok (.bipush 80, 2) := by decide +kernel
theorem dX5_relate_38 : decode cX5_relate 38 = .ok (.if_icmp .lt 13, 3) := by decide +kernel
theorem dX5_relate_51 : decode cX5_relate 51 = .ok (.aload_n 0, 1) := by decide +kernel
theorem dX5_relate_52 : decode cX5_relate 52 = .ok (.iload_n 1, 1) := by decide +kernel
theorem dX5_relate_53 : decode cX5_relate 53 = .ok (.iload_n 2, 1) := by decide +kernel
theorem dX5_relate_54 : decode cX5_relate 54 = .ok (.iload_n 3, 1) := by decide +kernel
theorem dX5_relate_55 : decode cX5_relate 55 = .ok (.invokevirtual 80, 3) := by decide +kernel
theorem dX5_relate_58 : decode cX5_relate 58 = .ok (.istore 4, 2) := by decide +kernel
theorem dX5_relate_60 : decode cX5_relate 60 = .ok (.iload 4, 2) := by decide +kernel
theorem dX5_relate_62 : decode cX5_relate 62 = .ok (.ifCond .ne 17, 3) := by decide +kernel
theorem dX5_relate_65 : decode cX5_relate 65 = .ok (.aload_n 0, 1) := by decide +kernel
theorem dX5_relate_66 : decode cX5_relate 66 = .ok (.getfield 19, 3) := by decide +kernel
theorem dX5_relate_69 : decode cX5_relate 69 = .ok (.iload_n 1, 1) := by decide +kernel
theorem dX5_relate_70 : decode cX5_relate 70 = .ok (.iload_n 2, 1) := by decide +kernel
theorem dX5_relate_71 : decode cX5_relate 71 = .ok (.iload_n 3, 1) := by decide +kernel
theorem dX5_relate_72 : decode cX5_relate 72 = .ok (.invokevirtual 84, 3) := by decide +kernel
theorem dX5_relate_75 : decode cX5_relate 75 = .ok (.aload_n 0, 1) := by decide +kernel
theorem dX5_relate_76 : decode cX5_relate 76 = .ok (.invokevirtual 68, 3) := by decide +kernel
theorem dX5_relate_79 : decode cX5_relate 79 = .ok (.iload 4, 2) := by decide +kernel
theorem dX5_relate_81 : decode cX5_relate 81 = .ok (.ireturn, 1) := by decide +kernel
theorem dX5_takeBack_0 : decode cX5_takeBack 0 = .ok (.aload_n 0, 1) := by decide +kernel
theorem dX5_takeBack_1 : decode cX5_takeBack 1 = .ok (.iload_n 1, 1) := by decide +kernel
theorem dX5_takeBack_2 : decode cX5_takeBack 2 = .ok (.invokevirtual 87, 3) := by decide +kernel
theorem dX5_takeBack_5 : decode cX5_takeBack 5 = .ok (.aload_n 0, 1) := by decide +kernel
theorem dX5_takeBack_6 : decode cX5_takeBack 6 = .ok (.getfield 19, 3) := by decide +kernel
theorem dX5_takeBack_9 : decode cX5_takeBack 9 = .ok (.iload_n 1, 1) := by decide +kernel
theorem dX5_takeBack_10 : decode cX5_takeBack 10 = .ok (.invokevirtual 90, 3) := by decide +kernel
theorem dX5_takeBack_13 : decode cX5_takeBack 13 = .ok (.aload_n 0, 1) := by decide +kernel
theorem dX5_takeBack_14 : decode cX5_takeBack 14 = .ok (.invokevirtual 68, 3) := by decide +kernel
theorem dX5_takeBack_17 : decode cX5_takeBack 17 = .ok (.aload_n 0, 1) := by decide +kernel
theorem dX5_takeBack_18 : decode cX5_takeBack 18 = .ok (.getfield 19, 3) := by decide +kernel
theorem dX5_takeBack_21 : decode cX5_takeBack 21 = .ok (.getfield 77, 3) := by decide +kernel
theorem dX5_takeBack_24 : decode cX5_takeBack 24 = .ok (.ireturn, 1) := by decide +kernel
theorem dX5_relation_0 : decode cX5_relation 0 = .ok (.aload_n 0, 1) := by decide +kernel
theorem dX5_relation_1 : decode cX5_relation 1 = .ok (.iload_n 1, 1) := by decide +kernel
theorem dX5_relation_2 : decode cX5_relation 2 = .ok (.invokevirtual 87, 3) := by decide +kernel
theorem dX5_relation_5 : decode cX5_relation 5 = .ok (.iload_n 2, 1) := by decide +kernel
theorem dX5_relation_6 : decode cX5_relation 6 = .ok (.iconst 3, 1) := by decide +kernel
theorem dX5_relation_7 : decode cX5_relation 7 = .ok (.invokestatic 93, 3) := by decide +kernel
theorem dX5_relation_10 : decode cX5_relation 10 = .ok (.iload_n 2, 1) := by decide +kernel
theorem dX5_relation_11 : decode cX5_relation 11 = .ok (.lookupswitch 45 #[(0, 25), (1, 35)], 25) := by decide +kernel
theorem dX5_relation_36 : decode cX5_relation 36 = .ok (.aload_n 0, 1) := by decide +kernel
theorem dX5_relation_37 : decode cX5_relation 37 = .ok (.getfield 19, 3) := by decide +kernel
theorem dX5_relation_40 : decode cX5_relation 40 = .ok (.getfield 97, 3) := by decide +kernel
theorem dX5_relation_43 : decode cX5_relation 43 = .ok (.iload_n 1, 1) := by decide +kernel
theorem dX5_relation_44 : decode cX5_relation 44 = .ok (.iaload, 1) := by decide +kernel
theorem dX5_relation_45 : decode cX5_relation 45 = .ok (.ireturn, 1) := by decide +kernel
theorem dX5_relation_46 : decode cX5_relation 46 = .ok (.aload_n 0, 1) := by decide +kernel
theorem dX5_relation_47 : decode cX5_relation 47 = .ok (.getfield 19, 3) := by decide +kernel
theorem dX5_relation_50 : decode cX5_relation 50 = .ok (.getfield 101, 3) := by decide +kernel
theorem dX5_relation_53 : decode cX5_relation 53 = .ok (.iload_n 1, 1) := by decide +kernel
theorem dX5_relation_54 : decode cX5_relation 54 = .ok (.iaload, 1) := by decide +kernel
theorem dX5_relation_55 : decode cX5_relation 55 = .ok (.ireturn, 1) := by decide +kernel
theorem dX5_relation_56 : decode cX5_relation 56 = .ok (.aload_n 0, 1) := by decide +kernel
theorem dX5_relation_57 : decode cX5_relation 57 = .ok (.getfield 19, 3) := by decide +kernel
theorem dX5_relation_60 : decode cX5_relation 60 = .ok (.getfield 104, 3) := by decide +kernel
theorem dX5_relation_63 : decode cX5_relation 63 = .ok (.iload_n 1, 1) := by decide +kernel
theorem dX5_relation_64 : decode cX5_relation 64 = .ok (.iaload, 1) := by decide +kernel
theorem dX5_relation_65 : decode cX5_relation 65 = .ok (.ireturn, 1) := by decide +kernel
theorem dX5_count_0 : decode cX5_count 0 = .ok (.iload_n 1, 1) := by decide +kernel
theorem dX5_count_1 : decode cX5_count 1 = .ok (.bipush 9, 2) := by decide +kernel
theorem dX5_count_3 : decode cX5_count 3 = .ok (.invokestatic 93, 3) := by decide +kernel
theorem dX5_count_6 : decode cX5_count 6 = .ok (.iload_n 1, 1) := by decide +kernel
theorem dX5_count_7 : decode cX5_count 7 = .ok (.tableswitch 115 0 7 #[45, 53, 61, 72, 80, 88, 99, 107], 45) := by decide +kernel
theorem dX5_count_52 : decode cX5_count 52 = .ok (.aload_n 0, 1) := by decide +kernel
theorem dX5_count_53 : decode cX5_count 53 = .ok (.getfield 10, 3) := by decide +kernel
theorem dX5_count_56 : decode cX5_count 56 = .ok (.getfield 55, 3) := by decide +kernel
theorem dX5_count_59 : decode cX5_count 59 = .ok (.ireturn, 1) := by decide +kernel
theorem dX5_count_60 : decode cX5_count 60 = .ok (.aload_n 0, 1) := by decide +kernel
theorem dX5_count_61 : decode cX5_count 61 = .ok (.getfield 19, 3) := by decide +kernel
theorem dX5_count_64 : decode cX5_count 64 = .ok (.getfield 77, 3) := by decide +kernel
theorem dX5_count_67 : decode cX5_count 67 = .ok (.ireturn, 1) := by decide +kernel
theorem dX5_count_68 : decode cX5_count 68 = .ok (.aload_n 0, 1) := by decide +kernel
theorem dX5_count_69 : decode cX5_count 69 = .ok (.getfield 26, 3) := by decide +kernel
theorem dX5_count_72 : decode cX5_count 72 = .ok (.getfield 107, 3) := by decide +kernel
theorem dX5_count_75 : decode cX5_count 75 = .ok (.invokestatic 111, 3) := by decide +kernel
theorem dX5_count_78 : decode cX5_count 78 = .ok (.ireturn, 1) := by decide +kernel
theorem dX5_count_79 : decode cX5_count 79 = .ok (.aload_n 0, 1) := by decide +kernel
theorem dX5_count_80 : decode cX5_count 80 = .ok (.getfield 26, 3) := by decide +kernel
theorem dX5_count_83 : decode cX5_count 83 = .ok (.invokevirtual 117, 3) := by decide +kernel
theorem dX5_count_86 : decode cX5_count 86 = .ok (.ireturn, 1) := by decide +kernel
theorem dX5_count_87 : decode cX5_count 87 = .ok (.aload_n 0, 1) := by decide +kernel
theorem dX5_count_88 : decode cX5_count 88 = .ok (.getfield 33, 3) := by decide +kernel
theorem dX5_count_91 : decode cX5_count 91 = .ok (.getfield 121, 3) := by decide +kernel
theorem dX5_count_94 : decode cX5_count 94 = .ok (.ireturn, 1) := by decide +kernel
theorem dX5_count_95 : decode cX5_count 95 = .ok (.aload_n 0, 1) := by decide +kernel
theorem dX5_count_96 : decode cX5_count 96 = .ok (.getfield 10, 3) := by decide +kernel
theorem dX5_count_99 : decode cX5_count 99 = .ok (.getfield 122, 3) := by decide +kernel
theorem dX5_count_102 : decode cX5_count 102 = .ok (.invokestatic 111, 3) := by decide +kernel
theorem dX5_count_105 : decode cX5_count 105 = .ok (.ireturn, 1) := by decide +kernel
theorem dX5_count_106 : decode cX5_count 106 = .ok (.aload_n 0, 1) := by decide +kernel
theorem dX5_count_107 : decode cX5_count 107 = .ok (.invokevirtual 125, 3) := by decide +kernel
theorem dX5_count_110 : decode cX5_count 110 = .ok (.invokestatic 111, 3) := by decide +kernel
theorem dX5_count_113 : decode cX5_count 113 = .ok (.ireturn, 1) := by decide +kernel
theorem dX5_count_114 : decode cX5_count 114 = .ok (.aload_n 0, 1) := by decide +kernel
theorem dX5_count_115 : decode cX5_count 115 = .ok (.getfield 26, 3) := by decide +kernel
theorem dX5_count_118 : decode cX5_count 118 = .ok (.invokevirtual 129, 3) := by decide +kernel
theorem dX5_count_121 : decode cX5_count 121 = .ok (.ireturn, 1) := by decide +kernel
theorem dX5_count_122 : decode cX5_count 122 = .ok (.aload_n 0, 1) := by decide +kernel
theorem dX5_count_123 : decode cX5_count 123 = .ok (.invokevirtual 132, 3) := by decide +kernel
theorem dX5_count_126 : decode cX5_count 126 = .ok (.ireturn, 1) := by decide +kernel
theorem dX5_unit_0 : decode cX5_unit 0 = .ok (.aload_n 0, 1) := by decide +kernel
theorem dX5_unit_1 : decode cX5_unit 1 = .ok (.iload_n 1, 1) := by decide +kernel
theorem dX5_unit_2 : decode cX5_unit 2 = .ok (.invokevirtual 73, 3) := by decide +kernel
theorem dX5_unit_5 : decode cX5_unit 5 = .ok (.iload_n 2, 1) := by decide +kernel
theorem dX5_unit_6 : decode cX5_unit 6 = .ok (.bipush 10, 2) := by decide +kernel
theorem dX5_unit_8 : decode cX5_unit 8 = .ok (.invokestatic 93, 3) := by decide +kernel
theorem dX5_unit_11 : decode cX5_unit 11 = .ok (.aload_n 0, 1) := by decide +kernel
theorem dX5_unit_12 : decode cX5_unit 12 = .ok (.getfield 26, 3) := by decide +kernel
theorem dX5_unit_15 : decode cX5_unit 15 = .ok (.getfield 135, 3) := by decide +kernel
theorem dX5_unit_18 : decode cX5_unit 18 = .ok (.iload_n 1, 1) := by decide +kernel
theorem dX5_unit_19 : decode cX5_unit 19 = .ok (.iaload, 1) := by decide +kernel
theorem dX5_unit_20 : decode cX5_unit 20 = .ok (.istore_n 3, 1) := by decide +kernel
theorem dX5_unit_21 : decode cX5_unit 21 = .ok (.iload_n 2, 1) := by decide +kernel
theorem dX5_unit_22 : decode cX5_unit 22 = .ok (.tableswitch 151 0 8 #[50, 60, 62, 75, 85, 95, 108, 121, 141], 50) := by decide +kernel
theorem dX5_unit_72 : decode cX5_unit 72 = .ok (.aload_n 0, 1) := by decide +kernel
theorem dX5_unit_73 : decode cX5_unit 73 = .ok (.getfield 10, 3) := by decide +kernel
theorem dX5_unit_76 : decode cX5_unit 76 = .ok (.getfield 138, 3) := by decide +kernel
theorem dX5_unit_79 : decode cX5_unit 79 = .ok (.iload_n 1, 1) := by decide +kernel
theorem dX5_unit_80 : decode cX5_unit 80 = .ok (.iaload, 1) := by decide +kernel
theorem dX5_unit_81 : decode cX5_unit 81 = .ok (.ireturn, 1) := by decide +kernel
theorem dX5_unit_82 : decode cX5_unit 82 = .ok (.iload_n 3, 1) := by decide +kernel
theorem dX5_unit_83 : decode cX5_unit 83 = .ok (.ireturn, 1) := by decide +kernel
theorem dX5_unit_84 : decode cX5_unit 84 = .ok (.aload_n 0, 1) := by decide +kernel
theorem dX5_unit_85 : decode cX5_unit 85 = .ok (.getfield 26, 3) := by decide +kernel
theorem dX5_unit_88 : decode cX5_unit 88 = .ok (.getfield 141, 3) := by decide +kernel
theorem dX5_unit_91 : decode cX5_unit 91 = .ok (.iload_n 3, 1) := by decide +kernel
theorem dX5_unit_92 : decode cX5_unit 92 = .ok (.laload, 1) := by decide +kernel
theorem dX5_unit_93 : decode cX5_unit 93 = .ok (.invokestatic 111, 3) := by decide +kernel
theorem dX5_unit_96 : decode cX5_unit 96 = .ok (.ireturn, 1) := by decide +kernel
theorem dX5_unit_97 : decode cX5_unit 97 = .ok (.aload_n 0, 1) := by decide +kernel
theorem dX5_unit_98 : decode cX5_unit 98 = .ok (.getfield 26, 3) := by decide +kernel
theorem dX5_unit_101 : decode cX5_unit 101 = .ok (.getfield 145, 3) := by decide +kernel
theorem dX5_unit_104 : decode cX5_unit 104 = .ok (.iload_n 3, 1) := by decide +kernel
theorem dX5_unit_105 : decode cX5_unit 105 = .ok (.iaload, 1) := by decide +kernel
theorem dX5_unit_106 : decode cX5_unit 106 = .ok (.ireturn, 1) := by decide +kernel
theorem dX5_unit_107 : decode cX5_unit 107 = .ok (.aload_n 0, 1) := by decide +kernel
theorem dX5_unit_108 : decode cX5_unit 108 = .ok (.getfield 26, 3) := by decide +kernel
theorem dX5_unit_111 : decode cX5_unit 111 = .ok (.getfield 148, 3) := by decide +kernel
theorem dX5_unit_114 : decode cX5_unit 114 = .ok (.iload_n 3, 1) := by decide +kernel
theorem dX5_unit_115 : decode cX5_unit 115 = .ok (.iaload, 1) := by decide +kernel
theorem dX5_unit_116 : decode cX5_unit 116 = .ok (.ireturn, 1) := by decide +kernel
theorem dX5_unit_117 : decode cX5_unit 117 = .ok (.aload_n 0, 1) := by decide +kernel
theorem dX5_unit_118 : decode cX5_unit 118 = .ok (.getfield 26, 3) := by decide +kernel
theorem dX5_unit_121 : decode cX5_unit 121 = .ok (.getfield 151, 3) := by decide +kernel
theorem dX5_unit_124 : decode cX5_unit 124 = .ok (.iload_n 3, 1) := by decide +kernel
theorem dX5_unit_125 : decode cX5_unit 125 = .ok (.laload, 1) := by decide +kernel
theorem dX5_unit_126 : decode cX5_unit 126 = .ok (.invokestatic 111, 3) := by decide +kernel
theorem dX5_unit_129 : decode cX5_unit 129 = .ok (.ireturn, 1) := by decide +kernel
theorem dX5_unit_130 : decode cX5_unit 130 = .ok (.aload_n 0, 1) := by decide +kernel
theorem dX5_unit_131 : decode cX5_unit 131 = .ok (.getfield 26, 3) := by decide +kernel
theorem dX5_unit_134 : decode cX5_unit 134 = .ok (.getfield 154, 3) := by decide +kernel
theorem dX5_unit_137 : decode cX5_unit 137 = .ok (.iload_n 3, 1) := by decide +kernel
theorem dX5_unit_138 : decode cX5_unit 138 = .ok (.laload, 1) := by decide +kernel
theorem dX5_unit_139 : decode cX5_unit 139 = .ok (.invokestatic 111, 3) := by decide +kernel
theorem dX5_unit_142 : decode cX5_unit 142 = .ok (.ireturn, 1) := by decide +kernel
theorem dX5_unit_143 : decode cX5_unit 143 = .ok (.aload_n 0, 1) := by decide +kernel
theorem dX5_unit_144 : decode cX5_unit 144 = .ok (.getfield 10, 3) := by decide +kernel
theorem dX5_unit_147 : decode cX5_unit 147 = .ok (.getfield 122, 3) := by decide +kernel
theorem dX5_unit_150 : decode cX5_unit 150 = .ok (.iload_n 1, 1) := by decide +kernel
theorem dX5_unit_151 : decode cX5_unit 151 = .ok (.invokestatic 157, 3) := by decide +kernel
theorem dX5_unit_154 : decode cX5_unit 154 = .ok (.ifCond .eq 7, 3) := by decide +kernel
theorem dX5_unit_157 : decode cX5_unit 157 = .ok (.iconst 1, 1) := by decide +kernel
theorem dX5_unit_158 : decode cX5_unit 158 = .ok (.goto 4, 3) := by decide +kernel
theorem dX5_unit_161 : decode cX5_unit 161 = .ok (.iconst 0, 1) := by decide +kernel
theorem dX5_unit_162 : decode cX5_unit 162 = .ok (.ireturn, 1) := by decide +kernel
theorem dX5_unit_163 : decode cX5_unit 163 = .ok (.aload_n 0, 1) := by decide +kernel
theorem dX5_unit_164 : decode cX5_unit 164 = .ok (.getfield 10, 3) := by decide +kernel
theorem dX5_unit_167 : decode cX5_unit 167 = .ok (.getfield 161, 3) := by decide +kernel
theorem dX5_unit_170 : decode cX5_unit 170 = .ok (.iload_n 1, 1) := by decide +kernel
theorem dX5_unit_171 : decode cX5_unit 171 = .ok (.iaload, 1) := by decide +kernel
theorem dX5_unit_172 : decode cX5_unit 172 = .ok (.ireturn, 1) := by decide +kernel
theorem dX5_unit_173 : decode cX5_unit 173 = .ok (.aload_n 0, 1) := by decide +kernel
theorem dX5_unit_174 : decode cX5_unit 174 = .ok (.getfield 33, 3) := by decide +kernel
theorem dX5_unit_177 : decode cX5_unit 177 = .ok (.iload_n 1, 1) := by decide +kernel
theorem dX5_unit_178 : decode cX5_unit 178 = .ok (.invokevirtual 164, 3) := by decide +kernel
theorem dX5_unit_181 : decode cX5_unit 181 = .ok (.ireturn, 1) := by decide +kernel
theorem dX5_order_0 : decode cX5_order 0 = .ok (.aload_n 0, 1) := by decide +kernel
theorem dX5_order_1 : decode cX5_order 1 = .ok (.iload_n 1, 1) := by decide +kernel
theorem dX5_order_2 : decode cX5_order 2 = .ok (.invokevirtual 73, 3) := by decide +kernel
theorem dX5_order_5 : decode cX5_order 5 = .ok (.aload_n 0, 1) := by decide +kernel
theorem dX5_order_6 : decode cX5_order 6 = .ok (.iload_n 2, 1) := by decide +kernel
theorem dX5_order_7 : decode cX5_order 7 = .ok (.invokevirtual 73, 3) := by decide +kernel
theorem dX5_order_10 : decode cX5_order 10 = .ok (.aload_n 0, 1) := by decide +kernel
theorem dX5_order_11 : decode cX5_order 11 = .ok (.getfield 26, 3) := by decide +kernel
theorem dX5_order_14 : decode cX5_order 14 = .ok (.iload_n 1, 1) := by decide +kernel
theorem dX5_order_15 : decode cX5_order 15 = .ok (.iload_n 2, 1) := by decide +kernel
theorem dX5_order_16 : decode cX5_order 16 = .ok (.invokevirtual 167, 3) := by decide +kernel
theorem dX5_order_19 : decode cX5_order 19 = .ok (.ifCond .eq 5, 3) := by decide +kernel
theorem dX5_order_22 : decode cX5_order 22 = .ok (.iconst 0, 1) := by decide +kernel
theorem dX5_order_23 : decode cX5_order 23 = .ok (.ireturn, 1) := by decide +kernel
theorem dX5_order_24 : decode cX5_order 24 = .ok (.aload_n 0, 1) := by decide +kernel
theorem dX5_order_25 : decode cX5_order 25 = .ok (.getfield 26, 3) := by decide +kernel
theorem dX5_order_28 : decode cX5_order 28 = .ok (.iload_n 1, 1) := by decide +kernel
theorem dX5_order_29 : decode cX5_order 29 = .ok (.iload_n 2, 1) := by decide +kernel
theorem dX5_order_30 : decode cX5_order 30 = .ok (.invokevirtual 171, 3) := by decide +kernel
theorem dX5_order_33 : decode cX5_order 33 = .ok (.ifCond .eq 5, 3) := by decide +kernel
theorem dX5_order_36 : decode cX5_order 36 = .ok (.iconst 1, 1) := by decide +kernel
theorem dX5_order_37 : decode cX5_order 37 = .ok (.ireturn, 1) := by decide +kernel
theorem dX5_order_38 : decode cX5_order 38 = .ok (.aload_n 0, 1) := by decide +kernel
theorem dX5_order_39 : decode cX5_order 39 = .ok (.getfield 26, 3) := by decide +kernel
theorem dX5_order_42 : decode cX5_order 42 = .ok (.iload_n 2, 1) := by decide +kernel
theorem dX5_order_43 : decode cX5_order 43 = .ok (.iload_n 1, 1) := by decide +kernel
theorem dX5_order_44 : decode cX5_order 44 = .ok (.invokevirtual 171, 3) := by decide +kernel
theorem dX5_order_47 : decode cX5_order 47 = .ok (.ifCond .eq 7, 3) := by decide +kernel
theorem dX5_order_50 : decode cX5_order 50 = .ok (.iconst (-1), 1) := by decide +kernel
theorem dX5_order_51 : decode cX5_order 51 = .ok (.goto 4, 3) := by decide +kernel
theorem dX5_order_54 : decode cX5_order 54 = .ok (.iconst 2, 1) := by decide +kernel
theorem dX5_order_55 : decode cX5_order 55 = .ok (.ireturn, 1) := by decide +kernel
theorem dX5_isLinked_0 : decode cX5_isLinked 0 = .ok (.aload_n 0, 1) := by decide +kernel
theorem dX5_isLinked_1 : decode cX5_isLinked 1 = .ok (.iload_n 1, 1) := by decide +kernel
theorem dX5_isLinked_2 : decode cX5_isLinked 2 = .ok (.invokevirtual 73, 3) := by decide +kernel
theorem dX5_isLinked_5 : decode cX5_isLinked 5 = .ok (.aload_n 0, 1) := by decide +kernel
theorem dX5_isLinked_6 : decode cX5_isLinked 6 = .ok (.iload_n 2, 1) := by decide +kernel
theorem dX5_isLinked_7 : decode cX5_isLinked 7 = .ok (.invokevirtual 73, 3) := by decide +kernel
theorem dX5_isLinked_10 : decode cX5_isLinked 10 = .ok (.aload_n 0, 1) := by decide +kernel
theorem dX5_isLinked_11 : decode cX5_isLinked 11 = .ok (.getfield 26, 3) := by decide +kernel
theorem dX5_isLinked_14 : decode cX5_isLinked 14 = .ok (.getfield 174, 3) := by decide +kernel
theorem dX5_isLinked_17 : decode cX5_isLinked 17 = .ok (.aload_n 0, 1) := by decide +kernel
theorem dX5_isLinked_18 : decode cX5_isLinked 18 = .ok (.getfield 26, 3) := by decide +kernel
theorem dX5_isLinked_21 : decode cX5_isLinked 21 = .ok (.getfield 135, 3) := by decide +kernel
theorem dX5_isLinked_24 : decode cX5_isLinked 24 = .ok (.iload_n 1, 1) := by decide +kernel
theorem dX5_isLinked_25 : decode cX5_isLinked 25 = .ok (.iaload, 1) := by decide +kernel
theorem dX5_isLinked_26 : decode cX5_isLinked 26 = .ok (.laload, 1) := by decide +kernel
theorem dX5_isLinked_27 : decode cX5_isLinked 27 = .ok (.aload_n 0, 1) := by decide +kernel
theorem dX5_isLinked_28 : decode cX5_isLinked 28 = .ok (.getfield 26, 3) := by decide +kernel
theorem dX5_isLinked_31 : decode cX5_isLinked 31 = .ok (.getfield 135, 3) := by decide +kernel
theorem dX5_isLinked_34 : decode cX5_isLinked 34 = .ok (.iload_n 2, 1) := by decide +kernel
theorem dX5_isLinked_35 : decode cX5_isLinked 35 = .ok (.iaload, 1) := by decide +kernel
theorem dX5_isLinked_36 : decode cX5_isLinked 36 = .ok (.invokestatic 157, 3) := by decide +kernel
theorem dX5_isLinked_39 : decode cX5_isLinked 39 = .ok (.ireturn, 1) := by decide +kernel
theorem dX5_way_0 : decode cX5_way 0 = .ok (.aload_n 0, 1) := by decide +kernel
theorem dX5_way_1 : decode cX5_way 1 = .ok (.iload_n 1, 1) := by decide +kernel
theorem dX5_way_2 : decode cX5_way 2 = .ok (.invokevirtual 73, 3) := by decide +kernel
theorem dX5_way_5 : decode cX5_way 5 = .ok (.aload_n 0, 1) := by decide +kernel
theorem dX5_way_6 : decode cX5_way 6 = .ok (.iload_n 2, 1) := by decide +kernel
theorem dX5_way_7 : decode cX5_way 7 = .ok (.invokevirtual 73, 3) := by decide +kernel
theorem dX5_way_10 : decode cX5_way 10 = .ok (.iload_n 3, 1) := by decide +kernel
theorem dX5_way_11 : decode cX5_way 11 = .ok (.iconst 0, 1) := by decide +kernel
theorem dX5_way_12 : decode cX5_way 12 = .ok (.bipush 39, 2) := by decide +kernel
theorem dX5_way_14 : decode cX5_way 14 = .ok (.invokestatic 44, 3) := by decide +kernel
theorem dX5_way_17 : decode cX5_way 17 = .ok (.ifCond .ne 13, 3) := by decide +kernel
theorem dX5_way_30 : decode cX5_way 30 = .ok (.aload_n 0, 1) := by decide +kernel
theorem dX5_way_31 : decode cX5_way 31 = .ok (.getfield 26, 3) := by decide +kernel
theorem dX5_way_34 : decode cX5_way 34 = .ok (.aload_n 0, 1) := by decide +kernel
theorem dX5_way_35 : decode cX5_way 35 = .ok (.getfield 26, 3) := by decide +kernel
theorem dX5_way_38 : decode cX5_way 38 = .ok (.getfield 135, 3) := by decide +kernel
theorem dX5_way_41 : decode cX5_way 41 = .ok (.iload_n 1, 1) := by decide +kernel
theorem dX5_way_42 : decode cX5_way 42 = .ok (.iaload, 1) := by decide +kernel
theorem dX5_way_43 : decode cX5_way 43 = .ok (.aload_n 0, 1) := by decide +kernel
theorem dX5_way_44 : decode cX5_way 44 = .ok (.getfield 26, 3) := by decide +kernel
theorem dX5_way_47 : decode cX5_way 47 = .ok (.getfield 135, 3) := by decide +kernel
theorem dX5_way_50 : decode cX5_way 50 = .ok (.iload_n 2, 1) := by decide +kernel
theorem dX5_way_51 : decode cX5_way 51 = .ok (.iaload, 1) := by decide +kernel
theorem dX5_way_52 : decode cX5_way 52 = .ok (.iload_n 3, 1) := by decide +kernel
theorem dX5_way_53 : decode cX5_way 53 = .ok (.invokevirtual 190, 3) := by decide +kernel
theorem dX5_way_56 : decode cX5_way 56 = .ok (.ireturn, 1) := by decide +kernel
theorem dX5_between_0 : decode cX5_between 0 = .ok (.aload_n 0, 1) := by decide +kernel
theorem dX5_between_1 : decode cX5_between 1 = .ok (.iload_n 1, 1) := by decide +kernel
theorem dX5_between_2 : decode cX5_between 2 = .ok (.invokevirtual 73, 3) := by decide +kernel
theorem dX5_between_5 : decode cX5_between 5 = .ok (.aload_n 0, 1) := by decide +kernel
theorem dX5_between_6 : decode cX5_between 6 = .ok (.iload_n 2, 1) := by decide +kernel
theorem dX5_between_7 : decode cX5_between 7 = .ok (.invokevirtual 73, 3) := by decide +kernel
theorem dX5_between_10 : decode cX5_between 10 = .ok (.aload_n 0, 1) := by decide +kernel
theorem dX5_between_11 : decode cX5_between 11 = .ok (.getfield 26, 3) := by decide +kernel
theorem dX5_between_14 : decode cX5_between 14 = .ok (.getfield 151, 3) := by decide +kernel
theorem dX5_between_17 : decode cX5_between 17 = .ok (.aload_n 0, 1) := by decide +kernel
theorem dX5_between_18 : decode cX5_between 18 = .ok (.getfield 26, 3) := by decide +kernel
theorem dX5_between_21 : decode cX5_between 21 = .ok (.getfield 135, 3) := by decide +kernel
theorem dX5_between_24 : decode cX5_between 24 = .ok (.iload_n 1, 1) := by decide +kernel
theorem dX5_between_25 : decode cX5_between 25 = .ok (.iaload, 1) := by decide +kernel
theorem dX5_between_26 : decode cX5_between 26 = .ok (.laload, 1) := by decide +kernel
theorem dX5_between_27 : decode cX5_between 27 = .ok (.aload_n 0, 1) := by decide +kernel
theorem dX5_between_28 : decode cX5_between 28 = .ok (.getfield 26, 3) := by decide +kernel
theorem dX5_between_31 : decode cX5_between 31 = .ok (.getfield 154, 3) := by decide +kernel
theorem dX5_between_34 : decode cX5_between 34 = .ok (.aload_n 0, 1) := by decide +kernel
theorem dX5_between_35 : decode cX5_between 35 = .ok (.getfield 26, 3) := by decide +kernel
theorem dX5_between_38 : decode cX5_between 38 = .ok (.getfield 135, 3) := by decide +kernel
theorem dX5_between_41 : decode cX5_between 41 = .ok (.iload_n 2, 1) := by decide +kernel
theorem dX5_between_42 : decode cX5_between 42 = .ok (.iaload, 1) := by decide +kernel
theorem dX5_between_43 : decode cX5_between 43 = .ok (.laload, 1) := by decide +kernel
theorem dX5_between_44 : decode cX5_between 44 = .ok (.land, 1) := by decide +kernel
theorem dX5_between_45 : decode cX5_between 45 = .ok (.invokestatic 111, 3) := by decide +kernel
theorem dX5_between_48 : decode cX5_between 48 = .ok (.ireturn, 1) := by decide +kernel
theorem dX5_addFind_0 : decode cX5_addFind 0 = .ok (.aload_n 0, 1) := by decide +kernel
theorem dX5_addFind_1 : decode cX5_addFind 1 = .ok (.iload_n 1, 1) := by decide +kernel
theorem dX5_addFind_2 : decode cX5_addFind 2 = .ok (.invokevirtual 73, 3) := by decide +kernel
theorem dX5_addFind_5 : decode cX5_addFind 5 = .ok (.iload_n 2, 1) := by decide +kernel
theorem dX5_addFind_6 : decode cX5_addFind 6 = .ok (.iconst 0, 1) := by decide +kernel
theorem dX5_addFind_7 : decode cX5_addFind 7 = .ok (.bipush 9, 2) := by decide +kernel
theorem dX5_addFind_9 : decode cX5_addFind 9 = .ok (.invokestatic 44, 3) := by decide +kernel
theorem dX5_addFind_12 : decode cX5_addFind 12 = .ok (.ifCond .ne 13, 3) := by decide +kernel
theorem dX5_addFind_25 : decode cX5_addFind 25 = .ok (.iload_n 3, 1) := by decide +kernel
theorem dX5_addFind_26 : decode cX5_addFind 26 = .ok (.iload 4, 2) := by decide +kernel
theorem dX5_addFind_28 : decode cX5_addFind 28 = .ok (.invokestatic 195, 3) := by decide +kernel
theorem dX5_addFind_31 : decode cX5_addFind 31 = .ok (.iload_n 3, 1) := by decide +kernel
theorem dX5_addFind_32 : decode cX5_addFind 32 = .ok (.iload 4, 2) := by decide +kernel
theorem dX5_addFind_34 : decode cX5_addFind 34 = .ok (.if_icmp .le 13, 3) := by decide +kernel
theorem dX5_addFind_47 : decode cX5_addFind 47 = .ok (.aload_n 0, 1) := by decide +kernel
theorem dX5_addFind_48 : decode cX5_addFind 48 = .ok (.getfield 33, 3) := by decide +kernel
theorem dX5_addFind_51 : decode cX5_addFind 51 = .ok (.getfield 121, 3) := by decide +kernel
theorem dX5_addFind_54 : decode cX5_addFind 54 = .ok (.bipush 60, 2) := by decide +kernel
theorem dX5_addFind_56 : decode cX5_addFind 56 = .ok (.if_icmp .lt 13, 3) := by decide +kernel
theorem dX5_addFind_69 : decode cX5_addFind 69 = .ok (.aload_n 0, 1) := by decide +kernel
theorem dX5_addFind_70 : decode cX5_addFind 70 = .ok (.getfield 33, 3) := by decide +kernel
theorem dX5_addFind_73 : decode cX5_addFind 73 = .ok (.iload_n 1, 1) := by decide +kernel
theorem dX5_addFind_74 : decode cX5_addFind 74 = .ok (.iload_n 2, 1) := by decide +kernel
theorem dX5_addFind_75 : decode cX5_addFind 75 = .ok (.iload_n 3, 1) := by decide +kernel
theorem dX5_addFind_76 : decode cX5_addFind 76 = .ok (.iload 4, 2) := by decide +kernel
theorem dX5_addFind_78 : decode cX5_addFind 78 = .ok (.invokevirtual 202, 3) := by decide +kernel
theorem dX5_addFind_81 : decode cX5_addFind 81 = .ok (.istore 5, 2) := by decide +kernel
theorem dX5_addFind_83 : decode cX5_addFind 83 = .ok (.aload_n 0, 1) := by decide +kernel
theorem dX5_addFind_84 : decode cX5_addFind 84 = .ok (.invokevirtual 205, 3) := by decide +kernel
theorem dX5_addFind_87 : decode cX5_addFind 87 = .ok (.iload 5, 2) := by decide +kernel
theorem dX5_addFind_89 : decode cX5_addFind 89 = .ok (.ireturn, 1) := by decide +kernel
theorem dX5_find_0 : decode cX5_find 0 = .ok (.aload_n 0, 1) := by decide +kernel
theorem dX5_find_1 : decode cX5_find 1 = .ok (.iload_n 1, 1) := by decide +kernel
theorem dX5_find_2 : decode cX5_find 2 = .ok (.invokevirtual 208, 3) := by decide +kernel
theorem dX5_find_5 : decode cX5_find 5 = .ok (.iload_n 2, 1) := by decide +kernel
theorem dX5_find_6 : decode cX5_find 6 = .ok (.bipush 8, 2) := by decide +kernel
theorem dX5_find_8 : decode cX5_find 8 = .ok (.invokestatic 93, 3) := by decide +kernel
theorem dX5_find_11 : decode cX5_find 11 = .ok (.iload_n 2, 1) := by decide +kernel
theorem dX5_find_12 : decode cX5_find 12 = .ok (.tableswitch 114 0 6 #[44, 54, 64, 74, 84, 94, 104], 44) := by decide +kernel
theorem dX5_find_56 : decode cX5_find 56 = .ok (.aload_n 0, 1) := by decide +kernel
theorem dX5_find_57 : decode cX5_find 57 = .ok (.getfield 33, 3) := by decide +kernel
theorem dX5_find_60 : decode cX5_find 60 = .ok (.getfield 223, 3) := by decide +kernel
theorem dX5_find_63 : decode cX5_find 63 = .ok (.iload_n 1, 1) := by decide +kernel
theorem dX5_find_64 : decode cX5_find 64 = .ok (.iaload, 1) := by decide +kernel
theorem dX5_find_65 : decode cX5_find 65 = .ok (.ireturn, 1) := by decide +kernel
theorem dX5_find_66 : decode cX5_find 66 = .ok (.aload_n 0, 1) := by decide +kernel
theorem dX5_find_67 : decode cX5_find 67 = .ok (.getfield 33, 3) := by decide +kernel
theorem dX5_find_70 : decode cX5_find 70 = .ok (.getfield 225, 3) := by decide +kernel
theorem dX5_find_73 : decode cX5_find 73 = .ok (.iload_n 1, 1) := by decide +kernel
theorem dX5_find_74 : decode cX5_find 74 = .ok (.iaload, 1) := by decide +kernel
theorem dX5_find_75 : decode cX5_find 75 = .ok (.ireturn, 1) := by decide +kernel
theorem dX5_find_76 : decode cX5_find 76 = .ok (.aload_n 0, 1) := by decide +kernel
theorem dX5_find_77 : decode cX5_find 77 = .ok (.getfield 33, 3) := by decide +kernel
theorem dX5_find_80 : decode cX5_find 80 = .ok (.getfield 226, 3) := by decide +kernel
theorem dX5_find_83 : decode cX5_find 83 = .ok (.iload_n 1, 1) := by decide +kernel
theorem dX5_find_84 : decode cX5_find 84 = .ok (.iaload, 1) := by decide +kernel
theorem dX5_find_85 : decode cX5_find 85 = .ok (.ireturn, 1) := by decide +kernel
theorem dX5_find_86 : decode cX5_find 86 = .ok (.aload_n 0, 1) := by decide +kernel
theorem dX5_find_87 : decode cX5_find 87 = .ok (.getfield 33, 3) := by decide +kernel
theorem dX5_find_90 : decode cX5_find 90 = .ok (.getfield 229, 3) := by decide +kernel
theorem dX5_find_93 : decode cX5_find 93 = .ok (.iload_n 1, 1) := by decide +kernel
theorem dX5_find_94 : decode cX5_find 94 = .ok (.iaload, 1) := by decide +kernel
theorem dX5_find_95 : decode cX5_find 95 = .ok (.ireturn, 1) := by decide +kernel
theorem dX5_find_96 : decode cX5_find 96 = .ok (.aload_n 0, 1) := by decide +kernel
theorem dX5_find_97 : decode cX5_find 97 = .ok (.getfield 33, 3) := by decide +kernel
theorem dX5_find_100 : decode cX5_find 100 = .ok (.getfield 217, 3) := by decide +kernel
theorem dX5_find_103 : decode cX5_find 103 = .ok (.iload_n 1, 1) := by decide +kernel
theorem dX5_find_104 : decode cX5_find 104 = .ok (.iaload, 1) := by decide +kernel
theorem dX5_find_105 : decode cX5_find 105 = .ok (.ireturn, 1) := by decide +kernel
theorem dX5_find_106 : decode cX5_find 106 = .ok (.aload_n 0, 1) := by decide +kernel
theorem dX5_find_107 : decode cX5_find 107 = .ok (.getfield 33, 3) := by decide +kernel
theorem dX5_find_110 : decode cX5_find 110 = .ok (.getfield 220, 3) := by decide +kernel
theorem dX5_find_113 : decode cX5_find 113 = .ok (.iload_n 1, 1) := by decide +kernel
theorem dX5_find_114 : decode cX5_find 114 = .ok (.iaload, 1) := by decide +kernel
theorem dX5_find_115 : decode cX5_find 115 = .ok (.ireturn, 1) := by decide +kernel
theorem dX5_find_116 : decode cX5_find 116 = .ok (.aload_n 0, 1) := by decide +kernel
theorem dX5_find_117 : decode cX5_find 117 = .ok (.getfield 33, 3) := by decide +kernel
theorem dX5_find_120 : decode cX5_find 120 = .ok (.getfield 214, 3) := by decide +kernel
theorem dX5_find_123 : decode cX5_find 123 = .ok (.iload_n 1, 1) := by decide +kernel
theorem dX5_find_124 : decode cX5_find 124 = .ok (.iaload, 1) := by decide +kernel
theorem dX5_find_125 : decode cX5_find 125 = .ok (.ireturn, 1) := by decide +kernel
theorem dX5_find_126 : decode cX5_find 126 = .ok (.aload_n 0, 1) := by decide +kernel
theorem dX5_find_127 : decode cX5_find 127 = .ok (.iload_n 1, 1) := by decide +kernel
theorem dX5_find_128 : decode cX5_find 128 = .ok (.invokevirtual 232, 3) := by decide +kernel
theorem dX5_find_131 : decode cX5_find 131 = .ok (.ireturn, 1) := by decide +kernel
theorem dX5_date_0 : decode cX5_date 0 = .ok (.aload_n 0, 1) := by decide +kernel
theorem dX5_date_1 : decode cX5_date 1 = .ok (.iload_n 1, 1) := by decide +kernel
theorem dX5_date_2 : decode cX5_date 2 = .ok (.invokevirtual 73, 3) := by decide +kernel
theorem dX5_date_5 : decode cX5_date 5 = .ok (.iload_n 2, 1) := by decide +kernel
theorem dX5_date_6 : decode cX5_date 6 = .ok (.iload_n 3, 1) := by decide +kernel
theorem dX5_date_7 : decode cX5_date 7 = .ok (.invokestatic 195, 3) := by decide +kernel
theorem dX5_date_10 : decode cX5_date 10 = .ok (.aload_n 0, 1) := by decide +kernel
theorem dX5_date_11 : decode cX5_date 11 = .ok (.getfield 10, 3) := by decide +kernel
theorem dX5_date_14 : decode cX5_date 14 = .ok (.getfield 235, 3) := by decide +kernel
theorem dX5_date_17 : decode cX5_date 17 = .ok (.iload_n 1, 1) := by decide +kernel
theorem dX5_date_18 : decode cX5_date 18 = .ok (.invokestatic 157, 3) := by decide +kernel
theorem dX5_date_21 : decode cX5_date 21 = .ok (.ifCond .eq 7, 3) := by decide +kernel
theorem dX5_date_24 : decode cX5_date 24 = .ok (.iconst 1, 1) := by decide +kernel
theorem dX5_date_25 : decode cX5_date 25 = .ok (.goto 4, 3) := by decide +kernel
theorem dX5_date_28 : decode cX5_date 28 = .ok (.iconst 0, 1) := by decide +kernel
theorem dX5_date_29 : decode cX5_date 29 = .ok (.istore 4, 2) := by decide +kernel
theorem dX5_date_31 : decode cX5_date 31 = .ok (.aload_n 0, 1) := by decide +kernel
theorem dX5_date_32 : decode cX5_date 32 = .ok (.getfield 10, 3) := by decide +kernel
theorem dX5_date_35 : decode cX5_date 35 = .ok (.iload_n 1, 1) := by decide +kernel
theorem dX5_date_36 : decode cX5_date 36 = .ok (.iload_n 2, 1) := by decide +kernel
theorem dX5_date_37 : decode cX5_date 37 = .ok (.iload_n 3, 1) := by decide +kernel
theorem dX5_date_38 : decode cX5_date 38 = .ok (.invokevirtual 238, 3) := by decide +kernel
theorem dX5_date_41 : decode cX5_date 41 = .ok (.aload_n 0, 1) := by decide +kernel
theorem dX5_date_42 : decode cX5_date 42 = .ok (.invokevirtual 205, 3) := by decide +kernel
theorem dX5_date_45 : decode cX5_date 45 = .ok (.iload 4, 2) := by decide +kernel
theorem dX5_date_47 : decode cX5_date 47 = .ok (.ireturn, 1) := by decide +kernel
theorem dX5_bound_0 : decode cX5_bound 0 = .ok (.aload_n 0, 1) := by decide +kernel
theorem dX5_bound_1 : decode cX5_bound 1 = .ok (.iload_n 1, 1) := by decide +kernel
theorem dX5_bound_2 : decode cX5_bound 2 = .ok (.invokevirtual 73, 3) := by decide +kernel
theorem dX5_bound_5 : decode cX5_bound 5 = .ok (.aload_n 0, 1) := by decide +kernel
theorem dX5_bound_6 : decode cX5_bound 6 = .ok (.getfield 26, 3) := by decide +kernel
theorem dX5_bound_9 : decode cX5_bound 9 = .ok (.getfield 135, 3) := by decide +kernel
theorem dX5_bound_12 : decode cX5_bound 12 = .ok (.iload_n 1, 1) := by decide +kernel
theorem dX5_bound_13 : decode cX5_bound 13 = .ok (.iaload, 1) := by decide +kernel
theorem dX5_bound_14 : decode cX5_bound 14 = .ok (.istore_n 3, 1) := by decide +kernel
theorem dX5_bound_15 : decode cX5_bound 15 = .ok (.iload_n 2, 1) := by decide +kernel
theorem dX5_bound_16 : decode cX5_bound 16 = .ok (.ifCond .eq 15, 3) := by decide +kernel
theorem dX5_bound_19 : decode cX5_bound 19 = .ok (.aload_n 0, 1) := by decide +kernel
theorem dX5_bound_20 : decode cX5_bound 20 = .ok (.getfield 40, 3) := by decide +kernel
theorem dX5_bound_23 : decode cX5_bound 23 = .ok (.getfield 241, 3) := by decide +kernel
theorem dX5_bound_26 : decode cX5_bound 26 = .ok (.iload_n 3, 1) := by decide +kernel
theorem dX5_bound_27 : decode cX5_bound 27 = .ok (.iaload, 1) := by decide +kernel
theorem dX5_bound_28 : decode cX5_bound 28 = .ok (.goto 12, 3) := by decide +kernel
theorem dX5_bound_31 : decode cX5_bound 31 = .ok (.aload_n 0, 1) := by decide +kernel
theorem dX5_bound_32 : decode cX5_bound 32 = .ok (.getfield 40, 3) := by decide +kernel
theorem dX5_bound_35 : decode cX5_bound 35 = .ok (.getfield 244, 3) := by decide +kernel
theorem dX5_bound_38 : decode cX5_bound 38 = .ok (.iload_n 3, 1) := by decide +kernel
theorem dX5_bound_39 : decode cX5_bound 39 = .ok (.iaload, 1) := by decide +kernel
theorem dX5_bound_40 : decode cX5_bound 40 = .ok (.ireturn, 1) := by decide +kernel
theorem dX5_dig_0 : decode cX5_dig 0 = .ok (.aload_n 0, 1) := by decide +kernel
theorem dX5_dig_1 : decode cX5_dig 1 = .ok (.iload_n 1, 1) := by decide +kernel
theorem dX5_dig_2 : decode cX5_dig 2 = .ok (.invokevirtual 73, 3) := by decide +kernel
theorem dX5_dig_5 : decode cX5_dig 5 = .ok (.aload_n 0, 1) := by decide +kernel
theorem dX5_dig_6 : decode cX5_dig 6 = .ok (.iload_n 1, 1) := by decide +kernel
theorem dX5_dig_7 : decode cX5_dig 7 = .ok (.invokevirtual 252, 3) := by decide +kernel
theorem dX5_dig_10 : decode cX5_dig 10 = .ok (.ifCond .ne 14, 3) := by decide +kernel
theorem dX5_dig_24 : decode cX5_dig 24 = .ok (.aload_n 0, 1) := by decide +kernel
theorem dX5_dig_25 : decode cX5_dig 25 = .ok (.getfield 10, 3) := by decide +kernel
theorem dX5_dig_28 : decode cX5_dig 28 = .ok (.dup, 1) := by decide +kernel
theorem dX5_dig_29 : decode cX5_dig 29 = .ok (.getfield 122, 3) := by decide +kernel
theorem dX5_dig_32 : decode cX5_dig 32 = .ok (.iload_n 1, 1) := by decide +kernel
theorem dX5_dig_33 : decode cX5_dig 33 = .ok (.invokestatic 258, 3) := by decide +kernel
theorem dX5_dig_36 : decode cX5_dig 36 = .ok (.lor, 1) := by decide +kernel
theorem dX5_dig_37 : decode cX5_dig 37 = .ok (.putfield 122, 3) := by decide +kernel
theorem dX5_dig_40 : decode cX5_dig 40 = .ok (.aload_n 0, 1) := by decide +kernel
theorem dX5_dig_41 : decode cX5_dig 41 = .ok (.invokevirtual 262, 3) := by decide +kernel
theorem dX5_dig_44 : decode cX5_dig 44 = .ok (.invokestatic 111, 3) := by decide +kernel
theorem dX5_dig_47 : decode cX5_dig 47 = .ok (.ireturn, 1) := by decide +kernel
theorem dX5_next_0 : decode cX5_next 0 = .ok (.iload_n 1, 1) := by decide +kernel
theorem dX5_next_1 : decode cX5_next 1 = .ok (.invokestatic 177, 3) := by decide +kernel
theorem dX5_next_4 : decode cX5_next 4 = .ok (.aload_n 0, 1) := by decide +kernel
theorem dX5_next_5 : decode cX5_next 5 = .ok (.invokevirtual 262, 3) := by decide +kernel
theorem dX5_next_8 : decode cX5_next 8 = .ok (.iload_n 1, 1) := by decide +kernel
theorem dX5_next_9 : decode cX5_next 9 = .ok (.invokestatic 184, 3) := by decide +kernel
theorem dX5_next_12 : decode cX5_next 12 = .ok (.ireturn, 1) := by decide +kernel
theorem dX5_phaseAll_0 : decode cX5_phaseAll 0 = .ok (.iconst 0, 1) := by decide +kernel
theorem dX5_phaseAll_1 : decode cX5_phaseAll 1 = .ok (.istore_n 1, 1) := by decide +kernel
theorem dX5_phaseAll_2 : decode cX5_phaseAll 2 = .ok (.iconst 0, 1) := by decide +kernel
theorem dX5_phaseAll_3 : decode cX5_phaseAll 3 = .ok (.istore_n 2, 1) := by decide +kernel
theorem dX5_phaseAll_4 : decode cX5_phaseAll 4 = .ok (.iload_n 2, 1) := by decide +kernel
theorem dX5_phaseAll_5 : decode cX5_phaseAll 5 = .ok (.aload_n 0, 1) := by decide +kernel
theorem dX5_phaseAll_6 : decode cX5_phaseAll 6 = .ok (.getfield 10, 3) := by decide +kernel
theorem dX5_phaseAll_9 : decode cX5_phaseAll 9 = .ok (.getfield 55, 3) := by decide +kernel
theorem dX5_phaseAll_12 : decode cX5_phaseAll 12 = .ok (.if_icmp .ge 58, 3) := by decide +kernel
theorem dX5_phaseAll_15 : decode cX5_phaseAll 15 = .ok (.bipush 20, 2) := by decide +kernel
theorem dX5_phaseAll_17 : decode cX5_phaseAll 17 = .ok (.aload_n 0, 1) := by decide +kernel
theorem dX5_phaseAll_18 : decode cX5_phaseAll 18 = .ok (.getfield 26, 3) := by decide +kernel
theorem dX5_phaseAll_21 : decode cX5_phaseAll 21 = .ok (.getfield 145, 3) := by decide +kernel
theorem dX5_phaseAll_24 : decode cX5_phaseAll 24 = .ok (.aload_n 0, 1) := by decide +kernel
theorem dX5_phaseAll_25 : decode cX5_phaseAll 25 = .ok (.getfield 26, 3) := by decide +kernel
theorem dX5_phaseAll_28 : decode cX5_phaseAll 28 = .ok (.getfield 135, 3) := by decide +kernel
theorem dX5_phaseAll_31 : decode cX5_phaseAll 31 = .ok (.iload_n 2, 1) := by decide +kernel
theorem dX5_phaseAll_32 : decode cX5_phaseAll 32 = .ok (.iaload, 1) := by decide +kernel
theorem dX5_phaseAll_33 : decode cX5_phaseAll 33 = .ok (.iaload, 1) := by decide +kernel
theorem dX5_phaseAll_34 : decode cX5_phaseAll 34 = .ok (.invokestatic 267, 3) := by decide +kernel
theorem dX5_phaseAll_37 : decode cX5_phaseAll 37 = .ok (.istore_n 3, 1) := by decide +kernel
theorem dX5_phaseAll_38 : decode cX5_phaseAll 38 = .ok (.aload_n 0, 1) := by decide +kernel
theorem dX5_phaseAll_39 : decode cX5_phaseAll 39 = .ok (.getfield 10, 3) := by decide +kernel
theorem dX5_phaseAll_42 : decode cX5_phaseAll 42 = .ok (.getfield 161, 3) := by decide +kernel
theorem dX5_phaseAll_45 : decode cX5_phaseAll 45 = .ok (.iload_n 2, 1) := by decide +kernel
theorem dX5_phaseAll_46 : decode cX5_phaseAll 46 = .ok (.iaload, 1) := by decide +kernel
theorem dX5_phaseAll_47 : decode cX5_phaseAll 47 = .ok (.iload_n 3, 1) := by decide +kernel
theorem dX5_phaseAll_48 : decode cX5_phaseAll 48 = .ok (.if_icmp .eq 16, 3) := by decide +kernel
theorem dX5_phaseAll_51 : decode cX5_phaseAll 51 = .ok (.aload_n 0, 1) := by decide +kernel
theorem dX5_phaseAll_52 : decode cX5_phaseAll 52 = .ok (.getfield 10, 3) := by decide +kernel
theorem dX5_phaseAll_55 : decode cX5_phaseAll 55 = .ok (.getfield 161, 3) := by decide +kernel
theorem dX5_phaseAll_58 : decode cX5_phaseAll 58 = .ok (.iload_n 2, 1) := by decide +kernel
theorem dX5_phaseAll_59 : decode cX5_phaseAll 59 = .ok (.iload_n 3, 1) := by decide +kernel
theorem dX5_phaseAll_60 : decode cX5_phaseAll 60 = .ok (.iastore, 1) := by decide +kernel
theorem dX5_phaseAll_61 : decode cX5_phaseAll 61 = .ok (.iinc 1 1, 3) := by decide +kernel
theorem dX5_phaseAll_64 : decode cX5_phaseAll 64 = .ok (.iinc 2 1, 3) := by decide +kernel
theorem dX5_phaseAll_67 : decode cX5_phaseAll 67 = .ok (.goto (-63), 3) := by decide +kernel
theorem dX5_phaseAll_70 : decode cX5_phaseAll 70 = .ok (.iload_n 1, 1) := by decide +kernel
theorem dX5_phaseAll_71 : decode cX5_phaseAll 71 = .ok (.ireturn, 1) := by decide +kernel
theorem dX5_digest_0 : decode cX5_digest 0 = .ok (.ldc2_w 276, 3) := by decide +kernel
theorem dX5_digest_3 : decode cX5_digest 3 = .ok (.lstore_n 1, 1) := by decide +kernel
theorem dX5_digest_4 : decode cX5_digest 4 = .ok (.iconst 0, 1) := by decide +kernel
theorem dX5_digest_5 : decode cX5_digest 5 = .ok (.istore_n 3, 1) := by decide +kernel
theorem dX5_digest_6 : decode cX5_digest 6 = .ok (.iload_n 3, 1) := by decide +kernel
theorem dX5_digest_7 : decode cX5_digest 7 = .ok (.bipush 9, 2) := by decide +kernel
theorem dX5_digest_9 : decode cX5_digest 9 = .ok (.if_icmp .ge 22, 3) := by decide +kernel
theorem dX5_digest_12 : decode cX5_digest 12 = .ok (.lload_n 1, 1) := by decide +kernel
theorem dX5_digest_13 : decode cX5_digest 13 = .ok (.ldc2_w 278, 3) := by decide +kernel
theorem dX5_digest_16 : decode cX5_digest 16 = .ok (.lmul, 1) := by decide +kernel
theorem dX5_digest_17 : decode cX5_digest 17 = .ok (.aload_n 0, 1) := by decide +kernel
theorem dX5_digest_18 : decode cX5_digest 18 = .ok (.iload_n 3, 1) := by decide +kernel
theorem dX5_digest_19 : decode cX5_digest 19 = .ok (.invokevirtual 280, 3) := by decide +kernel
theorem dX5_digest_22 : decode cX5_digest 22 = .ok (.i2l, 1) := by decide +kernel
theorem dX5_digest_23 : decode cX5_digest 23 = .ok (.ladd, 1) := by decide +kernel
theorem dX5_digest_24 : decode cX5_digest 24 = .ok (.lstore_n 1, 1) := by decide +kernel
theorem dX5_digest_25 : decode cX5_digest 25 = .ok (.iinc 3 1, 3) := by decide +kernel
theorem dX5_digest_28 : decode cX5_digest 28 = .ok (.goto (-22), 3) := by decide +kernel
theorem dX5_digest_31 : decode cX5_digest 31 = .ok (.iconst 0, 1) := by decide +kernel
theorem dX5_digest_32 : decode cX5_digest 32 = .ok (.istore_n 3, 1) := by decide +kernel
theorem dX5_digest_33 : decode cX5_digest 33 = .ok (.iload_n 3, 1) := by decide +kernel
theorem dX5_digest_34 : decode cX5_digest 34 = .ok (.aload_n 0, 1) := by decide +kernel
theorem dX5_digest_35 : decode cX5_digest 35 = .ok (.getfield 10, 3) := by decide +kernel
theorem dX5_digest_38 : decode cX5_digest 38 = .ok (.getfield 55, 3) := by decide +kernel
theorem dX5_digest_41 : decode cX5_digest 41 = .ok (.if_icmp .ge 68, 3) := by decide +kernel
theorem dX5_digest_44 : decode cX5_digest 44 = .ok (.iconst 0, 1) := by decide +kernel
theorem dX5_digest_45 : decode cX5_digest 45 = .ok (.istore 4, 2) := by decide +kernel
theorem dX5_digest_47 : decode cX5_digest 47 = .ok (.iload 4, 2) := by decide +kernel
theorem dX5_digest_49 : decode cX5_digest 49 = .ok (.bipush 10, 2) := by decide +kernel
theorem dX5_digest_51 : decode cX5_digest 51 = .ok (.if_icmp .ge 24, 3) := by decide +kernel
theorem dX5_digest_54 : decode cX5_digest 54 = .ok (.lload_n 1, 1) := by decide +kernel
theorem dX5_digest_55 : decode cX5_digest 55 = .ok (.ldc2_w 278, 3) := by decide +kernel
theorem dX5_digest_58 : decode cX5_digest 58 = .ok (.lmul, 1) := by decide +kernel
theorem dX5_digest_59 : decode cX5_digest 59 = .ok (.aload_n 0, 1) := by decide +kernel
theorem dX5_digest_60 : decode cX5_digest 60 = .ok (.iload_n 3, 1) := by decide +kernel
theorem dX5_digest_61 : decode cX5_digest 61 = .ok (.iload 4, 2) := by decide +kernel
theorem dX5_digest_63 : decode cX5_digest 63 = .ok (.invokevirtual 283, 3) := by decide +kernel
theorem dX5_digest_66 : decode cX5_digest 66 = .ok (.i2l, 1) := by decide +kernel
theorem dX5_digest_67 : decode cX5_digest 67 = .ok (.ladd, 1) := by decide +kernel
theorem dX5_digest_68 : decode cX5_digest 68 = .ok (.lstore_n 1, 1) := by decide +kernel
theorem dX5_digest_69 : decode cX5_digest 69 = .ok (.iinc 4 1, 3) := by decide +kernel
theorem dX5_digest_72 : decode cX5_digest 72 = .ok (.goto (-25), 3) := by decide +kernel
theorem dX5_digest_75 : decode cX5_digest 75 = .ok (.lload_n 1, 1) := by decide +kernel
theorem dX5_digest_76 : decode cX5_digest 76 = .ok (.ldc2_w 278, 3) := by decide +kernel
theorem dX5_digest_79 : decode cX5_digest 79 = .ok (.lmul, 1) := by decide +kernel
theorem dX5_digest_80 : decode cX5_digest 80 = .ok (.aload_n 0, 1) := by decide +kernel
theorem dX5_digest_81 : decode cX5_digest 81 = .ok (.iload_n 3, 1) := by decide +kernel
theorem dX5_digest_82 : decode cX5_digest 82 = .ok (.iconst 0, 1) := by decide +kernel
theorem dX5_digest_83 : decode cX5_digest 83 = .ok (.invokevirtual 286, 3) := by decide +kernel
theorem dX5_digest_86 : decode cX5_digest 86 = .ok (.i2l, 1) := by decide +kernel
theorem dX5_digest_87 : decode cX5_digest 87 = .ok (.ladd, 1) := by decide +kernel
theorem dX5_digest_88 : decode cX5_digest 88 = .ok (.lstore_n 1, 1) := by decide +kernel
theorem dX5_digest_89 : decode cX5_digest 89 = .ok (.lload_n 1, 1) := by decide +kernel
theorem dX5_digest_90 : decode cX5_digest 90 = .ok (.ldc2_w 278, 3) := by decide +kernel
theorem dX5_digest_93 : decode cX5_digest 93 = .ok (.lmul, 1) := by decide +kernel
theorem dX5_digest_94 : decode cX5_digest 94 = .ok (.aload_n 0, 1) := by decide +kernel
theorem dX5_digest_95 : decode cX5_digest 95 = .ok (.iload_n 3, 1) := by decide +kernel
theorem dX5_digest_96 : decode cX5_digest 96 = .ok (.iconst 1, 1) := by decide +kernel
theorem dX5_digest_97 : decode cX5_digest 97 = .ok (.invokevirtual 286, 3) := by decide +kernel
theorem dX5_digest_100 : decode cX5_digest 100 = .ok (.i2l, 1) := by decide +kernel
theorem dX5_digest_101 : decode cX5_digest 101 = .ok (.ladd, 1) := by decide +kernel
theorem dX5_digest_102 : decode cX5_digest 102 = .ok (.lstore_n 1, 1) := by decide +kernel
theorem dX5_digest_103 : decode cX5_digest 103 = .ok (.iinc 3 1, 3) := by decide +kernel
theorem dX5_digest_106 : decode cX5_digest 106 = .ok (.goto (-73), 3) := by decide +kernel
theorem dX5_digest_109 : decode cX5_digest 109 = .ok (.iconst 0, 1) := by decide +kernel
theorem dX5_digest_110 : decode cX5_digest 110 = .ok (.istore_n 3, 1) := by decide +kernel
theorem dX5_digest_111 : decode cX5_digest 111 = .ok (.iload_n 3, 1) := by decide +kernel
theorem dX5_digest_112 : decode cX5_digest 112 = .ok (.aload_n 0, 1) := by decide +kernel
theorem dX5_digest_113 : decode cX5_digest 113 = .ok (.getfield 19, 3) := by decide +kernel
theorem dX5_digest_116 : decode cX5_digest 116 = .ok (.getfield 77, 3) := by decide +kernel
theorem dX5_digest_119 : decode cX5_digest 119 = .ok (.if_icmp .ge 39, 3) := by decide +kernel
theorem dX5_digest_122 : decode cX5_digest 122 = .ok (.iconst 0, 1) := by decide +kernel
theorem dX5_digest_123 : decode cX5_digest 123 = .ok (.istore 4, 2) := by decide +kernel
theorem dX5_digest_125 : decode cX5_digest 125 = .ok (.iload 4, 2) := by decide +kernel
theorem dX5_digest_127 : decode cX5_digest 127 = .ok (.iconst 3, 1) := by decide +kernel
theorem dX5_digest_128 : decode cX5_digest 128 = .ok (.if_icmp .ge 24, 3) := by decide +kernel
theorem dX5_digest_131 : decode cX5_digest 131 = .ok (.lload_n 1, 1) := by decide +kernel
theorem dX5_digest_132 : decode cX5_digest 132 = .ok (.ldc2_w 278, 3) := by decide +kernel
theorem dX5_digest_135 : decode cX5_digest 135 = .ok (.lmul, 1) := by decide +kernel
theorem dX5_digest_136 : decode cX5_digest 136 = .ok (.aload_n 0, 1) := by decide +kernel
theorem dX5_digest_137 : decode cX5_digest 137 = .ok (.iload_n 3, 1) := by decide +kernel
theorem dX5_digest_138 : decode cX5_digest 138 = .ok (.iload 4, 2) := by decide +kernel
theorem dX5_digest_140 : decode cX5_digest 140 = .ok (.invokevirtual 290, 3) := by decide +kernel
theorem dX5_digest_143 : decode cX5_digest 143 = .ok (.i2l, 1) := by decide +kernel
theorem dX5_digest_144 : decode cX5_digest 144 = .ok (.ladd, 1) := by decide +kernel
theorem dX5_digest_145 : decode cX5_digest 145 = .ok (.lstore_n 1, 1) := by decide +kernel
theorem dX5_digest_146 : decode cX5_digest 146 = .ok (.iinc 4 1, 3) := by decide +kernel
theorem dX5_digest_149 : decode cX5_digest 149 = .ok (.goto (-24), 3) := by decide +kernel
theorem dX5_digest_152 : decode cX5_digest 152 = .ok (.iinc 3 1, 3) := by decide +kernel
theorem dX5_digest_155 : decode cX5_digest 155 = .ok (.goto (-44), 3) := by decide +kernel
theorem dX5_digest_158 : decode cX5_digest 158 = .ok (.iconst 0, 1) := by decide +kernel
theorem dX5_digest_159 : decode cX5_digest 159 = .ok (.istore_n 3, 1) := by decide +kernel
theorem dX5_digest_160 : decode cX5_digest 160 = .ok (.iload_n 3, 1) := by decide +kernel
theorem dX5_digest_161 : decode cX5_digest 161 = .ok (.aload_n 0, 1) := by decide +kernel
theorem dX5_digest_162 : decode cX5_digest 162 = .ok (.getfield 33, 3) := by decide +kernel
theorem dX5_digest_165 : decode cX5_digest 165 = .ok (.getfield 121, 3) := by decide +kernel
theorem dX5_digest_168 : decode cX5_digest 168 = .ok (.if_icmp .ge 40, 3) := by decide +kernel
theorem dX5_digest_171 : decode cX5_digest 171 = .ok (.iconst 0, 1) := by decide +kernel
theorem dX5_digest_172 : decode cX5_digest 172 = .ok (.istore 4, 2) := by decide +kernel
theorem dX5_digest_174 : decode cX5_digest 174 = .ok (.iload 4, 2) := by decide +kernel
theorem dX5_digest_176 : decode cX5_digest 176 = .ok (.bipush 8, 2) := by decide +kernel
theorem dX5_digest_178 : decode cX5_digest 178 = .ok (.if_icmp .ge 24, 3) := by decide +kernel
theorem dX5_digest_181 : decode cX5_digest 181 = .ok (.lload_n 1, 1) := by decide +kernel
theorem dX5_digest_182 : decode cX5_digest 182 = .ok (.ldc2_w 278, 3) := by decide +kernel
theorem dX5_digest_185 : decode cX5_digest 185 = .ok (.lmul, 1) := by decide +kernel
theorem dX5_digest_186 : decode cX5_digest 186 = .ok (.aload_n 0, 1) := by decide +kernel
theorem dX5_digest_187 : decode cX5_digest 187 = .ok (.iload_n 3, 1) := by decide +kernel
theorem dX5_digest_188 : decode cX5_digest 188 = .ok (.iload 4, 2) := by decide +kernel
theorem dX5_digest_190 : decode cX5_digest 190 = .ok (.invokevirtual 293, 3) := by decide +kernel
theorem dX5_digest_193 : decode cX5_digest 193 = .ok (.i2l, 1) := by decide +kernel
theorem dX5_digest_194 : decode cX5_digest 194 = .ok (.ladd, 1) := by decide +kernel
theorem dX5_digest_195 : decode cX5_digest 195 = .ok (.lstore_n 1, 1) := by decide +kernel
theorem dX5_digest_196 : decode cX5_digest 196 = .ok (.iinc 4 1, 3) := by decide +kernel
theorem dX5_digest_199 : decode cX5_digest 199 = .ok (.goto (-25), 3) := by decide +kernel
theorem dX5_digest_202 : decode cX5_digest 202 = .ok (.iinc 3 1, 3) := by decide +kernel
theorem dX5_digest_205 : decode cX5_digest 205 = .ok (.goto (-45), 3) := by decide +kernel
theorem dX5_digest_208 : decode cX5_digest 208 = .ok (.lload_n 1, 1) := by decide +kernel
theorem dX5_digest_209 : decode cX5_digest 209 = .ok (.lreturn, 1) := by decide +kernel
theorem dX5_requireUnit_0 : decode cX5_requireUnit 0 = .ok (.iload_n 1, 1) := by decide +kernel
theorem dX5_requireUnit_1 : decode cX5_requireUnit 1 = .ok (.iconst 0, 1) := by decide +kernel
theorem dX5_requireUnit_2 : decode cX5_requireUnit 2 = .ok (.aload_n 0, 1) := by decide +kernel
theorem dX5_requireUnit_3 : decode cX5_requireUnit 3 = .ok (.getfield 10, 3) := by decide +kernel
theorem dX5_requireUnit_6 : decode cX5_requireUnit 6 = .ok (.getfield 55, 3) := by decide +kernel
theorem dX5_requireUnit_9 : decode cX5_requireUnit 9 = .ok (.iconst 1, 1) := by decide +kernel
theorem dX5_requireUnit_10 : decode cX5_requireUnit 10 = .ok (.isub, 1) := by decide +kernel
theorem dX5_requireUnit_11 : decode cX5_requireUnit 11 = .ok (.invokestatic 44, 3) := by decide +kernel
theorem dX5_requireUnit_14 : decode cX5_requireUnit 14 = .ok (.ifCond .ne 14, 3) := by decide +kernel
theorem dX5_requireUnit_28 : decode cX5_requireUnit 28 = .ok (.return_, 1) := by decide +kernel
theorem dX5_requireRelation_0 : decode cX5_requireRelation 0 = .ok (.iload_n 1, 1) := by decide +kernel
theorem dX5_requireRelation_1 : decode cX5_requireRelation 1 = .ok (.iconst 0, 1) := by decide +kernel
theorem dX5_requireRelation_2 : decode cX5_requireRelation 2 = .ok (.aload_n 0, 1) := by decide +kernel
theorem dX5_requireRelation_3 : decode cX5_requireRelation 3 = .ok (.getfield 19, 3) := by decide +kernel
theorem dX5_requireRelation_6 : decode cX5_requireRelation 6 = .ok (.getfield 77, 3) := by decide +kernel
theorem dX5_requireRelation_9 : decode cX5_requireRelation 9 = .ok (.iconst 1, 1) := by decide +kernel
theorem dX5_requireRelation_10 : decode cX5_requireRelation 10 = .ok (.isub, 1) := by decide +kernel
theorem dX5_requireRelation_11 : decode cX5_requireRelation 11 = .ok (.invokestatic 44, 3) := by decide +kernel
theorem dX5_requireRelation_14 : decode cX5_requireRelation 14 = .ok (.ifCond .ne 14, 3) := by decide +kernel
theorem dX5_requireRelation_28 : decode cX5_requireRelation 28 = .ok (.return_, 1) := by decide +kernel
theorem dX5_requireFind_0 : decode cX5_requireFind 0 = .ok (.iload_n 1, 1) := by decide +kernel
theorem dX5_requireFind_1 : decode cX5_requireFind 1 = .ok (.iconst 0, 1) := by decide +kernel
theorem dX5_requireFind_2 : decode cX5_requireFind 2 = .ok (.aload_n 0, 1) := by decide +kernel
theorem dX5_requireFind_3 : decode cX5_requireFind 3 = .ok (.getfield 33, 3) := by decide +kernel
theorem dX5_requireFind_6 : decode cX5_requireFind 6 = .ok (.getfield 121, 3) := by decide +kernel
theorem dX5_requireFind_9 : decode cX5_requireFind 9 = .ok (.iconst 1, 1) := by decide +kernel
theorem dX5_requireFind_10 : decode cX5_requireFind 10 = .ok (.isub, 1) := by decide +kernel
theorem dX5_requireFind_11 : decode cX5_requireFind 11 = .ok (.invokestatic 44, 3) := by decide +kernel
theorem dX5_requireFind_14 : decode cX5_requireFind 14 = .ok (.ifCond .ne 14, 3) := by decide +kernel
theorem dX5_requireFind_28 : decode cX5_requireFind 28 = .ok (.return_, 1) := by decide +kernel
theorem dX5_requireFact_0 : decode cX5_requireFact 0 = .ok (.iload_n 0, 1) := by decide +kernel
theorem dX5_requireFact_1 : decode cX5_requireFact 1 = .ok (.iconst 0, 1) := by decide +kernel
theorem dX5_requireFact_2 : decode cX5_requireFact 2 = .ok (.iload_n 1, 1) := by decide +kernel
theorem dX5_requireFact_3 : decode cX5_requireFact 3 = .ok (.iconst 1, 1) := by decide +kernel
theorem dX5_requireFact_4 : decode cX5_requireFact 4 = .ok (.isub, 1) := by decide +kernel
theorem dX5_requireFact_5 : decode cX5_requireFact 5 = .ok (.invokestatic 44, 3) := by decide +kernel
theorem dX5_requireFact_8 : decode cX5_requireFact 8 = .ok (.ifCond .ne 14, 3) := by decide +kernel
theorem dX5_requireFact_22 : decode cX5_requireFact 22 = .ok (.return_, 1) := by decide +kernel
theorem dX5_requirePlace_0 : decode cX5_requirePlace 0 = .ok (.iload_n 0, 1) := by decide +kernel
theorem dX5_requirePlace_1 : decode cX5_requirePlace 1 = .ok (.iconst 0, 1) := by decide +kernel
theorem dX5_requirePlace_2 : decode cX5_requirePlace 2 = .ok (.bipush 39, 2) := by decide +kernel
theorem dX5_requirePlace_4 : decode cX5_requirePlace 4 = .ok (.invokestatic 44, 3) := by decide +kernel
theorem dX5_requirePlace_7 : decode cX5_requirePlace 7 = .ok (.ifCond .ne 14, 3) := by decide +kernel
theorem dX5_requirePlace_21 : decode cX5_requirePlace 21 = .ok (.return_, 1) := by decide +kernel
theorem dX5_requireYears_0 : decode cX5_requireYears 0 = .ok (.iload_n 0, 1) := by decide +kernel
theorem dX5_requireYears_1 : decode cX5_requireYears 1 = .ok (.sipush (-5000), 3) := by decide +kernel
theorem dX5_requireYears_4 : decode cX5_requireYears 4 = .ok (.sipush 2000, 3) := by decide +kernel
theorem dX5_requireYears_7 : decode cX5_requireYears 7 = .ok (.invokestatic 44, 3) := by decide +kernel
theorem dX5_requireYears_10 : decode cX5_requireYears 10 = .ok (.ifCond .eq 16, 3) := by decide +kernel
theorem dX5_requireYears_13 : decode cX5_requireYears 13 = .ok (.iload_n 1, 1) := by decide +kernel
theorem dX5_requireYears_14 : decode cX5_requireYears 14 = .ok (.sipush (-5000), 3) := by decide +kernel
theorem dX5_requireYears_17 : decode cX5_requireYears 17 = .ok (.sipush 2000, 3) := by decide +kernel
theorem dX5_requireYears_20 : decode cX5_requireYears 20 = .ok (.invokestatic 44, 3) := by decide +kernel
theorem dX5_requireYears_23 : decode cX5_requireYears 23 = .ok (.ifCond .ne 14, 3) := by decide +kernel
theorem dX5_requireYears_37 : decode cX5_requireYears 37 = .ok (.return_, 1) := by decide +kernel
theorem dX5_isWithin_0 : decode cX5_isWithin 0 = .ok (.iload_n 0, 1) := by decide +kernel
theorem dX5_isWithin_1 : decode cX5_isWithin 1 = .ok (.iload_n 1, 1) := by decide +kernel
theorem dX5_isWithin_2 : decode cX5_isWithin 2 = .ok (.if_icmp .lt 12, 3) := by decide +kernel
theorem dX5_isWithin_5 : decode cX5_isWithin 5 = .ok (.iload_n 0, 1) := by decide +kernel
theorem dX5_isWithin_6 : decode cX5_isWithin 6 = .ok (.iload_n 2, 1) := by decide +kernel
theorem dX5_isWithin_7 : decode cX5_isWithin 7 = .ok (.if_icmp .gt 7, 3) := by decide +kernel
theorem dX5_isWithin_10 : decode cX5_isWithin 10 = .ok (.iconst 1, 1) := by decide +kernel
theorem dX5_isWithin_11 : decode cX5_isWithin 11 = .ok (.goto 4, 3) := by decide +kernel
theorem dX5_isWithin_14 : decode cX5_isWithin 14 = .ok (.iconst 0, 1) := by decide +kernel
theorem dX5_isWithin_15 : decode cX5_isWithin 15 = .ok (.ireturn, 1) := by decide +kernel
theorem dX5_renewMatrix_0 : decode cX5_renewMatrix 0 = .ok (.aload_n 0, 1) := by decide +kernel
theorem dX5_renewMatrix_1 : decode cX5_renewMatrix 1 = .ok (.getfield 26, 3) := by decide +kernel
theorem dX5_renewMatrix_4 : decode cX5_renewMatrix 4 = .ok (.aload_n 0, 1) := by decide +kernel
theorem dX5_renewMatrix_5 : decode cX5_renewMatrix 5 = .ok (.getfield 10, 3) := by decide +kernel
theorem dX5_renewMatrix_8 : decode cX5_renewMatrix 8 = .ok (.getfield 55, 3) := by decide +kernel
theorem dX5_renewMatrix_11 : decode cX5_renewMatrix 11 = .ok (.aload_n 0, 1) := by decide +kernel
theorem dX5_renewMatrix_12 : decode cX5_renewMatrix 12 = .ok (.getfield 19, 3) := by decide +kernel
theorem dX5_renewMatrix_15 : decode cX5_renewMatrix 15 = .ok (.invokevirtual 315, 3) := by decide +kernel
theorem dX5_renewMatrix_18 : decode cX5_renewMatrix 18 = .ok (.aload_n 0, 1) := by decide +kernel
theorem dX5_renewMatrix_19 : decode cX5_renewMatrix 19 = .ok (.invokevirtual 205, 3) := by decide +kernel
theorem dX5_renewMatrix_22 : decode cX5_renewMatrix 22 = .ok (.return_, 1) := by decide +kernel
theorem dX5_renewBounds_0 : decode cX5_renewBounds 0 = .ok (.aload_n 0, 1) := by decide +kernel
theorem dX5_renewBounds_1 : decode cX5_renewBounds 1 = .ok (.getfield 40, 3) := by decide +kernel
theorem dX5_renewBounds_4 : decode cX5_renewBounds 4 = .ok (.aload_n 0, 1) := by decide +kernel
theorem dX5_renewBounds_5 : decode cX5_renewBounds 5 = .ok (.getfield 10, 3) := by decide +kernel
theorem dX5_renewBounds_8 : decode cX5_renewBounds 8 = .ok (.aload_n 0, 1) := by decide +kernel
theorem dX5_renewBounds_9 : decode cX5_renewBounds 9 = .ok (.getfield 33, 3) := by decide +kernel
theorem dX5_renewBounds_12 : decode cX5_renewBounds 12 = .ok (.aload_n 0, 1) := by decide +kernel
theorem dX5_renewBounds_13 : decode cX5_renewBounds 13 = .ok (.getfield 26, 3) := by decide +kernel
theorem dX5_renewBounds_16 : decode cX5_renewBounds 16 = .ok (.invokevirtual 319, 3) := by decide +kernel
theorem dX5_renewBounds_19 : decode cX5_renewBounds 19 = .ok (.return_, 1) := by decide +kernel
theorem dX5_whyRefused_0 : decode cX5_whyRefused 0 = .ok (.iload_n 2, 1) := by decide +kernel
theorem dX5_whyRefused_1 : decode cX5_whyRefused 1 = .ok (.iload_n 3, 1) := by decide +kernel
theorem dX5_whyRefused_2 : decode cX5_whyRefused 2 = .ok (.if_icmp .ne 5, 3) := by decide +kernel
theorem dX5_whyRefused_5 : decode cX5_whyRefused 5 = .ok (.iconst 1, 1) := by decide +kernel
theorem dX5_whyRefused_6 : decode cX5_whyRefused 6 = .ok (.ireturn, 1) := by decide +kernel
theorem dX5_whyRefused_7 : decode cX5_whyRefused 7 = .ok (.iload_n 1, 1) := by decide +kernel
theorem dX5_whyRefused_8 : decode cX5_whyRefused 8 = .ok (.aload_n 0, 1) := by decide +kernel
theorem dX5_whyRefused_9 : decode cX5_whyRefused 9 = .ok (.getfield 10, 3) := by decide +kernel
theorem dX5_whyRefused_12 : decode cX5_whyRefused 12 = .ok (.getfield 138, 3) := by decide +kernel
theorem dX5_whyRefused_15 : decode cX5_whyRefused 15 = .ok (.iload_n 2, 1) := by decide +kernel
theorem dX5_whyRefused_16 : decode cX5_whyRefused 16 = .ok (.iaload, 1) := by decide +kernel
theorem dX5_whyRefused_17 : decode cX5_whyRefused 17 = .ok (.aload_n 0, 1) := by decide +kernel
theorem dX5_whyRefused_18 : decode cX5_whyRefused 18 = .ok (.getfield 10, 3) := by decide +kernel
theorem dX5_whyRefused_21 : decode cX5_whyRefused 21 = .ok (.getfield 138, 3) := by decide +kernel
theorem dX5_whyRefused_24 : decode cX5_whyRefused 24 = .ok (.iload_n 3, 1) := by decide +kernel
theorem dX5_whyRefused_25 : decode cX5_whyRefused 25 = .ok (.iaload, 1) := by decide +kernel
theorem dX5_whyRefused_26 : decode cX5_whyRefused 26 = .ok (.invokestatic 322, 3) := by decide +kernel
theorem dX5_whyRefused_29 : decode cX5_whyRefused 29 = .ok (.ifCond .ne 5, 3) := by decide +kernel
theorem dX5_whyRefused_32 : decode cX5_whyRefused 32 = .ok (.iconst 2, 1) := by decide +kernel
theorem dX5_whyRefused_33 : decode cX5_whyRefused 33 = .ok (.ireturn, 1) := by decide +kernel
theorem dX5_whyRefused_34 : decode cX5_whyRefused 34 = .ok (.aload_n 0, 1) := by decide +kernel
theorem dX5_whyRefused_35 : decode cX5_whyRefused 35 = .ok (.getfield 19, 3) := by decide +kernel
theorem dX5_whyRefused_38 : decode cX5_whyRefused 38 = .ok (.iload_n 1, 1) := by decide +kernel
theorem dX5_whyRefused_39 : decode cX5_whyRefused 39 = .ok (.iload_n 2, 1) := by decide +kernel
theorem dX5_whyRefused_40 : decode cX5_whyRefused 40 = .ok (.iload_n 3, 1) := by decide +kernel
theorem dX5_whyRefused_41 : decode cX5_whyRefused 41 = .ok (.invokevirtual 325, 3) := by decide +kernel
theorem dX5_whyRefused_44 : decode cX5_whyRefused 44 = .ok (.ifCond .eq 5, 3) := by decide +kernel
theorem dX5_whyRefused_47 : decode cX5_whyRefused 47 = .ok (.iconst 3, 1) := by decide +kernel
theorem dX5_whyRefused_48 : decode cX5_whyRefused 48 = .ok (.ireturn, 1) := by decide +kernel
theorem dX5_whyRefused_49 : decode cX5_whyRefused 49 = .ok (.aload_n 0, 1) := by decide +kernel
theorem dX5_whyRefused_50 : decode cX5_whyRefused 50 = .ok (.iload_n 1, 1) := by decide +kernel
theorem dX5_whyRefused_51 : decode cX5_whyRefused 51 = .ok (.iload_n 2, 1) := by decide +kernel
theorem dX5_whyRefused_52 : decode cX5_whyRefused 52 = .ok (.iload_n 3, 1) := by decide +kernel
theorem dX5_whyRefused_53 : decode cX5_whyRefused 53 = .ok (.invokevirtual 328, 3) := by decide +kernel
theorem dX5_whyRefused_56 : decode cX5_whyRefused 56 = .ok (.ifCond .eq 7, 3) := by decide +kernel
theorem dX5_whyRefused_59 : decode cX5_whyRefused 59 = .ok (.iconst 4, 1) := by decide +kernel
theorem dX5_whyRefused_60 : decode cX5_whyRefused 60 = .ok (.goto 4, 3) := by decide +kernel
theorem dX5_whyRefused_63 : decode cX5_whyRefused 63 = .ok (.iconst 0, 1) := by decide +kernel
theorem dX5_whyRefused_64 : decode cX5_whyRefused 64 = .ok (.ireturn, 1) := by decide +kernel
theorem dX5_doSortsFit_0 : decode cX5_doSortsFit 0 = .ok (.iload_n 0, 1) := by decide +kernel
theorem dX5_doSortsFit_1 : decode cX5_doSortsFit 1 = .ok (.tableswitch 80 1 4 #[31, 42, 58, 69], 31) := by decide +kernel
theorem dX5_doSortsFit_32 : decode cX5_doSortsFit 32 = .ok (.iload_n 1, 1) := by decide +kernel
theorem dX5_doSortsFit_33 : decode cX5_doSortsFit 33 = .ok (.iconst 1, 1) := by decide +kernel
theorem dX5_doSortsFit_34 : decode cX5_doSortsFit 34 = .ok (.if_icmp .ne 7, 3) := by decide +kernel
theorem dX5_doSortsFit_37 : decode cX5_doSortsFit 37 = .ok (.iconst 1, 1) := by decide +kernel
theorem dX5_doSortsFit_38 : decode cX5_doSortsFit 38 = .ok (.goto 4, 3) := by decide +kernel
theorem dX5_doSortsFit_41 : decode cX5_doSortsFit 41 = .ok (.iconst 0, 1) := by decide +kernel
theorem dX5_doSortsFit_42 : decode cX5_doSortsFit 42 = .ok (.ireturn, 1) := by decide +kernel
theorem dX5_doSortsFit_43 : decode cX5_doSortsFit 43 = .ok (.iload_n 1, 1) := by decide +kernel
theorem dX5_doSortsFit_44 : decode cX5_doSortsFit 44 = .ok (.iconst 2, 1) := by decide +kernel
theorem dX5_doSortsFit_45 : decode cX5_doSortsFit 45 = .ok (.if_icmp .ne 12, 3) := by decide +kernel
theorem dX5_doSortsFit_48 : decode cX5_doSortsFit 48 = .ok (.iload_n 2, 1) := by decide +kernel
theorem dX5_doSortsFit_49 : decode cX5_doSortsFit 49 = .ok (.iconst 1, 1) := by decide +kernel
theorem dX5_doSortsFit_50 : decode cX5_doSortsFit 50 = .ok (.if_icmp .ne 7, 3) := by decide +kernel
theorem dX5_doSortsFit_53 : decode cX5_doSortsFit 53 = .ok (.iconst 1, 1) := by decide +kernel
theorem dX5_doSortsFit_54 : decode cX5_doSortsFit 54 = .ok (.goto 4, 3) := by decide +kernel
theorem dX5_doSortsFit_57 : decode cX5_doSortsFit 57 = .ok (.iconst 0, 1) := by decide +kernel
theorem dX5_doSortsFit_58 : decode cX5_doSortsFit 58 = .ok (.ireturn, 1) := by decide +kernel
theorem dX5_doSortsFit_59 : decode cX5_doSortsFit 59 = .ok (.iload_n 1, 1) := by decide +kernel
theorem dX5_doSortsFit_60 : decode cX5_doSortsFit 60 = .ok (.iconst 3, 1) := by decide +kernel
theorem dX5_doSortsFit_61 : decode cX5_doSortsFit 61 = .ok (.if_icmp .ne 7, 3) := by decide +kernel
theorem dX5_doSortsFit_64 : decode cX5_doSortsFit 64 = .ok (.iconst 1, 1) := by decide +kernel
theorem dX5_doSortsFit_65 : decode cX5_doSortsFit 65 = .ok (.goto 4, 3) := by decide +kernel
theorem dX5_doSortsFit_68 : decode cX5_doSortsFit 68 = .ok (.iconst 0, 1) := by decide +kernel
theorem dX5_doSortsFit_69 : decode cX5_doSortsFit 69 = .ok (.ireturn, 1) := by decide +kernel
theorem dX5_doSortsFit_70 : decode cX5_doSortsFit 70 = .ok (.iload_n 1, 1) := by decide +kernel
theorem dX5_doSortsFit_71 : decode cX5_doSortsFit 71 = .ok (.iload_n 2, 1) := by decide +kernel
theorem dX5_doSortsFit_72 : decode cX5_doSortsFit 72 = .ok (.if_icmp .ne 7, 3) := by decide +kernel
theorem dX5_doSortsFit_75 : decode cX5_doSortsFit 75 = .ok (.iconst 1, 1) := by decide +kernel
theorem dX5_doSortsFit_76 : decode cX5_doSortsFit 76 = .ok (.goto 4, 3) := by decide +kernel
theorem dX5_doSortsFit_79 : decode cX5_doSortsFit 79 = .ok (.iconst 0, 1) := by decide +kernel
theorem dX5_doSortsFit_80 : decode cX5_doSortsFit 80 = .ok (.ireturn, 1) := by decide +kernel
theorem dX5_doSortsFit_81 : decode cX5_doSortsFit 81 = .ok (.iconst 1, 1) := by decide +kernel
theorem dX5_doSortsFit_82 : decode cX5_doSortsFit 82 = .ok (.ireturn, 1) := by decide +kernel
theorem dX5_wouldMakeLoop_0 : decode cX5_wouldMakeLoop 0 = .ok (.iload_n 1, 1) := by decide +kernel
theorem dX5_wouldMakeLoop_1 : decode cX5_wouldMakeLoop 1 = .ok (.iconst 4, 1) := by decide +kernel
theorem dX5_wouldMakeLoop_2 : decode cX5_wouldMakeLoop 2 = .ok (.if_icmp .ne 33, 3) := by decide +kernel
theorem dX5_wouldMakeLoop_5 : decode cX5_wouldMakeLoop 5 = .ok (.aload_n 0, 1) := by decide +kernel
theorem dX5_wouldMakeLoop_6 : decode cX5_wouldMakeLoop 6 = .ok (.getfield 26, 3) := by decide +kernel
theorem dX5_wouldMakeLoop_9 : decode cX5_wouldMakeLoop 9 = .ok (.iload_n 2, 1) := by decide +kernel
theorem dX5_wouldMakeLoop_10 : decode cX5_wouldMakeLoop 10 = .ok (.iload_n 3, 1) := by decide +kernel
theorem dX5_wouldMakeLoop_11 : decode cX5_wouldMakeLoop 11 = .ok (.invokevirtual 171, 3) := by decide +kernel
theorem dX5_wouldMakeLoop_14 : decode cX5_wouldMakeLoop 14 = .ok (.ifCond .ne 15, 3) := by decide +kernel
theorem dX5_wouldMakeLoop_17 : decode cX5_wouldMakeLoop 17 = .ok (.aload_n 0, 1) := by decide +kernel
theorem dX5_wouldMakeLoop_18 : decode cX5_wouldMakeLoop 18 = .ok (.getfield 26, 3) := by decide +kernel
theorem dX5_wouldMakeLoop_21 : decode cX5_wouldMakeLoop 21 = .ok (.iload_n 3, 1) := by decide +kernel
theorem dX5_wouldMakeLoop_22 : decode cX5_wouldMakeLoop 22 = .ok (.iload_n 2, 1) := by decide +kernel
theorem dX5_wouldMakeLoop_23 : decode cX5_wouldMakeLoop 23 = .ok (.invokevirtual 171, 3) := by decide +kernel
theorem dX5_wouldMakeLoop_26 : decode cX5_wouldMakeLoop 26 = .ok (.ifCond .eq 7, 3) := by decide +kernel
theorem dX5_wouldMakeLoop_29 : decode cX5_wouldMakeLoop 29 = .ok (.iconst 1, 1) := by decide +kernel
theorem dX5_wouldMakeLoop_30 : decode cX5_wouldMakeLoop 30 = .ok (.goto 4, 3) := by decide +kernel
theorem dX5_wouldMakeLoop_33 : decode cX5_wouldMakeLoop 33 = .ok (.iconst 0, 1) := by decide +kernel
theorem dX5_wouldMakeLoop_34 : decode cX5_wouldMakeLoop 34 = .ok (.ireturn, 1) := by decide +kernel
theorem dX5_wouldMakeLoop_35 : decode cX5_wouldMakeLoop 35 = .ok (.aload_n 0, 1) := by decide +kernel
theorem dX5_wouldMakeLoop_36 : decode cX5_wouldMakeLoop 36 = .ok (.getfield 26, 3) := by decide +kernel
theorem dX5_wouldMakeLoop_39 : decode cX5_wouldMakeLoop 39 = .ok (.iload_n 2, 1) := by decide +kernel
theorem dX5_wouldMakeLoop_40 : decode cX5_wouldMakeLoop 40 = .ok (.iload_n 3, 1) := by decide +kernel
theorem dX5_wouldMakeLoop_41 : decode cX5_wouldMakeLoop 41 = .ok (.invokevirtual 167, 3) := by decide +kernel
theorem dX5_wouldMakeLoop_44 : decode cX5_wouldMakeLoop 44 = .ok (.ifCond .ne 15, 3) := by decide +kernel
theorem dX5_wouldMakeLoop_47 : decode cX5_wouldMakeLoop 47 = .ok (.aload_n 0, 1) := by decide +kernel
theorem dX5_wouldMakeLoop_48 : decode cX5_wouldMakeLoop 48 = .ok (.getfield 26, 3) := by decide +kernel
theorem dX5_wouldMakeLoop_51 : decode cX5_wouldMakeLoop 51 = .ok (.iload_n 3, 1) := by decide +kernel
theorem dX5_wouldMakeLoop_52 : decode cX5_wouldMakeLoop 52 = .ok (.iload_n 2, 1) := by decide +kernel
theorem dX5_wouldMakeLoop_53 : decode cX5_wouldMakeLoop 53 = .ok (.invokevirtual 171, 3) := by decide +kernel
theorem dX5_wouldMakeLoop_56 : decode cX5_wouldMakeLoop 56 = .ok (.ifCond .eq 7, 3) := by decide +kernel
theorem dX5_wouldMakeLoop_59 : decode cX5_wouldMakeLoop 59 = .ok (.iconst 1, 1) := by decide +kernel
theorem dX5_wouldMakeLoop_60 : decode cX5_wouldMakeLoop 60 = .ok (.goto 4, 3) := by decide +kernel
theorem dX5_wouldMakeLoop_63 : decode cX5_wouldMakeLoop 63 = .ok (.iconst 0, 1) := by decide +kernel
theorem dX5_wouldMakeLoop_64 : decode cX5_wouldMakeLoop 64 = .ok (.ireturn, 1) := by decide +kernel
theorem dX5_bodiesInDoubt_0 : decode cX5_bodiesInDoubt 0 = .ok (.lconst 0, 1) := by decide +kernel
theorem dX5_bodiesInDoubt_1 : decode cX5_bodiesInDoubt 1 = .ok (.lstore_n 1, 1) := by decide +kernel
theorem dX5_bodiesInDoubt_2 : decode cX5_bodiesInDoubt 2 = .ok (.iconst 0, 1) := by decide +kernel
theorem dX5_bodiesInDoubt_3 : decode cX5_bodiesInDoubt 3 = .ok (.istore_n 3, 1) := by decide +kernel
theorem dX5_bodiesInDoubt_4 : decode cX5_bodiesInDoubt 4 = .ok (.iload_n 3, 1) := by decide +kernel
theorem dX5_bodiesInDoubt_5 : decode cX5_bodiesInDoubt 5 = .ok (.aload_n 0, 1) := by decide +kernel
theorem dX5_bodiesInDoubt_6 : decode cX5_bodiesInDoubt 6 = .ok (.getfield 10, 3) := by decide +kernel
theorem dX5_bodiesInDoubt_9 : decode cX5_bodiesInDoubt 9 = .ok (.getfield 55, 3) := by decide +kernel
theorem dX5_bodiesInDoubt_12 : decode cX5_bodiesInDoubt 12 = .ok (.if_icmp .ge 51, 3) := by decide +kernel
theorem dX5_bodiesInDoubt_15 : decode cX5_bodiesInDoubt 15 = .ok (.aload_n 0, 1) := by decide +kernel
theorem dX5_bodiesInDoubt_16 : decode cX5_bodiesInDoubt 16 = .ok (.getfield 26, 3) := by decide +kernel
theorem dX5_bodiesInDoubt_19 : decode cX5_bodiesInDoubt 19 = .ok (.getfield 107, 3) := by decide +kernel
theorem dX5_bodiesInDoubt_22 : decode cX5_bodiesInDoubt 22 = .ok (.iload_n 3, 1) := by decide +kernel
theorem dX5_bodiesInDoubt_23 : decode cX5_bodiesInDoubt 23 = .ok (.invokestatic 157, 3) := by decide +kernel
theorem dX5_bodiesInDoubt_26 : decode cX5_bodiesInDoubt 26 = .ok (.ifCond .eq 31, 3) := by decide +kernel
theorem dX5_bodiesInDoubt_29 : decode cX5_bodiesInDoubt 29 = .ok (.aload_n 0, 1) := by decide +kernel
theorem dX5_bodiesInDoubt_30 : decode cX5_bodiesInDoubt 30 = .ok (.getfield 40, 3) := by decide +kernel
theorem dX5_bodiesInDoubt_33 : decode cX5_bodiesInDoubt 33 = .ok (.getfield 244, 3) := by decide +kernel
theorem dX5_bodiesInDoubt_36 : decode cX5_bodiesInDoubt 36 = .ok (.iload_n 3, 1) := by decide +kernel
theorem dX5_bodiesInDoubt_37 : decode cX5_bodiesInDoubt 37 = .ok (.iaload, 1) := by decide +kernel
theorem dX5_bodiesInDoubt_38 : decode cX5_bodiesInDoubt 38 = .ok (.aload_n 0, 1) := by decide +kernel
theorem dX5_bodiesInDoubt_39 : decode cX5_bodiesInDoubt 39 = .ok (.getfield 40, 3) := by decide +kernel
theorem dX5_bodiesInDoubt_42 : decode cX5_bodiesInDoubt 42 = .ok (.getfield 241, 3) := by decide +kernel
theorem dX5_bodiesInDoubt_45 : decode cX5_bodiesInDoubt 45 = .ok (.iload_n 3, 1) := by decide +kernel
theorem dX5_bodiesInDoubt_46 : decode cX5_bodiesInDoubt 46 = .ok (.iaload, 1) := by decide +kernel
theorem dX5_bodiesInDoubt_47 : decode cX5_bodiesInDoubt 47 = .ok (.if_icmp .le 10, 3) := by decide +kernel
theorem dX5_bodiesInDoubt_50 : decode cX5_bodiesInDoubt 50 = .ok (.lload_n 1, 1) := by decide +kernel
theorem dX5_bodiesInDoubt_51 : decode cX5_bodiesInDoubt 51 = .ok (.iload_n 3, 1) := by decide +kernel
theorem dX5_bodiesInDoubt_52 : decode cX5_bodiesInDoubt 52 = .ok (.invokestatic 258, 3) := by decide +kernel
theorem dX5_bodiesInDoubt_55 : decode cX5_bodiesInDoubt 55 = .ok (.lor, 1) := by decide +kernel
theorem dX5_bodiesInDoubt_56 : decode cX5_bodiesInDoubt 56 = .ok (.lstore_n 1, 1) := by decide +kernel
theorem dX5_bodiesInDoubt_57 : decode cX5_bodiesInDoubt 57 = .ok (.iinc 3 1, 3) := by decide +kernel
theorem dX5_bodiesInDoubt_60 : decode cX5_bodiesInDoubt 60 = .ok (.goto (-56), 3) := by decide +kernel
theorem dX5_bodiesInDoubt_63 : decode cX5_bodiesInDoubt 63 = .ok (.lload_n 1, 1) := by decide +kernel
theorem dX5_bodiesInDoubt_64 : decode cX5_bodiesInDoubt 64 = .ok (.lreturn, 1) := by decide +kernel
theorem dX5_misfit_0 : decode cX5_misfit 0 = .ok (.aload_n 0, 1) := by decide +kernel
theorem dX5_misfit_1 : decode cX5_misfit 1 = .ok (.getfield 26, 3) := by decide +kernel
theorem dX5_misfit_4 : decode cX5_misfit 4 = .ok (.getfield 135, 3) := by decide +kernel
theorem dX5_misfit_7 : decode cX5_misfit 7 = .ok (.aload_n 0, 1) := by decide +kernel
theorem dX5_misfit_8 : decode cX5_misfit 8 = .ok (.getfield 33, 3) := by decide +kernel
theorem dX5_misfit_11 : decode cX5_misfit 11 = .ok (.getfield 223, 3) := by decide +kernel
theorem dX5_misfit_14 : decode cX5_misfit 14 = .ok (.iload_n 1, 1) := by decide +kernel
theorem dX5_misfit_15 : decode cX5_misfit 15 = .ok (.iaload, 1) := by decide +kernel
theorem dX5_misfit_16 : decode cX5_misfit 16 = .ok (.iaload, 1) := by decide +kernel
theorem dX5_misfit_17 : decode cX5_misfit 17 = .ok (.istore_n 2, 1) := by decide +kernel
theorem dX5_misfit_18 : decode cX5_misfit 18 = .ok (.aload_n 0, 1) := by decide +kernel
theorem dX5_misfit_19 : decode cX5_misfit 19 = .ok (.getfield 33, 3) := by decide +kernel
theorem dX5_misfit_22 : decode cX5_misfit 22 = .ok (.getfield 226, 3) := by decide +kernel
theorem dX5_misfit_25 : decode cX5_misfit 25 = .ok (.iload_n 1, 1) := by decide +kernel
theorem dX5_misfit_26 : decode cX5_misfit 26 = .ok (.iaload, 1) := by decide +kernel
theorem dX5_misfit_27 : decode cX5_misfit 27 = .ok (.aload_n 0, 1) := by decide +kernel
theorem dX5_misfit_28 : decode cX5_misfit 28 = .ok (.getfield 40, 3) := by decide +kernel
theorem dX5_misfit_31 : decode cX5_misfit 31 = .ok (.getfield 241, 3) := by decide +kernel
theorem dX5_misfit_34 : decode cX5_misfit 34 = .ok (.iload_n 2, 1) := by decide +kernel
theorem dX5_misfit_35 : decode cX5_misfit 35 = .ok (.iaload, 1) := by decide +kernel
theorem dX5_misfit_36 : decode cX5_misfit 36 = .ok (.if_icmp .le 5, 3) := by decide +kernel
theorem dX5_misfit_39 : decode cX5_misfit 39 = .ok (.iconst 2, 1) := by decide +kernel
theorem dX5_misfit_40 : decode cX5_misfit 40 = .ok (.ireturn, 1) := by decide +kernel
theorem dX5_misfit_41 : decode cX5_misfit 41 = .ok (.aload_n 0, 1) := by decide +kernel
theorem dX5_misfit_42 : decode cX5_misfit 42 = .ok (.getfield 33, 3) := by decide +kernel
theorem dX5_misfit_45 : decode cX5_misfit 45 = .ok (.getfield 229, 3) := by decide +kernel
theorem dX5_misfit_48 : decode cX5_misfit 48 = .ok (.iload_n 1, 1) := by decide +kernel
theorem dX5_misfit_49 : decode cX5_misfit 49 = .ok (.iaload, 1) := by decide +kernel
theorem dX5_misfit_50 : decode cX5_misfit 50 = .ok (.aload_n 0, 1) := by decide +kernel
theorem dX5_misfit_51 : decode cX5_misfit 51 = .ok (.getfield 40, 3) := by decide +kernel
theorem dX5_misfit_54 : decode cX5_misfit 54 = .ok (.getfield 244, 3) := by decide +kernel
theorem dX5_misfit_57 : decode cX5_misfit 57 = .ok (.iload_n 2, 1) := by decide +kernel
theorem dX5_misfit_58 : decode cX5_misfit 58 = .ok (.iaload, 1) := by decide +kernel
theorem dX5_misfit_59 : decode cX5_misfit 59 = .ok (.if_icmp .ge 7, 3) := by decide +kernel
theorem dX5_misfit_62 : decode cX5_misfit 62 = .ok (.iconst 1, 1) := by decide +kernel
theorem dX5_misfit_63 : decode cX5_misfit 63 = .ok (.goto 4, 3) := by decide +kernel
theorem dX5_misfit_66 : decode cX5_misfit 66 = .ok (.iconst 0, 1) := by decide +kernel
theorem dX5_misfit_67 : decode cX5_misfit 67 = .ok (.ireturn, 1) := by decide +kernel
theorem dX5_canBeDug_0 : decode cX5_canBeDug 0 = .ok (.aload_n 0, 1) := by decide +kernel
theorem dX5_canBeDug_1 : decode cX5_canBeDug 1 = .ok (.getfield 10, 3) := by decide +kernel
theorem dX5_canBeDug_4 : decode cX5_canBeDug 4 = .ok (.getfield 122, 3) := by decide +kernel
theorem dX5_canBeDug_7 : decode cX5_canBeDug 7 = .ok (.iload_n 1, 1) := by decide +kernel
theorem dX5_canBeDug_8 : decode cX5_canBeDug 8 = .ok (.invokestatic 157, 3) := by decide +kernel
theorem dX5_canBeDug_11 : decode cX5_canBeDug 11 = .ok (.ifCond .eq 5, 3) := by decide +kernel
theorem dX5_canBeDug_14 : decode cX5_canBeDug 14 = .ok (.iconst 0, 1) := by decide +kernel
theorem dX5_canBeDug_15 : decode cX5_canBeDug 15 = .ok (.ireturn, 1) := by decide +kernel
theorem dX5_canBeDug_16 : decode cX5_canBeDug 16 = .ok (.iconst 0, 1) := by decide +kernel
theorem dX5_canBeDug_17 : decode cX5_canBeDug 17 = .ok (.istore_n 2, 1) := by decide +kernel
theorem dX5_canBeDug_18 : decode cX5_canBeDug 18 = .ok (.iload_n 2, 1) := by decide +kernel
theorem dX5_canBeDug_19 : decode cX5_canBeDug 19 = .ok (.aload_n 0, 1) := by decide +kernel
theorem dX5_canBeDug_20 : decode cX5_canBeDug 20 = .ok (.getfield 10, 3) := by decide +kernel
theorem dX5_canBeDug_23 : decode cX5_canBeDug 23 = .ok (.getfield 55, 3) := by decide +kernel
theorem dX5_canBeDug_26 : decode cX5_canBeDug 26 = .ok (.if_icmp .ge 37, 3) := by decide +kernel
theorem dX5_canBeDug_29 : decode cX5_canBeDug 29 = .ok (.aload_n 0, 1) := by decide +kernel
theorem dX5_canBeDug_30 : decode cX5_canBeDug 30 = .ok (.getfield 26, 3) := by decide +kernel
theorem dX5_canBeDug_33 : decode cX5_canBeDug 33 = .ok (.iload_n 2, 1) := by decide +kernel
theorem dX5_canBeDug_34 : decode cX5_canBeDug 34 = .ok (.iload_n 1, 1) := by decide +kernel
theorem dX5_canBeDug_35 : decode cX5_canBeDug 35 = .ok (.invokevirtual 171, 3) := by decide +kernel
theorem dX5_canBeDug_38 : decode cX5_canBeDug 38 = .ok (.ifCond .eq 19, 3) := by decide +kernel
theorem dX5_canBeDug_41 : decode cX5_canBeDug 41 = .ok (.aload_n 0, 1) := by decide +kernel
theorem dX5_canBeDug_42 : decode cX5_canBeDug 42 = .ok (.getfield 10, 3) := by decide +kernel
theorem dX5_canBeDug_45 : decode cX5_canBeDug 45 = .ok (.getfield 122, 3) := by decide +kernel
theorem dX5_canBeDug_48 : decode cX5_canBeDug 48 = .ok (.iload_n 2, 1) := by decide +kernel
theorem dX5_canBeDug_49 : decode cX5_canBeDug 49 = .ok (.invokestatic 157, 3) := by decide +kernel
theorem dX5_canBeDug_52 : decode cX5_canBeDug 52 = .ok (.ifCond .ne 5, 3) := by decide +kernel
theorem dX5_canBeDug_55 : decode cX5_canBeDug 55 = .ok (.iconst 0, 1) := by decide +kernel
theorem dX5_canBeDug_56 : decode cX5_canBeDug 56 = .ok (.ireturn, 1) := by decide +kernel
theorem dX5_canBeDug_57 : decode cX5_canBeDug 57 = .ok (.iinc 2 1, 3) := by decide +kernel
theorem dX5_canBeDug_60 : decode cX5_canBeDug 60 = .ok (.goto (-42), 3) := by decide +kernel
theorem dX5_canBeDug_63 : decode cX5_canBeDug 63 = .ok (.iconst 1, 1) := by decide +kernel
theorem dX5_canBeDug_64 : decode cX5_canBeDug 64 = .ok (.ireturn, 1) := by decide +kernel
theorem dX5_unitsToDig_0 : decode cX5_unitsToDig 0 = .ok (.lconst 0, 1) := by decide +kernel
theorem dX5_unitsToDig_1 : decode cX5_unitsToDig 1 = .ok (.lstore_n 1, 1) := by decide +kernel
theorem dX5_unitsToDig_2 : decode cX5_unitsToDig 2 = .ok (.iconst 0, 1) := by decide +kernel
theorem dX5_unitsToDig_3 : decode cX5_unitsToDig 3 = .ok (.istore_n 3, 1) := by decide +kernel
theorem dX5_unitsToDig_4 : decode cX5_unitsToDig 4 = .ok (.iload_n 3, 1) := by decide +kernel
theorem dX5_unitsToDig_5 : decode cX5_unitsToDig 5 = .ok (.aload_n 0, 1) := by decide +kernel
theorem dX5_unitsToDig_6 : decode cX5_unitsToDig 6 = .ok (.getfield 10, 3) := by decide +kernel
theorem dX5_unitsToDig_9 : decode cX5_unitsToDig 9 = .ok (.getfield 55, 3) := by decide +kernel
theorem dX5_unitsToDig_12 : decode cX5_unitsToDig 12 = .ok (.if_icmp .ge 24, 3) := by decide +kernel
theorem dX5_unitsToDig_15 : decode cX5_unitsToDig 15 = .ok (.aload_n 0, 1) := by decide +kernel
theorem dX5_unitsToDig_16 : decode cX5_unitsToDig 16 = .ok (.iload_n 3, 1) := by decide +kernel
theorem dX5_unitsToDig_17 : decode cX5_unitsToDig 17 = .ok (.invokevirtual 252, 3) := by decide +kernel
theorem dX5_unitsToDig_20 : decode cX5_unitsToDig 20 = .ok (.ifCond .eq 10, 3) := by decide +kernel
theorem dX5_unitsToDig_23 : decode cX5_unitsToDig 23 = .ok (.lload_n 1, 1) := by decide +kernel
theorem dX5_unitsToDig_24 : decode cX5_unitsToDig 24 = .ok (.iload_n 3, 1) := by decide +kernel
theorem dX5_unitsToDig_25 : decode cX5_unitsToDig 25 = .ok (.invokestatic 258, 3) := by decide +kernel
theorem dX5_unitsToDig_28 : decode cX5_unitsToDig 28 = .ok (.lor, 1) := by decide +kernel
theorem dX5_unitsToDig_29 : decode cX5_unitsToDig 29 = .ok (.lstore_n 1, 1) := by decide +kernel
theorem dX5_unitsToDig_30 : decode cX5_unitsToDig 30 = .ok (.iinc 3 1, 3) := by decide +kernel
theorem dX5_unitsToDig_33 : decode cX5_unitsToDig 33 = .ok (.goto (-29), 3) := by decide +kernel
theorem dX5_unitsToDig_36 : decode cX5_unitsToDig 36 = .ok (.lload_n 1, 1) := by decide +kernel
theorem dX5_unitsToDig_37 : decode cX5_unitsToDig 37 = .ok (.lreturn, 1) := by decide +kernel
theorem dX5_isPairOutOfPhase_0 : decode cX5_isPairOutOfPhase 0 = .ok (.aload_n 0, 1) := by decide +kernel
theorem dX5_isPairOutOfPhase_1 : decode cX5_isPairOutOfPhase 1 = .ok (.getfield 26, 3) := by decide +kernel
theorem dX5_isPairOutOfPhase_4 : decode cX5_isPairOutOfPhase 4 = .ok (.iload_n 1, 1) := by decide +kernel
theorem dX5_isPairOutOfPhase_5 : decode cX5_isPairOutOfPhase 5 = .ok (.iload_n 2, 1) := by decide +kernel
theorem dX5_isPairOutOfPhase_6 : decode cX5_isPairOutOfPhase 6 = .ok (.invokevirtual 167, 3) := by decide +kernel
theorem dX5_isPairOutOfPhase_9 : decode cX5_isPairOutOfPhase 9 = .ok (.ifCond .eq 35, 3) := by decide +kernel
theorem dX5_isPairOutOfPhase_12 : decode cX5_isPairOutOfPhase 12 = .ok (.iload_n 1, 1) := by decide +kernel
theorem dX5_isPairOutOfPhase_13 : decode cX5_isPairOutOfPhase 13 = .ok (.iload_n 2, 1) := by decide +kernel
theorem dX5_isPairOutOfPhase_14 : decode cX5_isPairOutOfPhase 14 = .ok (.if_icmp .ge 28, 3) := by decide +kernel
theorem dX5_isPairOutOfPhase_17 : decode cX5_isPairOutOfPhase 17 = .ok (.aload_n 0, 1) := by decide +kernel
theorem dX5_isPairOutOfPhase_18 : decode cX5_isPairOutOfPhase 18 = .ok (.getfield 10, 3) := by decide +kernel
theorem dX5_isPairOutOfPhase_21 : decode cX5_isPairOutOfPhase 21 = .ok (.getfield 161, 3) := by decide +kernel
theorem dX5_isPairOutOfPhase_24 : decode cX5_isPairOutOfPhase 24 = .ok (.iload_n 1, 1) := by decide +kernel
theorem dX5_isPairOutOfPhase_25 : decode cX5_isPairOutOfPhase 25 = .ok (.iaload, 1) := by decide +kernel
theorem dX5_isPairOutOfPhase_26 : decode cX5_isPairOutOfPhase 26 = .ok (.aload_n 0, 1) := by decide +kernel
theorem dX5_isPairOutOfPhase_27 : decode cX5_isPairOutOfPhase 27 = .ok (.getfield 10, 3) := by decide +kernel
theorem dX5_isPairOutOfPhase_30 : decode cX5_isPairOutOfPhase 30 = .ok (.getfield 161, 3) := by decide +kernel
theorem dX5_isPairOutOfPhase_33 : decode cX5_isPairOutOfPhase 33 = .ok (.iload_n 2, 1) := by decide +kernel
theorem dX5_isPairOutOfPhase_34 : decode cX5_isPairOutOfPhase 34 = .ok (.iaload, 1) := by decide +kernel
theorem dX5_isPairOutOfPhase_35 : decode cX5_isPairOutOfPhase 35 = .ok (.if_icmp .eq 7, 3) := by decide +kernel
theorem dX5_isPairOutOfPhase_38 : decode cX5_isPairOutOfPhase 38 = .ok (.iconst 1, 1) := by decide +kernel
theorem dX5_isPairOutOfPhase_39 : decode cX5_isPairOutOfPhase 39 = .ok (.goto 4, 3) := by decide +kernel
theorem dX5_isPairOutOfPhase_42 : decode cX5_isPairOutOfPhase 42 = .ok (.iconst 0, 1) := by decide +kernel
theorem dX5_isPairOutOfPhase_43 : decode cX5_isPairOutOfPhase 43 = .ok (.ireturn, 1) := by decide +kernel
theorem dX5_isPairOutOfPhase_44 : decode cX5_isPairOutOfPhase 44 = .ok (.aload_n 0, 1) := by decide +kernel
theorem dX5_isPairOutOfPhase_45 : decode cX5_isPairOutOfPhase 45 = .ok (.getfield 26, 3) := by decide +kernel
theorem dX5_isPairOutOfPhase_48 : decode cX5_isPairOutOfPhase 48 = .ok (.iload_n 1, 1) := by decide +kernel
theorem dX5_isPairOutOfPhase_49 : decode cX5_isPairOutOfPhase 49 = .ok (.iload_n 2, 1) := by decide +kernel
theorem dX5_isPairOutOfPhase_50 : decode cX5_isPairOutOfPhase 50 = .ok (.invokevirtual 171, 3) := by decide +kernel
theorem dX5_isPairOutOfPhase_53 : decode cX5_isPairOutOfPhase 53 = .ok (.ifCond .eq 28, 3) := by decide +kernel
theorem dX5_isPairOutOfPhase_56 : decode cX5_isPairOutOfPhase 56 = .ok (.aload_n 0, 1) := by decide +kernel
theorem dX5_isPairOutOfPhase_57 : decode cX5_isPairOutOfPhase 57 = .ok (.getfield 10, 3) := by decide +kernel
theorem dX5_isPairOutOfPhase_60 : decode cX5_isPairOutOfPhase 60 = .ok (.getfield 161, 3) := by decide +kernel
theorem dX5_isPairOutOfPhase_63 : decode cX5_isPairOutOfPhase 63 = .ok (.iload_n 1, 1) := by decide +kernel
theorem dX5_isPairOutOfPhase_64 : decode cX5_isPairOutOfPhase 64 = .ok (.iaload, 1) := by decide +kernel
theorem dX5_isPairOutOfPhase_65 : decode cX5_isPairOutOfPhase 65 = .ok (.aload_n 0, 1) := by decide +kernel
theorem dX5_isPairOutOfPhase_66 : decode cX5_isPairOutOfPhase 66 = .ok (.getfield 10, 3) := by decide +kernel
theorem dX5_isPairOutOfPhase_69 : decode cX5_isPairOutOfPhase 69 = .ok (.getfield 161, 3) := by decide +kernel
theorem dX5_isPairOutOfPhase_72 : decode cX5_isPairOutOfPhase 72 = .ok (.iload_n 2, 1) := by decide +kernel
theorem dX5_isPairOutOfPhase_73 : decode cX5_isPairOutOfPhase 73 = .ok (.iaload, 1) := by decide +kernel
theorem dX5_isPairOutOfPhase_74 : decode cX5_isPairOutOfPhase 74 = .ok (.if_icmp .ge 7, 3) := by decide +kernel
theorem dX5_isPairOutOfPhase_77 : decode cX5_isPairOutOfPhase 77 = .ok (.iconst 1, 1) := by decide +kernel
theorem dX5_isPairOutOfPhase_78 : decode cX5_isPairOutOfPhase 78 = .ok (.goto 4, 3) := by decide +kernel
theorem dX5_isPairOutOfPhase_81 : decode cX5_isPairOutOfPhase 81 = .ok (.iconst 0, 1) := by decide +kernel
theorem dX5_isPairOutOfPhase_82 : decode cX5_isPairOutOfPhase 82 = .ok (.ireturn, 1) := by decide +kernel
theorem dX5_pairsOutOfPhase_0 : decode cX5_pairsOutOfPhase 0 = .ok (.iconst 0, 1) := by decide +kernel
theorem dX5_pairsOutOfPhase_1 : decode cX5_pairsOutOfPhase 1 = .ok (.istore_n 1, 1) := by decide +kernel
theorem dX5_pairsOutOfPhase_2 : decode cX5_pairsOutOfPhase 2 = .ok (.iconst 0, 1) := by decide +kernel
theorem dX5_pairsOutOfPhase_3 : decode cX5_pairsOutOfPhase 3 = .ok (.istore_n 2, 1) := by decide +kernel
theorem dX5_pairsOutOfPhase_4 : decode cX5_pairsOutOfPhase 4 = .ok (.iload_n 2, 1) := by decide +kernel
theorem dX5_pairsOutOfPhase_5 : decode cX5_pairsOutOfPhase 5 = .ok (.aload_n 0, 1) := by decide +kernel
theorem dX5_pairsOutOfPhase_6 : decode cX5_pairsOutOfPhase 6 = .ok (.getfield 10, 3) := by decide +kernel
theorem dX5_pairsOutOfPhase_9 : decode cX5_pairsOutOfPhase 9 = .ok (.getfield 55, 3) := by decide +kernel
theorem dX5_pairsOutOfPhase_12 : decode cX5_pairsOutOfPhase 12 = .ok (.if_icmp .ge 40, 3) := by decide +kernel
theorem dX5_pairsOutOfPhase_15 : decode cX5_pairsOutOfPhase 15 = .ok (.iconst 0, 1) := by decide +kernel
theorem dX5_pairsOutOfPhase_16 : decode cX5_pairsOutOfPhase 16 = .ok (.istore_n 3, 1) := by decide +kernel
theorem dX5_pairsOutOfPhase_17 : decode cX5_pairsOutOfPhase 17 = .ok (.iload_n 3, 1) := by decide +kernel
theorem dX5_pairsOutOfPhase_18 : decode cX5_pairsOutOfPhase 18 = .ok (.aload_n 0, 1) := by decide +kernel
theorem dX5_pairsOutOfPhase_19 : decode cX5_pairsOutOfPhase 19 = .ok (.getfield 10, 3) := by decide +kernel
theorem dX5_pairsOutOfPhase_22 : decode cX5_pairsOutOfPhase 22 = .ok (.getfield 55, 3) := by decide +kernel
theorem dX5_pairsOutOfPhase_25 : decode cX5_pairsOutOfPhase 25 = .ok (.if_icmp .ge 21, 3) := by decide +kernel
theorem dX5_pairsOutOfPhase_28 : decode cX5_pairsOutOfPhase 28 = .ok (.aload_n 0, 1) := by decide +kernel
theorem dX5_pairsOutOfPhase_29 : decode cX5_pairsOutOfPhase 29 = .ok (.iload_n 2, 1) := by decide +kernel
theorem dX5_pairsOutOfPhase_30 : decode cX5_pairsOutOfPhase 30 = .ok (.iload_n 3, 1) := by decide +kernel
theorem dX5_pairsOutOfPhase_31 : decode cX5_pairsOutOfPhase 31 = .ok (.invokevirtual 273, 3) := by decide +kernel
theorem dX5_pairsOutOfPhase_34 : decode cX5_pairsOutOfPhase 34 = .ok (.ifCond .eq 6, 3) := by decide +kernel
theorem dX5_pairsOutOfPhase_37 : decode cX5_pairsOutOfPhase 37 = .ok (.iinc 1 1, 3) := by decide +kernel
theorem dX5_pairsOutOfPhase_40 : decode cX5_pairsOutOfPhase 40 = .ok (.iinc 3 1, 3) := by decide +kernel
theorem dX5_pairsOutOfPhase_43 : decode cX5_pairsOutOfPhase 43 = .ok (.goto (-26), 3) := by decide +kernel
theorem dX5_pairsOutOfPhase_46 : decode cX5_pairsOutOfPhase 46 = .ok (.iinc 2 1, 3) := by decide +kernel
theorem dX5_pairsOutOfPhase_49 : decode cX5_pairsOutOfPhase 49 = .ok (.goto (-45), 3) := by decide +kernel
theorem dX5_pairsOutOfPhase_52 : decode cX5_pairsOutOfPhase 52 = .ok (.iload_n 1, 1) := by decide +kernel
theorem dX5_pairsOutOfPhase_53 : decode cX5_pairsOutOfPhase 53 = .ok (.ireturn, 1) := by decide +kernel
theorem dX5_bit_0 : decode cX5_bit 0 = .ok (.lconst 1, 1) := by decide +kernel
theorem dX5_bit_1 : decode cX5_bit 1 = .ok (.iload_n 0, 1) := by decide +kernel
theorem dX5_bit_2 : decode cX5_bit 2 = .ok (.lshl, 1) := by decide +kernel
theorem dX5_bit_3 : decode cX5_bit 3 = .ok (.lreturn, 1) := by decide +kernel
theorem dX5_has_0 : decode cX5_has 0 = .ok (.lload_n 0, 1) := by decide +kernel
theorem dX5_has_1 : decode cX5_has 1 = .ok (.iload_n 2, 1) := by decide +kernel
theorem dX5_has_2 : decode cX5_has 2 = .ok (.invokestatic 258, 3) := by decide +kernel
theorem dX5_has_5 : decode cX5_has 5 = .ok (.land, 1) := by decide +kernel
theorem dX5_has_6 : decode cX5_has 6 = .ok (.lconst 0, 1) := by decide +kernel
theorem dX5_has_7 : decode cX5_has 7 = .ok (.lcmp, 1) := by decide +kernel
theorem dX5_has_8 : decode cX5_has 8 = .ok (.ifCond .eq 7, 3) := by decide +kernel
theorem dX5_has_11 : decode cX5_has 11 = .ok (.iconst 1, 1) := by decide +kernel
theorem dX5_has_12 : decode cX5_has 12 = .ok (.goto 4, 3) := by decide +kernel
theorem dX5_has_15 : decode cX5_has 15 = .ok (.iconst 0, 1) := by decide +kernel
theorem dX5_has_16 : decode cX5_has 16 = .ok (.ireturn, 1) := by decide +kernel
theorem dX5_elementAt_0 : decode cX5_elementAt 0 = .ok (.iload_n 2, 1) := by decide +kernel
theorem dX5_elementAt_1 : decode cX5_elementAt 1 = .ok (.istore_n 3, 1) := by decide +kernel
theorem dX5_elementAt_2 : decode cX5_elementAt 2 = .ok (.iconst 0, 1) := by decide +kernel
theorem dX5_elementAt_3 : decode cX5_elementAt 3 = .ok (.istore 4, 2) := by decide +kernel
theorem dX5_elementAt_5 : decode cX5_elementAt 5 = .ok (.iload 4, 2) := by decide +kernel
theorem dX5_elementAt_7 : decode cX5_elementAt 7 = .ok (.bipush 40, 2) := by decide +kernel
theorem dX5_elementAt_9 : decode cX5_elementAt 9 = .ok (.if_icmp .ge 28, 3) := by decide +kernel
theorem dX5_elementAt_12 : decode cX5_elementAt 12 = .ok (.lload_n 0, 1) := by decide +kernel
theorem dX5_elementAt_13 : decode cX5_elementAt 13 = .ok (.iload 4, 2) := by decide +kernel
theorem dX5_elementAt_15 : decode cX5_elementAt 15 = .ok (.invokestatic 157, 3) := by decide +kernel
theorem dX5_elementAt_18 : decode cX5_elementAt 18 = .ok (.ifCond .eq 13, 3) := by decide +kernel
theorem dX5_elementAt_21 : decode cX5_elementAt 21 = .ok (.iload_n 3, 1) := by decide +kernel
theorem dX5_elementAt_22 : decode cX5_elementAt 22 = .ok (.ifCond .ne 6, 3) := by decide +kernel
theorem dX5_elementAt_25 : decode cX5_elementAt 25 = .ok (.iload 4, 2) := by decide +kernel
theorem dX5_elementAt_27 : decode cX5_elementAt 27 = .ok (.ireturn, 1) := by decide +kernel
theorem dX5_elementAt_28 : decode cX5_elementAt 28 = .ok (.iinc 3 (-1), 3) := by decide +kernel
theorem dX5_elementAt_31 : decode cX5_elementAt 31 = .ok (.iinc 4 1, 3) := by decide +kernel
theorem dX5_elementAt_34 : decode cX5_elementAt 34 = .ok (.goto (-29), 3) := by decide +kernel
theorem dX5_elementAt_37 : decode cX5_elementAt 37 = .ok (.iconst (-1), 1) := by decide +kernel
theorem dX5_elementAt_38 : decode cX5_elementAt 38 = .ok (.ireturn, 1) := by decide +kernel
theorem dJ13_bitCount_95d88_0 : decode cJ13_bitCount_95d88 0 = .ok (.lload_n 0, 1) := by decide +kernel
theorem dJ13_bitCount_95d88_1 : decode cJ13_bitCount_95d88 1 = .ok (.lload_n 0, 1) := by decide +kernel
theorem dJ13_bitCount_95d88_2 : decode cJ13_bitCount_95d88 2 = .ok (.iconst 1, 1) := by decide +kernel
theorem dJ13_bitCount_95d88_3 : decode cJ13_bitCount_95d88 3 = .ok (.lushr, 1) := by decide +kernel
theorem dJ13_bitCount_95d88_4 : decode cJ13_bitCount_95d88 4 = .ok (.ldc2_w 314, 3) := by decide +kernel
theorem dJ13_bitCount_95d88_7 : decode cJ13_bitCount_95d88 7 = .ok (.land, 1) := by decide +kernel
theorem dJ13_bitCount_95d88_8 : decode cJ13_bitCount_95d88 8 = .ok (.lsub, 1) := by decide +kernel
theorem dJ13_bitCount_95d88_9 : decode cJ13_bitCount_95d88 9 = .ok (.lstore_n 0, 1) := by decide +kernel
theorem dJ13_bitCount_95d88_10 : decode cJ13_bitCount_95d88 10 = .ok (.lload_n 0, 1) := by decide +kernel
theorem dJ13_bitCount_95d88_11 : decode cJ13_bitCount_95d88 11 = .ok (.ldc2_w 316, 3) := by decide +kernel
theorem dJ13_bitCount_95d88_14 : decode cJ13_bitCount_95d88 14 = .ok (.land, 1) := by decide +kernel
theorem dJ13_bitCount_95d88_15 : decode cJ13_bitCount_95d88 15 = .ok (.lload_n 0, 1) := by decide +kernel
theorem dJ13_bitCount_95d88_16 : decode cJ13_bitCount_95d88 16 = .ok (.iconst 2, 1) := by decide +kernel
theorem dJ13_bitCount_95d88_17 : decode cJ13_bitCount_95d88 17 = .ok (.lushr, 1) := by decide +kernel
theorem dJ13_bitCount_95d88_18 : decode cJ13_bitCount_95d88 18 = .ok (.ldc2_w 316, 3) := by decide +kernel
theorem dJ13_bitCount_95d88_21 : decode cJ13_bitCount_95d88 21 = .ok (.land, 1) := by decide +kernel
theorem dJ13_bitCount_95d88_22 : decode cJ13_bitCount_95d88 22 = .ok (.ladd, 1) := by decide +kernel
theorem dJ13_bitCount_95d88_23 : decode cJ13_bitCount_95d88 23 = .ok (.lstore_n 0, 1) := by decide +kernel
theorem dJ13_bitCount_95d88_24 : decode cJ13_bitCount_95d88 24 = .ok (.lload_n 0, 1) := by decide +kernel
theorem dJ13_bitCount_95d88_25 : decode cJ13_bitCount_95d88 25 = .ok (.lload_n 0, 1) := by decide +kernel
theorem dJ13_bitCount_95d88_26 : decode cJ13_bitCount_95d88 26 = .ok (.iconst 4, 1) := by decide +kernel
theorem dJ13_bitCount_95d88_27 : decode cJ13_bitCount_95d88 27 = .ok (.lushr, 1) := by decide +kernel
theorem dJ13_bitCount_95d88_28 : decode cJ13_bitCount_95d88 28 = .ok (.ladd, 1) := by decide +kernel
theorem dJ13_bitCount_95d88_29 : decode cJ13_bitCount_95d88 29 = .ok (.ldc2_w 318, 3) := by decide +kernel
theorem dJ13_bitCount_95d88_32 : decode cJ13_bitCount_95d88 32 = .ok (.land, 1) := by decide +kernel
theorem dJ13_bitCount_95d88_33 : decode cJ13_bitCount_95d88 33 = .ok (.lstore_n 0, 1) := by decide +kernel
theorem dJ13_bitCount_95d88_34 : decode cJ13_bitCount_95d88 34 = .ok (.lload_n 0, 1) := by decide +kernel
theorem dJ13_bitCount_95d88_35 : decode cJ13_bitCount_95d88 35 = .ok (.lload_n 0, 1) := by decide +kernel
theorem dJ13_bitCount_95d88_36 : decode cJ13_bitCount_95d88 36 = .ok (.bipush 8, 2) := by decide +kernel
theorem dJ13_bitCount_95d88_38 : decode cJ13_bitCount_95d88 38 = .ok (.lushr, 1) := by decide +kernel
theorem dJ13_bitCount_95d88_39 : decode cJ13_bitCount_95d88 39 = .ok (.ladd, 1) := by decide +kernel
theorem dJ13_bitCount_95d88_40 : decode cJ13_bitCount_95d88 40 = .ok (.lstore_n 0, 1) := by decide +kernel
theorem dJ13_bitCount_95d88_41 : decode cJ13_bitCount_95d88 41 = .ok (.lload_n 0, 1) := by decide +kernel
theorem dJ13_bitCount_95d88_42 : decode cJ13_bitCount_95d88 42 = .ok (.lload_n 0, 1) := by decide +kernel
theorem dJ13_bitCount_95d88_43 : decode cJ13_bitCount_95d88 43 = .ok (.bipush 16, 2) := by decide +kernel
theorem dJ13_bitCount_95d88_45 : decode cJ13_bitCount_95d88 45 = .ok (.lushr, 1) := by decide +kernel
theorem dJ13_bitCount_95d88_46 : decode cJ13_bitCount_95d88 46 = .ok (.ladd, 1) := by decide +kernel
theorem dJ13_bitCount_95d88_47 : decode cJ13_bitCount_95d88 47 = .ok (.lstore_n 0, 1) := by decide +kernel
theorem dJ13_bitCount_95d88_48 : decode cJ13_bitCount_95d88 48 = .ok (.lload_n 0, 1) := by decide +kernel
theorem dJ13_bitCount_95d88_49 : decode cJ13_bitCount_95d88 49 = .ok (.lload_n 0, 1) := by decide +kernel
theorem dJ13_bitCount_95d88_50 : decode cJ13_bitCount_95d88 50 = .ok (.bipush 32, 2) := by decide +kernel
theorem dJ13_bitCount_95d88_52 : decode cJ13_bitCount_95d88 52 = .ok (.lushr, 1) := by decide +kernel
theorem dJ13_bitCount_95d88_53 : decode cJ13_bitCount_95d88 53 = .ok (.ladd, 1) := by decide +kernel
theorem dJ13_bitCount_95d88_54 : decode cJ13_bitCount_95d88 54 = .ok (.lstore_n 0, 1) := by decide +kernel
theorem dJ13_bitCount_95d88_55 : decode cJ13_bitCount_95d88 55 = .ok (.lload_n 0, 1) := by decide +kernel
theorem dJ13_bitCount_95d88_56 : decode cJ13_bitCount_95d88 56 = .ok (.l2i, 1) := by decide +kernel
theorem dJ13_bitCount_95d88_57 : decode cJ13_bitCount_95d88 57 = .ok (.bipush 127, 2) := by decide +kernel
theorem dJ13_bitCount_95d88_59 : decode cJ13_bitCount_95d88 59 = .ok (.iand, 1) := by decide +kernel
theorem dJ13_bitCount_95d88_60 : decode cJ13_bitCount_95d88 60 = .ok (.ireturn, 1) := by decide +kernel
theorem dL_below_0 : decode cL_below 0 = .ok (.iload_n 0, 1) := by decide +kernel
theorem dL_below_1 : decode cL_below 1 = .ok (.ldc 7, 2) := by decide +kernel
theorem dL_below_3 : decode cL_below 3 = .ok (.iand, 1) := by decide +kernel
theorem dL_below_4 : decode cL_below 4 = .ok (.iload_n 1, 1) := by decide +kernel
theorem dL_below_5 : decode cL_below 5 = .ok (.irem, 1) := by decide +kernel
theorem dL_below_6 : decode cL_below 6 = .ok (.ireturn, 1) := by decide +kernel
theorem dL_cell_0 : decode cL_cell 0 = .ok (.iload_n 1, 1) := by decide +kernel
theorem dL_cell_1 : decode cL_cell 1 = .ok (.aload_n 0, 1) := by decide +kernel
theorem dL_cell_2 : decode cL_cell 2 = .ok (.arraylength, 1) := by decide +kernel
theorem dL_cell_3 : decode cL_cell 3 = .ok (.if_icmp .ge 9, 3) := by decide +kernel
theorem dL_cell_6 : decode cL_cell 6 = .ok (.aload_n 0, 1) := by decide +kernel
theorem dL_cell_7 : decode cL_cell 7 = .ok (.iload_n 1, 1) := by decide +kernel
theorem dL_cell_8 : decode cL_cell 8 = .ok (.iaload, 1) := by decide +kernel
theorem dL_cell_9 : decode cL_cell 9 = .ok (.goto 9, 3) := by decide +kernel
theorem dL_cell_12 : decode cL_cell 12 = .ok (.ldc 8, 2) := by decide +kernel
theorem dL_cell_14 : decode cL_cell 14 = .ok (.iload_n 1, 1) := by decide +kernel
theorem dL_cell_15 : decode cL_cell 15 = .ok (.iconst 3, 1) := by decide +kernel
theorem dL_cell_16 : decode cL_cell 16 = .ok (.iadd, 1) := by decide +kernel
theorem dL_cell_17 : decode cL_cell 17 = .ok (.imul, 1) := by decide +kernel
theorem dL_cell_18 : decode cL_cell 18 = .ok (.ireturn, 1) := by decide +kernel
theorem dL_law_0 : decode cL_law 0 = .ok (.new 9, 3) := by decide +kernel
theorem dL_law_3 : decode cL_law 3 = .ok (.dup, 1) := by decide +kernel
theorem dL_law_4 : decode cL_law 4 = .ok (.invokespecial 11, 3) := by decide +kernel
theorem dL_law_7 : decode cL_law 7 = .ok (.astore_n 1, 1) := by decide +kernel
theorem dL_law_8 : decode cL_law 8 = .ok (.iconst 2, 1) := by decide +kernel
theorem dL_law_9 : decode cL_law 9 = .ok (.aload_n 0, 1) := by decide +kernel
theorem dL_law_10 : decode cL_law 10 = .ok (.bipush 15, 2) := by decide +kernel
theorem dL_law_12 : decode cL_law 12 = .ok (.invokestatic 12, 3) := by decide +kernel
theorem dL_law_15 : decode cL_law 15 = .ok (.bipush 16, 2) := by decide +kernel
theorem dL_law_17 : decode cL_law 17 = .ok (.invokestatic 18, 3) := by decide +kernel
theorem dL_law_20 : decode cL_law 20 = .ok (.iadd, 1) := by decide +kernel
theorem dL_law_21 : decode cL_law 21 = .ok (.istore_n 2, 1) := by decide +kernel
theorem dL_law_22 : decode cL_law 22 = .ok (.iconst 0, 1) := by decide +kernel
theorem dL_law_23 : decode cL_law 23 = .ok (.istore_n 3, 1) := by decide +kernel
theorem dL_law_24 : decode cL_law 24 = .ok (.iload_n 3, 1) := by decide +kernel
theorem dL_law_25 : decode cL_law 25 = .ok (.iload_n 2, 1) := by decide +kernel
theorem dL_law_26 : decode cL_law 26 = .ok (.if_icmp .ge 33, 3) := by decide +kernel
theorem dL_law_29 : decode cL_law 29 = .ok (.aload_n 1, 1) := by decide +kernel
theorem dL_law_30 : decode cL_law 30 = .ok (.aload_n 0, 1) := by decide +kernel
theorem dL_law_31 : decode cL_law 31 = .ok (.iload_n 3, 1) := by decide +kernel
theorem dL_law_32 : decode cL_law 32 = .ok (.bipush 6, 2) := by decide +kernel
theorem dL_law_34 : decode cL_law 34 = .ok (.irem, 1) := by decide +kernel
theorem dL_law_35 : decode cL_law 35 = .ok (.invokestatic 12, 3) := by decide +kernel
theorem dL_law_38 : decode cL_law 38 = .ok (.iload_n 3, 1) := by decide +kernel
theorem dL_law_39 : decode cL_law 39 = .ok (.bipush 6, 2) := by decide +kernel
theorem dL_law_41 : decode cL_law 41 = .ok (.idiv, 1) := by decide +kernel
theorem dL_law_42 : decode cL_law 42 = .ok (.iconst 3, 1) := by decide +kernel
theorem dL_law_43 : decode cL_law 43 = .ok (.imul, 1) := by decide +kernel
theorem dL_law_44 : decode cL_law 44 = .ok (.ishr, 1) := by decide +kernel
theorem dL_law_45 : decode cL_law 45 = .ok (.iconst 4, 1) := by decide +kernel
theorem dL_law_46 : decode cL_law 46 = .ok (.invokestatic 18, 3) := by decide +kernel
theorem dL_law_49 : decode cL_law 49 = .ok (.invokevirtual 22, 3) := by decide +kernel
theorem dL_law_52 : decode cL_law 52 = .ok (.pop, 1) := by decide +kernel
theorem dL_law_53 : decode cL_law 53 = .ok (.iinc 3 1, 3) := by decide +kernel
theorem dL_law_56 : decode cL_law 56 = .ok (.goto (-32), 3) := by decide +kernel
theorem dL_law_59 : decode cL_law 59 = .ok (.iconst 0, 1) := by decide +kernel
theorem dL_law_60 : decode cL_law 60 = .ok (.istore_n 3, 1) := by decide +kernel
theorem dL_law_61 : decode cL_law 61 = .ok (.iload_n 3, 1) := by decide +kernel
theorem dL_law_62 : decode cL_law 62 = .ok (.bipush 40, 2) := by decide +kernel
theorem dL_law_64 : decode cL_law 64 = .ok (.if_icmp .ge 261, 3) := by decide +kernel
theorem dL_law_67 : decode cL_law 67 = .ok (.aload_n 0, 1) := by decide +kernel
theorem dL_law_68 : decode cL_law 68 = .ok (.iconst 5, 1) := by decide +kernel
theorem dL_law_69 : decode cL_law 69 = .ok (.iload_n 3, 1) := by decide +kernel
theorem dL_law_70 : decode cL_law 70 = .ok (.bipush 10, 2) := by decide +kernel
theorem dL_law_72 : decode cL_law 72 = .ok (.irem, 1) := by decide +kernel
theorem dL_law_73 : decode cL_law 73 = .ok (.iadd, 1) := by decide +kernel
theorem dL_law_74 : decode cL_law 74 = .ok (.invokestatic 12, 3) := by decide +kernel
theorem dL_law_77 : decode cL_law 77 = .ok (.iload_n 3, 1) := by decide +kernel
theorem dL_law_78 : decode cL_law 78 = .ok (.bipush 10, 2) := by decide +kernel
theorem dL_law_80 : decode cL_law 80 = .ok (.idiv, 1) := by decide +kernel
theorem dL_law_81 : decode cL_law 81 = .ok (.bipush 6, 2) := by decide +kernel
theorem dL_law_83 : decode cL_law 83 = .ok (.imul, 1) := by decide +kernel
theorem dL_law_84 : decode cL_law 84 = .ok (.ishr, 1) := by decide +kernel
theorem dL_law_85 : decode cL_law 85 = .ok (.istore 4, 2) := by decide +kernel
theorem dL_law_87 : decode cL_law 87 = .ok (.aload_n 1, 1) := by decide +kernel
theorem dL_law_88 : decode cL_law 88 = .ok (.iconst 1, 1) := by decide +kernel
theorem dL_law_89 : decode cL_law 89 = .ok (.invokevirtual 26, 3) := by decide +kernel
theorem dL_law_92 : decode cL_law 92 = .ok (.istore 5, 2) := by decide +kernel
theorem dL_law_94 : decode cL_law 94 = .ok (.aload_n 1, 1) := by decide +kernel
theorem dL_law_95 : decode cL_law 95 = .ok (.invokevirtual 29, 3) := by decide +kernel
theorem dL_law_98 : decode cL_law 98 = .ok (.lstore 6, 2) := by decide +kernel
theorem dL_law_100 : decode cL_law 100 = .ok (.aload_n 1, 1) := by decide +kernel
theorem dL_law_101 : decode cL_law 101 = .ok (.iload 4, 2) := by decide +kernel
theorem dL_law_103 : decode cL_law 103 = .ok (.iconst 5, 1) := by decide +kernel
theorem dL_law_104 : decode cL_law 104 = .ok (.invokestatic 18, 3) := by decide +kernel
theorem dL_law_107 : decode cL_law 107 = .ok (.iload 4, 2) := by decide +kernel
theorem dL_law_109 : decode cL_law 109 = .ok (.iconst 3, 1) := by decide +kernel
theorem dL_law_110 : decode cL_law 110 = .ok (.ishr, 1) := by decide +kernel
theorem dL_law_111 : decode cL_law 111 = .ok (.iload_n 2, 1) := by decide +kernel
theorem dL_law_112 : decode cL_law 112 = .ok (.invokestatic 18, 3) := by decide +kernel
theorem dL_law_115 : decode cL_law 115 = .ok (.iload 4, 2) := by decide +kernel
theorem dL_law_117 : decode cL_law 117 = .ok (.bipush 8, 2) := by decide +kernel
theorem dL_law_119 : decode cL_law 119 = .ok (.ishr, 1) := by decide +kernel
theorem dL_law_120 : decode cL_law 120 = .ok (.iload_n 3, 1) := by decide +kernel
theorem dL_law_121 : decode cL_law 121 = .ok (.bipush 37, 2) := by decide +kernel
theorem dL_law_123 : decode cL_law 123 = .ok (.imul, 1) := by decide +kernel
theorem dL_law_124 : decode cL_law 124 = .ok (.ixor, 1) := by decide +kernel
theorem dL_law_125 : decode cL_law 125 = .ok (.iload_n 2, 1) := by decide +kernel
theorem dL_law_126 : decode cL_law 126 = .ok (.invokestatic 18, 3) := by decide +kernel
theorem dL_law_129 : decode cL_law 129 = .ok (.invokevirtual 33, 3) := by decide +kernel
theorem dL_law_132 : decode cL_law 132 = .ok (.istore 8, 2) := by decide +kernel
theorem dL_law_134 : decode cL_law 134 = .ok (.iload 8, 2) := by decide +kernel
theorem dL_law_136 : decode cL_law 136 = .ok (.ifCond .lt 45, 3) := by decide +kernel
theorem dL_law_139 : decode cL_law 139 = .ok (.iload 8, 2) := by decide +kernel
theorem dL_law_141 : decode cL_law 141 = .ok (.iconst 4, 1) := by decide +kernel
theorem dL_law_142 : decode cL_law 142 = .ok (.if_icmp .gt 39, 3) := by decide +kernel
theorem dL_law_145 : decode cL_law 145 = .ok (.aload_n 1, 1) := by decide +kernel
theorem dL_law_146 : decode cL_law 146 = .ok (.iconst 1, 1) := by decide +kernel
theorem dL_law_147 : decode cL_law 147 = .ok (.invokevirtual 26, 3) := by decide +kernel
theorem dL_law_150 : decode cL_law 150 = .ok (.iload 5, 2) := by decide +kernel
theorem dL_law_152 : decode cL_law 152 = .ok (.iload 8, 2) := by decide +kernel
theorem dL_law_154 : decode cL_law 154 = .ok (.ifCond .ne 7, 3) := by decide +kernel
theorem dL_law_157 : decode cL_law 157 = .ok (.iconst 1, 1) := by decide +kernel
theorem dL_law_158 : decode cL_law 158 = .ok (.goto 4, 3) := by decide +kernel
theorem dL_law_161 : decode cL_law 161 = .ok (.iconst 0, 1) := by decide +kernel
theorem dL_law_162 : decode cL_law 162 = .ok (.iadd, 1) := by decide +kernel
theorem dL_law_163 : decode cL_law 163 = .ok (.if_icmp .ne 18, 3) := by decide +kernel
theorem dL_law_166 : decode cL_law 166 = .ok (.iload 8, 2) := by decide +kernel
theorem dL_law_168 : decode cL_law 168 = .ok (.ifCond .le 15, 3) := by decide +kernel
theorem dL_law_171 : decode cL_law 171 = .ok (.aload_n 1, 1) := by decide +kernel
theorem dL_law_172 : decode cL_law 172 = .ok (.invokevirtual 29, 3) := by decide +kernel
theorem dL_law_175 : decode cL_law 175 = .ok (.lload 6, 2) := by decide +kernel
theorem dL_law_177 : decode cL_law 177 = .ok (.lcmp, 1) := by decide +kernel
theorem dL_law_178 : decode cL_law 178 = .ok (.ifCond .eq 5, 3) := by decide +kernel
theorem dL_law_181 : decode cL_law 181 = .ok (.iconst 0, 1) := by decide +kernel
theorem dL_law_182 : decode cL_law 182 = .ok (.ireturn, 1) := by decide +kernel
theorem dL_law_183 : decode cL_law 183 = .ok (.iload_n 3, 1) := by decide +kernel
theorem dL_law_184 : decode cL_law 184 = .ok (.bipush 9, 2) := by decide +kernel
theorem dL_law_186 : decode cL_law 186 = .ok (.irem, 1) := by decide +kernel
theorem dL_law_187 : decode cL_law 187 = .ok (.bipush 8, 2) := by decide +kernel
theorem dL_law_189 : decode cL_law 189 = .ok (.if_icmp .ne 26, 3) := by decide +kernel
theorem dL_law_192 : decode cL_law 192 = .ok (.aload_n 1, 1) := by decide +kernel
theorem dL_law_193 : decode cL_law 193 = .ok (.iconst 1, 1) := by decide +kernel
theorem dL_law_194 : decode cL_law 194 = .ok (.invokevirtual 26, 3) := by decide +kernel
theorem dL_law_197 : decode cL_law 197 = .ok (.ifCond .le 18, 3) := by decide +kernel
theorem dL_law_200 : decode cL_law 200 = .ok (.aload_n 1, 1) := by decide +kernel
theorem dL_law_201 : decode cL_law 201 = .ok (.iload 4, 2) := by decide +kernel
theorem dL_law_203 : decode cL_law 203 = .ok (.aload_n 1, 1) := by decide +kernel
theorem dL_law_204 : decode cL_law 204 = .ok (.iconst 1, 1) := by decide +kernel
theorem dL_law_205 : decode cL_law 205 = .ok (.invokevirtual 26, 3) := by decide +kernel
theorem dL_law_208 : decode cL_law 208 = .ok (.invokestatic 18, 3) := by decide +kernel
theorem dL_law_211 : decode cL_law 211 = .ok (.invokevirtual 37, 3) := by decide +kernel
theorem dL_law_214 : decode cL_law 214 = .ok (.pop, 1) := by decide +kernel
theorem dL_law_215 : decode cL_law 215 = .ok (.iload_n 3, 1) := by decide +kernel
theorem dL_law_216 : decode cL_law 216 = .ok (.iconst 3, 1) := by decide +kernel
theorem dL_law_217 : decode cL_law 217 = .ok (.irem, 1) := by decide +kernel
theorem dL_law_218 : decode cL_law 218 = .ok (.ifCond .ne 53, 3) := by decide +kernel
theorem dL_law_221 : decode cL_law 221 = .ok (.aload_n 1, 1) := by decide +kernel
theorem dL_law_222 : decode cL_law 222 = .ok (.iconst 4, 1) := by decide +kernel
theorem dL_law_223 : decode cL_law 223 = .ok (.invokevirtual 26, 3) := by decide +kernel
theorem dL_law_226 : decode cL_law 226 = .ok (.bipush 60, 2) := by decide +kernel
theorem dL_law_228 : decode cL_law 228 = .ok (.if_icmp .ge 43, 3) := by decide +kernel
theorem dL_law_231 : decode cL_law 231 = .ok (.aload_n 1, 1) := by decide +kernel
theorem dL_law_232 : decode cL_law 232 = .ok (.iload 4, 2) := by decide +kernel
theorem dL_law_234 : decode cL_law 234 = .ok (.iconst 4, 1) := by decide +kernel
theorem dL_law_235 : decode cL_law 235 = .ok (.ishr, 1) := by decide +kernel
theorem dL_law_236 : decode cL_law 236 = .ok (.iload_n 2, 1) := by decide +kernel
theorem dL_law_237 : decode cL_law 237 = .ok (.invokestatic 18, 3) := by decide +kernel
theorem dL_law_240 : decode cL_law 240 = .ok (.iconst 0, 1) := by decide +kernel
theorem dL_law_241 : decode cL_law 241 = .ok (.iload 4, 2) := by decide +kernel
theorem dL_law_243 : decode cL_law 243 = .ok (.sipush 900, 3) := by decide +kernel
theorem dL_law_246 : decode cL_law 246 = .ok (.invokestatic 18, 3) := by decide +kernel
theorem dL_law_249 : decode cL_law 249 = .ok (.sipush 400, 3) := by decide +kernel
theorem dL_law_252 : decode cL_law 252 = .ok (.isub, 1) := by decide +kernel
theorem dL_law_253 : decode cL_law 253 = .ok (.sipush 500, 3) := by decide +kernel
theorem dL_law_256 : decode cL_law 256 = .ok (.iload 4, 2) := by decide +kernel
theorem dL_law_258 : decode cL_law 258 = .ok (.bipush 7, 2) := by decide +kernel
theorem dL_law_260 : decode cL_law 260 = .ok (.ishr, 1) := by decide +kernel
theorem dL_law_261 : decode cL_law 261 = .ok (.bipush 99, 2) := by decide +kernel
theorem dL_law_263 : decode cL_law 263 = .ok (.invokestatic 18, 3) := by decide +kernel
theorem dL_law_266 : decode cL_law 266 = .ok (.iadd, 1) := by decide +kernel
theorem dL_law_267 : decode cL_law 267 = .ok (.invokevirtual 40, 3) := by decide +kernel
theorem dL_law_270 : decode cL_law 270 = .ok (.pop, 1) := by decide +kernel
theorem dL_law_271 : decode cL_law 271 = .ok (.iload_n 3, 1) := by decide +kernel
theorem dL_law_272 : decode cL_law 272 = .ok (.iconst 4, 1) := by decide +kernel
theorem dL_law_273 : decode cL_law 273 = .ok (.irem, 1) := by decide +kernel
theorem dL_law_274 : decode cL_law 274 = .ok (.ifCond .ne 45, 3) := by decide +kernel
theorem dL_law_277 : decode cL_law 277 = .ok (.aload_n 1, 1) := by decide +kernel
theorem dL_law_278 : decode cL_law 278 = .ok (.iload 4, 2) := by decide +kernel
theorem dL_law_280 : decode cL_law 280 = .ok (.bipush 6, 2) := by decide +kernel
theorem dL_law_282 : decode cL_law 282 = .ok (.ishr, 1) := by decide +kernel
theorem dL_law_283 : decode cL_law 283 = .ok (.iload_n 2, 1) := by decide +kernel
theorem dL_law_284 : decode cL_law 284 = .ok (.invokestatic 18, 3) := by decide +kernel
theorem dL_law_287 : decode cL_law 287 = .ok (.iload 4, 2) := by decide +kernel
theorem dL_law_289 : decode cL_law 289 = .ok (.iconst 2, 1) := by decide +kernel
theorem dL_law_290 : decode cL_law 290 = .ok (.ishr, 1) := by decide +kernel
theorem dL_law_291 : decode cL_law 291 = .ok (.sipush 900, 3) := by decide +kernel
theorem dL_law_294 : decode cL_law 294 = .ok (.invokestatic 18, 3) := by decide +kernel
theorem dL_law_297 : decode cL_law 297 = .ok (.sipush 400, 3) := by decide +kernel
theorem dL_law_300 : decode cL_law 300 = .ok (.isub, 1) := by decide +kernel
theorem dL_law_301 : decode cL_law 301 = .ok (.iload 4, 2) := by decide +kernel
theorem dL_law_303 : decode cL_law 303 = .ok (.iconst 5, 1) := by decide +kernel
theorem dL_law_304 : decode cL_law 304 = .ok (.ishr, 1) := by decide +kernel
theorem dL_law_305 : decode cL_law 305 = .ok (.sipush 1500, 3) := by decide +kernel
theorem dL_law_308 : decode cL_law 308 = .ok (.invokestatic 18, 3) := by decide +kernel
theorem dL_law_311 : decode cL_law 311 = .ok (.sipush 400, 3) := by decide +kernel
theorem dL_law_314 : decode cL_law 314 = .ok (.isub, 1) := by decide +kernel
theorem dL_law_315 : decode cL_law 315 = .ok (.invokevirtual 44, 3) := by decide +kernel
theorem dL_law_318 : decode cL_law 318 = .ok (.pop, 1) := by decide +kernel
theorem dL_law_319 : decode cL_law 319 = .ok (.iinc 3 1, 3) := by decide +kernel
theorem dL_law_322 : decode cL_law 322 = .ok (.goto (-261), 3) := by decide +kernel
theorem dL_law_325 : decode cL_law 325 = .ok (.iconst 0, 1) := by decide +kernel
theorem dL_law_326 : decode cL_law 326 = .ok (.istore_n 3, 1) := by decide +kernel
theorem dL_law_327 : decode cL_law 327 = .ok (.iconst 0, 1) := by decide +kernel
theorem dL_law_328 : decode cL_law 328 = .ok (.istore 4, 2) := by decide +kernel
theorem dL_law_330 : decode cL_law 330 = .ok (.iconst 0, 1) := by decide +kernel
theorem dL_law_331 : decode cL_law 331 = .ok (.istore 5, 2) := by decide +kernel
theorem dL_law_333 : decode cL_law 333 = .ok (.iload 5, 2) := by decide +kernel
theorem dL_law_335 : decode cL_law 335 = .ok (.iload_n 2, 1) := by decide +kernel
theorem dL_law_336 : decode cL_law 336 = .ok (.if_icmp .ge 485, 3) := by decide +kernel
theorem dL_law_339 : decode cL_law 339 = .ok (.aload_n 1, 1) := by decide +kernel
theorem dL_law_340 : decode cL_law 340 = .ok (.iload 5, 2) := by decide +kernel
theorem dL_law_342 : decode cL_law 342 = .ok (.iconst 1, 1) := by decide +kernel
theorem dL_law_343 : decode cL_law 343 = .ok (.invokevirtual 47, 3) := by decide +kernel
theorem dL_law_346 : decode cL_law 346 = .ok (.iload 5, 2) := by decide +kernel
theorem dL_law_348 : decode cL_law 348 = .ok (.if_icmp .ne 15, 3) := by decide +kernel
theorem dL_law_351 : decode cL_law 351 = .ok (.iload 4, 2) := by decide +kernel
theorem dL_law_353 : decode cL_law 353 = .ok (.aload_n 1, 1) := by decide +kernel
theorem dL_law_354 : decode cL_law 354 = .ok (.iload 5, 2) := by decide +kernel
theorem dL_law_356 : decode cL_law 356 = .ok (.iconst 2, 1) := by decide +kernel
theorem dL_law_357 : decode cL_law 357 = .ok (.invokevirtual 47, 3) := by decide +kernel
theorem dL_law_360 : decode cL_law 360 = .ok (.iadd, 1) := by decide +kernel
theorem dL_law_361 : decode cL_law 361 = .ok (.istore 4, 2) := by decide +kernel
theorem dL_law_363 : decode cL_law 363 = .ok (.aload_n 1, 1) := by decide +kernel
theorem dL_law_364 : decode cL_law 364 = .ok (.iload 5, 2) := by decide +kernel
theorem dL_law_366 : decode cL_law 366 = .ok (.iload 5, 2) := by decide +kernel
theorem dL_law_368 : decode cL_law 368 = .ok (.invokevirtual 50, 3) := by decide +kernel
theorem dL_law_371 : decode cL_law 371 = .ok (.ifCond .ne 48, 3) := by decide +kernel
theorem dL_law_374 : decode cL_law 374 = .ok (.aload_n 1, 1) := by decide +kernel
theorem dL_law_375 : decode cL_law 375 = .ok (.iload 5, 2) := by decide +kernel
theorem dL_law_377 : decode cL_law 377 = .ok (.iload 5, 2) := by decide +kernel
theorem dL_law_379 : decode cL_law 379 = .ok (.invokevirtual 53, 3) := by decide +kernel
theorem dL_law_382 : decode cL_law 382 = .ok (.ifCond .ne 37, 3) := by decide +kernel
theorem dL_law_385 : decode cL_law 385 = .ok (.aload_n 1, 1) := by decide +kernel
theorem dL_law_386 : decode cL_law 386 = .ok (.aload_n 1, 1) := by decide +kernel
theorem dL_law_387 : decode cL_law 387 = .ok (.iload 5, 2) := by decide +kernel
theorem dL_law_389 : decode cL_law 389 = .ok (.iconst 1, 1) := by decide +kernel
theorem dL_law_390 : decode cL_law 390 = .ok (.invokevirtual 47, 3) := by decide +kernel
theorem dL_law_393 : decode cL_law 393 = .ok (.iconst 1, 1) := by decide +kernel
theorem dL_law_394 : decode cL_law 394 = .ok (.invokevirtual 47, 3) := by decide +kernel
theorem dL_law_397 : decode cL_law 397 = .ok (.aload_n 1, 1) := by decide +kernel
theorem dL_law_398 : decode cL_law 398 = .ok (.iload 5, 2) := by decide +kernel
theorem dL_law_400 : decode cL_law 400 = .ok (.iconst 1, 1) := by decide +kernel
theorem dL_law_401 : decode cL_law 401 = .ok (.invokevirtual 47, 3) := by decide +kernel
theorem dL_law_404 : decode cL_law 404 = .ok (.if_icmp .ne 15, 3) := by decide +kernel
theorem dL_law_407 : decode cL_law 407 = .ok (.aload_n 1, 1) := by decide +kernel
theorem dL_law_408 : decode cL_law 408 = .ok (.iload 5, 2) := by decide +kernel
theorem dL_law_410 : decode cL_law 410 = .ok (.iconst 1, 1) := by decide +kernel
theorem dL_law_411 : decode cL_law 411 = .ok (.invokevirtual 47, 3) := by decide +kernel
theorem dL_law_414 : decode cL_law 414 = .ok (.iload 5, 2) := by decide +kernel
theorem dL_law_416 : decode cL_law 416 = .ok (.if_icmp .le 5, 3) := by decide +kernel
theorem dL_law_419 : decode cL_law 419 = .ok (.iconst 0, 1) := by decide +kernel
theorem dL_law_420 : decode cL_law 420 = .ok (.ireturn, 1) := by decide +kernel
theorem dL_law_421 : decode cL_law 421 = .ok (.iconst 0, 1) := by decide +kernel
theorem dL_law_422 : decode cL_law 422 = .ok (.istore 6, 2) := by decide +kernel
theorem dL_law_424 : decode cL_law 424 = .ok (.iload 6, 2) := by decide +kernel
theorem dL_law_426 : decode cL_law 426 = .ok (.iload_n 2, 1) := by decide +kernel
theorem dL_law_427 : decode cL_law 427 = .ok (.if_icmp .ge 388, 3) := by decide +kernel
theorem dL_law_430 : decode cL_law 430 = .ok (.aload_n 1, 1) := by decide +kernel
theorem dL_law_431 : decode cL_law 431 = .ok (.iload 5, 2) := by decide +kernel
theorem dL_law_433 : decode cL_law 433 = .ok (.iload 6, 2) := by decide +kernel
theorem dL_law_435 : decode cL_law 435 = .ok (.invokevirtual 50, 3) := by decide +kernel
theorem dL_law_438 : decode cL_law 438 = .ok (.istore 7, 2) := by decide +kernel
theorem dL_law_440 : decode cL_law 440 = .ok (.aload_n 1, 1) := by decide +kernel
theorem dL_law_441 : decode cL_law 441 = .ok (.iload 6, 2) := by decide +kernel
theorem dL_law_443 : decode cL_law 443 = .ok (.iload 5, 2) := by decide +kernel
theorem dL_law_445 : decode cL_law 445 = .ok (.invokevirtual 50, 3) := by decide +kernel
theorem dL_law_448 : decode cL_law 448 = .ok (.istore 8, 2) := by decide +kernel
theorem dL_law_450 : decode cL_law 450 = .ok (.iload 7, 2) := by decide +kernel
theorem dL_law_452 : decode cL_law 452 = .ok (.iconst 2, 1) := by decide +kernel
theorem dL_law_453 : decode cL_law 453 = .ok (.if_icmp .ne 12, 3) := by decide +kernel
theorem dL_law_456 : decode cL_law 456 = .ok (.iload 8, 2) := by decide +kernel
theorem dL_law_458 : decode cL_law 458 = .ok (.iconst 2, 1) := by decide +kernel
theorem dL_law_459 : decode cL_law 459 = .ok (.if_icmp .eq 51, 3) := by decide +kernel
theorem dL_law_462 : decode cL_law 462 = .ok (.goto 46, 3) := by decide +kernel
theorem dL_law_465 : decode cL_law 465 = .ok (.iload 8, 2) := by decide +kernel
theorem dL_law_467 : decode cL_law 467 = .ok (.iload 7, 2) := by decide +kernel
theorem dL_law_469 : decode cL_law 469 = .ok (.ineg, 1) := by decide +kernel
theorem dL_law_470 : decode cL_law 470 = .ok (.if_icmp .ne 38, 3) := by decide +kernel
theorem dL_law_473 : decode cL_law 473 = .ok (.iload 7, 2) := by decide +kernel
theorem dL_law_475 : decode cL_law 475 = .ok (.ifCond .ne 7, 3) := by decide +kernel
theorem dL_law_478 : decode cL_law 478 = .ok (.iconst 1, 1) := by decide +kernel
theorem dL_law_479 : decode cL_law 479 = .ok (.goto 4, 3) := by decide +kernel
theorem dL_law_482 : decode cL_law 482 = .ok (.iconst 0, 1) := by decide +kernel
theorem dL_law_483 : decode cL_law 483 = .ok (.aload_n 1, 1) := by decide +kernel
theorem dL_law_484 : decode cL_law 484 = .ok (.iload 5, 2) := by decide +kernel
theorem dL_law_486 : decode cL_law 486 = .ok (.iconst 1, 1) := by decide +kernel
theorem dL_law_487 : decode cL_law 487 = .ok (.invokevirtual 47, 3) := by decide +kernel
theorem dL_law_490 : decode cL_law 490 = .ok (.aload_n 1, 1) := by decide +kernel
theorem dL_law_491 : decode cL_law 491 = .ok (.iload 6, 2) := by decide +kernel
theorem dL_law_493 : decode cL_law 493 = .ok (.iconst 1, 1) := by decide +kernel
theorem dL_law_494 : decode cL_law 494 = .ok (.invokevirtual 47, 3) := by decide +kernel
theorem dL_law_497 : decode cL_law 497 = .ok (.if_icmp .ne 7, 3) := by decide +kernel
theorem dL_law_500 : decode cL_law 500 = .ok (.iconst 1, 1) := by decide +kernel
theorem dL_law_501 : decode cL_law 501 = .ok (.goto 4, 3) := by decide +kernel
theorem dL_law_504 : decode cL_law 504 = .ok (.iconst 0, 1) := by decide +kernel
theorem dL_law_505 : decode cL_law 505 = .ok (.if_icmp .eq 5, 3) := by decide +kernel
theorem dL_law_508 : decode cL_law 508 = .ok (.iconst 0, 1) := by decide +kernel
theorem dL_law_509 : decode cL_law 509 = .ok (.ireturn, 1) := by decide +kernel
theorem dL_law_510 : decode cL_law 510 = .ok (.aload_n 1, 1) := by decide +kernel
theorem dL_law_511 : decode cL_law 511 = .ok (.iload 5, 2) := by decide +kernel
theorem dL_law_513 : decode cL_law 513 = .ok (.iload 6, 2) := by decide +kernel
theorem dL_law_515 : decode cL_law 515 = .ok (.invokevirtual 53, 3) := by decide +kernel
theorem dL_law_518 : decode cL_law 518 = .ok (.ifCond .eq 35, 3) := by decide +kernel
theorem dL_law_521 : decode cL_law 521 = .ok (.iload 7, 2) := by decide +kernel
theorem dL_law_523 : decode cL_law 523 = .ok (.iconst 1, 1) := by decide +kernel
theorem dL_law_524 : decode cL_law 524 = .ok (.if_icmp .ne 27, 3) := by decide +kernel
theorem dL_law_527 : decode cL_law 527 = .ok (.aload_n 1, 1) := by decide +kernel
theorem dL_law_528 : decode cL_law 528 = .ok (.iload 5, 2) := by decide +kernel
theorem dL_law_530 : decode cL_law 530 = .ok (.iload 6, 2) := by decide +kernel
theorem dL_law_532 : decode cL_law 532 = .ok (.invokevirtual 57, 3) := by decide +kernel
theorem dL_law_535 : decode cL_law 535 = .ok (.ifCond .ne 16, 3) := by decide +kernel
theorem dL_law_538 : decode cL_law 538 = .ok (.aload_n 1, 1) := by decide +kernel
theorem dL_law_539 : decode cL_law 539 = .ok (.iload 5, 2) := by decide +kernel
theorem dL_law_541 : decode cL_law 541 = .ok (.iload 6, 2) := by decide +kernel
theorem dL_law_543 : decode cL_law 543 = .ok (.iconst 2, 1) := by decide +kernel
theorem dL_law_544 : decode cL_law 544 = .ok (.invokevirtual 60, 3) := by decide +kernel
theorem dL_law_547 : decode cL_law 547 = .ok (.iconst (-1), 1) := by decide +kernel
theorem dL_law_548 : decode cL_law 548 = .ok (.if_icmp .eq 5, 3) := by decide +kernel
theorem dL_law_551 : decode cL_law 551 = .ok (.iconst 0, 1) := by decide +kernel
theorem dL_law_552 : decode cL_law 552 = .ok (.ireturn, 1) := by decide +kernel
theorem dL_law_553 : decode cL_law 553 = .ok (.aload_n 1, 1) := by decide +kernel
theorem dL_law_554 : decode cL_law 554 = .ok (.iload 5, 2) := by decide +kernel
theorem dL_law_556 : decode cL_law 556 = .ok (.iconst 1, 1) := by decide +kernel
theorem dL_law_557 : decode cL_law 557 = .ok (.invokevirtual 47, 3) := by decide +kernel
theorem dL_law_560 : decode cL_law 560 = .ok (.iload 5, 2) := by decide +kernel
theorem dL_law_562 : decode cL_law 562 = .ok (.if_icmp .ne 29, 3) := by decide +kernel
theorem dL_law_565 : decode cL_law 565 = .ok (.aload_n 1, 1) := by decide +kernel
theorem dL_law_566 : decode cL_law 566 = .ok (.iload 6, 2) := by decide +kernel
theorem dL_law_568 : decode cL_law 568 = .ok (.iconst 1, 1) := by decide +kernel
theorem dL_law_569 : decode cL_law 569 = .ok (.invokevirtual 47, 3) := by decide +kernel
theorem dL_law_572 : decode cL_law 572 = .ok (.iload 6, 2) := by decide +kernel
theorem dL_law_574 : decode cL_law 574 = .ok (.if_icmp .ne 17, 3) := by decide +kernel
theorem dL_law_577 : decode cL_law 577 = .ok (.aload_n 1, 1) := by decide +kernel
theorem dL_law_578 : decode cL_law 578 = .ok (.iload 5, 2) := by decide +kernel
theorem dL_law_580 : decode cL_law 580 = .ok (.iload 6, 2) := by decide +kernel
theorem dL_law_582 : decode cL_law 582 = .ok (.invokevirtual 53, 3) := by decide +kernel
theorem dL_law_585 : decode cL_law 585 = .ok (.ifCond .eq 6, 3) := by decide +kernel
theorem dL_law_588 : decode cL_law 588 = .ok (.iinc 3 1, 3) := by decide +kernel
theorem dL_law_591 : decode cL_law 591 = .ok (.iload 7, 2) := by decide +kernel
theorem dL_law_593 : decode cL_law 593 = .ok (.iconst 1, 1) := by decide +kernel
theorem dL_law_594 : decode cL_law 594 = .ok (.if_icmp .eq 23, 3) := by decide +kernel
theorem dL_law_597 : decode cL_law 597 = .ok (.iload 7, 2) := by decide +kernel
theorem dL_law_599 : decode cL_law 599 = .ok (.ifCond .eq 210, 3) := by decide +kernel
theorem dL_law_602 : decode cL_law 602 = .ok (.aload_n 1, 1) := by decide +kernel
theorem dL_law_603 : decode cL_law 603 = .ok (.iload 5, 2) := by decide +kernel
theorem dL_law_605 : decode cL_law 605 = .ok (.iload 6, 2) := by decide +kernel
theorem dL_law_607 : decode cL_law 607 = .ok (.iconst 0, 1) := by decide +kernel
theorem dL_law_608 : decode cL_law 608 = .ok (.invokevirtual 60, 3) := by decide +kernel
theorem dL_law_611 : decode cL_law 611 = .ok (.iconst (-1), 1) := by decide +kernel
theorem dL_law_612 : decode cL_law 612 = .ok (.if_icmp .eq 197, 3) := by decide +kernel
theorem dL_law_615 : decode cL_law 615 = .ok (.iconst 0, 1) := by decide +kernel
theorem dL_law_616 : decode cL_law 616 = .ok (.ireturn, 1) := by decide +kernel
theorem dL_law_617 : decode cL_law 617 = .ok (.aload_n 1, 1) := by decide +kernel
theorem dL_law_618 : decode cL_law 618 = .ok (.iload 5, 2) := by decide +kernel
theorem dL_law_620 : decode cL_law 620 = .ok (.iconst 3, 1) := by decide +kernel
theorem dL_law_621 : decode cL_law 621 = .ok (.invokevirtual 47, 3) := by decide +kernel
theorem dL_law_624 : decode cL_law 624 = .ok (.aload_n 1, 1) := by decide +kernel
theorem dL_law_625 : decode cL_law 625 = .ok (.iload 6, 2) := by decide +kernel
theorem dL_law_627 : decode cL_law 627 = .ok (.iconst 3, 1) := by decide +kernel
theorem dL_law_628 : decode cL_law 628 = .ok (.invokevirtual 47, 3) := by decide +kernel
theorem dL_law_631 : decode cL_law 631 = .ok (.if_icmp .le 54, 3) := by decide +kernel
theorem dL_law_634 : decode cL_law 634 = .ok (.aload_n 1, 1) := by decide +kernel
theorem dL_law_635 : decode cL_law 635 = .ok (.iload 5, 2) := by decide +kernel
theorem dL_law_637 : decode cL_law 637 = .ok (.iconst 4, 1) := by decide +kernel
theorem dL_law_638 : decode cL_law 638 = .ok (.invokevirtual 47, 3) := by decide +kernel
theorem dL_law_641 : decode cL_law 641 = .ok (.aload_n 1, 1) := by decide +kernel
theorem dL_law_642 : decode cL_law 642 = .ok (.iload 6, 2) := by decide +kernel
theorem dL_law_644 : decode cL_law 644 = .ok (.iconst 4, 1) := by decide +kernel
theorem dL_law_645 : decode cL_law 645 = .ok (.invokevirtual 47, 3) := by decide +kernel
theorem dL_law_648 : decode cL_law 648 = .ok (.if_icmp .ge 37, 3) := by decide +kernel
theorem dL_law_651 : decode cL_law 651 = .ok (.aload_n 1, 1) := by decide +kernel
theorem dL_law_652 : decode cL_law 652 = .ok (.iload 5, 2) := by decide +kernel
theorem dL_law_654 : decode cL_law 654 = .ok (.iconst 0, 1) := by decide +kernel
theorem dL_law_655 : decode cL_law 655 = .ok (.invokevirtual 63, 3) := by decide +kernel
theorem dL_law_658 : decode cL_law 658 = .ok (.aload_n 1, 1) := by decide +kernel
theorem dL_law_659 : decode cL_law 659 = .ok (.iload 6, 2) := by decide +kernel
theorem dL_law_661 : decode cL_law 661 = .ok (.iconst 0, 1) := by decide +kernel
theorem dL_law_662 : decode cL_law 662 = .ok (.invokevirtual 63, 3) := by decide +kernel
theorem dL_law_665 : decode cL_law 665 = .ok (.if_icmp .lt 20, 3) := by decide +kernel
theorem dL_law_668 : decode cL_law 668 = .ok (.aload_n 1, 1) := by decide +kernel
theorem dL_law_669 : decode cL_law 669 = .ok (.iload 5, 2) := by decide +kernel
theorem dL_law_671 : decode cL_law 671 = .ok (.iconst 1, 1) := by decide +kernel
theorem dL_law_672 : decode cL_law 672 = .ok (.invokevirtual 63, 3) := by decide +kernel
theorem dL_law_675 : decode cL_law 675 = .ok (.aload_n 1, 1) := by decide +kernel
theorem dL_law_676 : decode cL_law 676 = .ok (.iload 6, 2) := by decide +kernel
theorem dL_law_678 : decode cL_law 678 = .ok (.iconst 1, 1) := by decide +kernel
theorem dL_law_679 : decode cL_law 679 = .ok (.invokevirtual 63, 3) := by decide +kernel
theorem dL_law_682 : decode cL_law 682 = .ok (.if_icmp .ge 5, 3) := by decide +kernel
theorem dL_law_685 : decode cL_law 685 = .ok (.iconst 0, 1) := by decide +kernel
theorem dL_law_686 : decode cL_law 686 = .ok (.ireturn, 1) := by decide +kernel
theorem dL_law_687 : decode cL_law 687 = .ok (.iconst 0, 1) := by decide +kernel
theorem dL_law_688 : decode cL_law 688 = .ok (.istore 9, 2) := by decide +kernel
theorem dL_law_690 : decode cL_law 690 = .ok (.aload_n 1, 1) := by decide +kernel
theorem dL_law_691 : decode cL_law 691 = .ok (.iload 5, 2) := by decide +kernel
theorem dL_law_693 : decode cL_law 693 = .ok (.iload 6, 2) := by decide +kernel
theorem dL_law_695 : decode cL_law 695 = .ok (.iload 9, 2) := by decide +kernel
theorem dL_law_697 : decode cL_law 697 = .ok (.iconst 1, 1) := by decide +kernel
theorem dL_law_698 : decode cL_law 698 = .ok (.iadd, 1) := by decide +kernel
theorem dL_law_699 : decode cL_law 699 = .ok (.invokevirtual 60, 3) := by decide +kernel
theorem dL_law_702 : decode cL_law 702 = .ok (.ifCond .lt 40, 3) := by decide +kernel
theorem dL_law_705 : decode cL_law 705 = .ok (.aload_n 1, 1) := by decide +kernel
theorem dL_law_706 : decode cL_law 706 = .ok (.aload_n 1, 1) := by decide +kernel
theorem dL_law_707 : decode cL_law 707 = .ok (.iload 5, 2) := by decide +kernel
theorem dL_law_709 : decode cL_law 709 = .ok (.iload 6, 2) := by decide +kernel
theorem dL_law_711 : decode cL_law 711 = .ok (.iload 9, 2) := by decide +kernel
theorem dL_law_713 : decode cL_law 713 = .ok (.invokevirtual 60, 3) := by decide +kernel
theorem dL_law_716 : decode cL_law 716 = .ok (.aload_n 1, 1) := by decide +kernel
theorem dL_law_717 : decode cL_law 717 = .ok (.iload 5, 2) := by decide +kernel
theorem dL_law_719 : decode cL_law 719 = .ok (.iload 6, 2) := by decide +kernel
theorem dL_law_721 : decode cL_law 721 = .ok (.iload 9, 2) := by decide +kernel
theorem dL_law_723 : decode cL_law 723 = .ok (.iconst 1, 1) := by decide +kernel
theorem dL_law_724 : decode cL_law 724 = .ok (.iadd, 1) := by decide +kernel
theorem dL_law_725 : decode cL_law 725 = .ok (.invokevirtual 60, 3) := by decide +kernel
theorem dL_law_728 : decode cL_law 728 = .ok (.invokevirtual 53, 3) := by decide +kernel
theorem dL_law_731 : decode cL_law 731 = .ok (.ifCond .ne 5, 3) := by decide +kernel
theorem dL_law_734 : decode cL_law 734 = .ok (.iconst 0, 1) := by decide +kernel
theorem dL_law_735 : decode cL_law 735 = .ok (.ireturn, 1) := by decide +kernel
theorem dL_law_736 : decode cL_law 736 = .ok (.iinc 9 1, 3) := by decide +kernel
theorem dL_law_739 : decode cL_law 739 = .ok (.goto (-49), 3) := by decide +kernel
theorem dL_law_742 : decode cL_law 742 = .ok (.aload_n 1, 1) := by decide +kernel
theorem dL_law_743 : decode cL_law 743 = .ok (.iload 5, 2) := by decide +kernel
theorem dL_law_745 : decode cL_law 745 = .ok (.iload 6, 2) := by decide +kernel
theorem dL_law_747 : decode cL_law 747 = .ok (.iconst 0, 1) := by decide +kernel
theorem dL_law_748 : decode cL_law 748 = .ok (.invokevirtual 60, 3) := by decide +kernel
theorem dL_law_751 : decode cL_law 751 = .ok (.aload_n 1, 1) := by decide +kernel
theorem dL_law_752 : decode cL_law 752 = .ok (.iload 5, 2) := by decide +kernel
theorem dL_law_754 : decode cL_law 754 = .ok (.iconst 1, 1) := by decide +kernel
theorem dL_law_755 : decode cL_law 755 = .ok (.invokevirtual 47, 3) := by decide +kernel
theorem dL_law_758 : decode cL_law 758 = .ok (.if_icmp .ne 49, 3) := by decide +kernel
theorem dL_law_761 : decode cL_law 761 = .ok (.aload_n 1, 1) := by decide +kernel
theorem dL_law_762 : decode cL_law 762 = .ok (.iload 5, 2) := by decide +kernel
theorem dL_law_764 : decode cL_law 764 = .ok (.iload 6, 2) := by decide +kernel
theorem dL_law_766 : decode cL_law 766 = .ok (.iload 9, 2) := by decide +kernel
theorem dL_law_768 : decode cL_law 768 = .ok (.invokevirtual 60, 3) := by decide +kernel
theorem dL_law_771 : decode cL_law 771 = .ok (.aload_n 1, 1) := by decide +kernel
theorem dL_law_772 : decode cL_law 772 = .ok (.iload 6, 2) := by decide +kernel
theorem dL_law_774 : decode cL_law 774 = .ok (.iconst 1, 1) := by decide +kernel
theorem dL_law_775 : decode cL_law 775 = .ok (.invokevirtual 47, 3) := by decide +kernel
theorem dL_law_778 : decode cL_law 778 = .ok (.if_icmp .ne 29, 3) := by decide +kernel
theorem dL_law_781 : decode cL_law 781 = .ok (.iload 9, 2) := by decide +kernel
theorem dL_law_783 : decode cL_law 783 = .ok (.aload_n 1, 1) := by decide +kernel
theorem dL_law_784 : decode cL_law 784 = .ok (.iload 5, 2) := by decide +kernel
theorem dL_law_786 : decode cL_law 786 = .ok (.iconst 3, 1) := by decide +kernel
theorem dL_law_787 : decode cL_law 787 = .ok (.invokevirtual 47, 3) := by decide +kernel
theorem dL_law_790 : decode cL_law 790 = .ok (.aload_n 1, 1) := by decide +kernel
theorem dL_law_791 : decode cL_law 791 = .ok (.iload 6, 2) := by decide +kernel
theorem dL_law_793 : decode cL_law 793 = .ok (.iconst 3, 1) := by decide +kernel
theorem dL_law_794 : decode cL_law 794 = .ok (.invokevirtual 47, 3) := by decide +kernel
theorem dL_law_797 : decode cL_law 797 = .ok (.isub, 1) := by decide +kernel
theorem dL_law_798 : decode cL_law 798 = .ok (.if_icmp .gt 9, 3) := by decide +kernel
theorem dL_law_801 : decode cL_law 801 = .ok (.iload 9, 2) := by decide +kernel
theorem dL_law_803 : decode cL_law 803 = .ok (.iconst 1, 1) := by decide +kernel
theorem dL_law_804 : decode cL_law 804 = .ok (.if_icmp .ge 5, 3) := by decide +kernel
theorem dL_law_807 : decode cL_law 807 = .ok (.iconst 0, 1) := by decide +kernel
theorem dL_law_808 : decode cL_law 808 = .ok (.ireturn, 1) := by decide +kernel
theorem dL_law_809 : decode cL_law 809 = .ok (.iinc 6 1, 3) := by decide +kernel
theorem dL_law_812 : decode cL_law 812 = .ok (.goto (-388), 3) := by decide +kernel
theorem dL_law_815 : decode cL_law 815 = .ok (.iinc 5 1, 3) := by decide +kernel
theorem dL_law_818 : decode cL_law 818 = .ok (.goto (-485), 3) := by decide +kernel
theorem dL_law_821 : decode cL_law 821 = .ok (.iload 4, 2) := by decide +kernel
theorem dL_law_823 : decode cL_law 823 = .ok (.iload_n 2, 1) := by decide +kernel
theorem dL_law_824 : decode cL_law 824 = .ok (.if_icmp .ne 31, 3) := by decide +kernel
theorem dL_law_827 : decode cL_law 827 = .ok (.iload_n 3, 1) := by decide +kernel
theorem dL_law_828 : decode cL_law 828 = .ok (.aload_n 1, 1) := by decide +kernel
theorem dL_law_829 : decode cL_law 829 = .ok (.iconst 3, 1) := by decide +kernel
theorem dL_law_830 : decode cL_law 830 = .ok (.invokevirtual 26, 3) := by decide +kernel
theorem dL_law_833 : decode cL_law 833 = .ok (.if_icmp .ne 22, 3) := by decide +kernel
theorem dL_law_836 : decode cL_law 836 = .ok (.aload_n 1, 1) := by decide +kernel
theorem dL_law_837 : decode cL_law 837 = .ok (.iconst 2, 1) := by decide +kernel
theorem dL_law_838 : decode cL_law 838 = .ok (.invokevirtual 26, 3) := by decide +kernel
theorem dL_law_841 : decode cL_law 841 = .ok (.iload_n 2, 1) := by decide +kernel
theorem dL_law_842 : decode cL_law 842 = .ok (.if_icmp .gt 13, 3) := by decide +kernel
theorem dL_law_845 : decode cL_law 845 = .ok (.aload_n 1, 1) := by decide +kernel
theorem dL_law_846 : decode cL_law 846 = .ok (.bipush 7, 2) := by decide +kernel
theorem dL_law_848 : decode cL_law 848 = .ok (.invokevirtual 26, 3) := by decide +kernel
theorem dL_law_851 : decode cL_law 851 = .ok (.iconst 1, 1) := by decide +kernel
theorem dL_law_852 : decode cL_law 852 = .ok (.if_icmp .ge 5, 3) := by decide +kernel
theorem dL_law_855 : decode cL_law 855 = .ok (.iconst 0, 1) := by decide +kernel
theorem dL_law_856 : decode cL_law 856 = .ok (.ireturn, 1) := by decide +kernel
theorem dL_law_857 : decode cL_law 857 = .ok (.iconst 0, 1) := by decide +kernel
theorem dL_law_858 : decode cL_law 858 = .ok (.istore 5, 2) := by decide +kernel
theorem dL_law_860 : decode cL_law 860 = .ok (.iconst 0, 1) := by decide +kernel
theorem dL_law_861 : decode cL_law 861 = .ok (.istore 6, 2) := by decide +kernel
theorem dL_law_863 : decode cL_law 863 = .ok (.iload 6, 2) := by decide +kernel
theorem dL_law_865 : decode cL_law 865 = .ok (.iload_n 2, 1) := by decide +kernel
theorem dL_law_866 : decode cL_law 866 = .ok (.if_icmp .ge 48, 3) := by decide +kernel
theorem dL_law_869 : decode cL_law 869 = .ok (.iload 5, 2) := by decide +kernel
theorem dL_law_871 : decode cL_law 871 = .ok (.aload_n 1, 1) := by decide +kernel
theorem dL_law_872 : decode cL_law 872 = .ok (.iload 6, 2) := by decide +kernel
theorem dL_law_874 : decode cL_law 874 = .ok (.iconst 1, 1) := by decide +kernel
theorem dL_law_875 : decode cL_law 875 = .ok (.invokevirtual 47, 3) := by decide +kernel
theorem dL_law_878 : decode cL_law 878 = .ok (.iload 6, 2) := by decide +kernel
theorem dL_law_880 : decode cL_law 880 = .ok (.if_icmp .ne 24, 3) := by decide +kernel
theorem dL_law_883 : decode cL_law 883 = .ok (.aload_n 1, 1) := by decide +kernel
theorem dL_law_884 : decode cL_law 884 = .ok (.iload 6, 2) := by decide +kernel
theorem dL_law_886 : decode cL_law 886 = .ok (.iconst 0, 1) := by decide +kernel
theorem dL_law_887 : decode cL_law 887 = .ok (.invokevirtual 63, 3) := by decide +kernel
theorem dL_law_890 : decode cL_law 890 = .ok (.aload_n 1, 1) := by decide +kernel
theorem dL_law_891 : decode cL_law 891 = .ok (.iload 6, 2) := by decide +kernel
theorem dL_law_893 : decode cL_law 893 = .ok (.iconst 1, 1) := by decide +kernel
theorem dL_law_894 : decode cL_law 894 = .ok (.invokevirtual 63, 3) := by decide +kernel
theorem dL_law_897 : decode cL_law 897 = .ok (.if_icmp .le 7, 3) := by decide +kernel
theorem dL_law_900 : decode cL_law 900 = .ok (.iconst 1, 1) := by decide +kernel
theorem dL_law_901 : decode cL_law 901 = .ok (.goto 4, 3) := by decide +kernel
theorem dL_law_904 : decode cL_law 904 = .ok (.iconst 0, 1) := by decide +kernel
theorem dL_law_905 : decode cL_law 905 = .ok (.iadd, 1) := by decide +kernel
theorem dL_law_906 : decode cL_law 906 = .ok (.istore 5, 2) := by decide +kernel
theorem dL_law_908 : decode cL_law 908 = .ok (.iinc 6 1, 3) := by decide +kernel
theorem dL_law_911 : decode cL_law 911 = .ok (.goto (-48), 3) := by decide +kernel
theorem dL_law_914 : decode cL_law 914 = .ok (.aload_n 1, 1) := by decide +kernel
theorem dL_law_915 : decode cL_law 915 = .ok (.bipush 6, 2) := by decide +kernel
theorem dL_law_917 : decode cL_law 917 = .ok (.invokevirtual 26, 3) := by decide +kernel
theorem dL_law_920 : decode cL_law 920 = .ok (.iload 5, 2) := by decide +kernel
theorem dL_law_922 : decode cL_law 922 = .ok (.if_icmp .eq 5, 3) := by decide +kernel
theorem dL_law_925 : decode cL_law 925 = .ok (.iconst 0, 1) := by decide +kernel
theorem dL_law_926 : decode cL_law 926 = .ok (.ireturn, 1) := by decide +kernel
theorem dL_law_927 : decode cL_law 927 = .ok (.aload_n 1, 1) := by decide +kernel
theorem dL_law_928 : decode cL_law 928 = .ok (.invokevirtual 67, 3) := by decide +kernel
theorem dL_law_931 : decode cL_law 931 = .ok (.pop, 1) := by decide +kernel
theorem dL_law_932 : decode cL_law 932 = .ok (.aload_n 1, 1) := by decide +kernel
theorem dL_law_933 : decode cL_law 933 = .ok (.bipush 8, 2) := by decide +kernel
theorem dL_law_935 : decode cL_law 935 = .ok (.invokevirtual 26, 3) := by decide +kernel
theorem dL_law_938 : decode cL_law 938 = .ok (.ifCond .ne 10, 3) := by decide +kernel
theorem dL_law_941 : decode cL_law 941 = .ok (.aload_n 1, 1) := by decide +kernel
theorem dL_law_942 : decode cL_law 942 = .ok (.invokevirtual 67, 3) := by decide +kernel
theorem dL_law_945 : decode cL_law 945 = .ok (.ifCond .eq 5, 3) := by decide +kernel
theorem dL_law_948 : decode cL_law 948 = .ok (.iconst 0, 1) := by decide +kernel
theorem dL_law_949 : decode cL_law 949 = .ok (.ireturn, 1) := by decide +kernel
theorem dL_law_950 : decode cL_law 950 = .ok (.iconst 0, 1) := by decide +kernel
theorem dL_law_951 : decode cL_law 951 = .ok (.istore 6, 2) := by decide +kernel
theorem dL_law_953 : decode cL_law 953 = .ok (.aload_n 1, 1) := by decide +kernel
theorem dL_law_954 : decode cL_law 954 = .ok (.iconst 0, 1) := by decide +kernel
theorem dL_law_955 : decode cL_law 955 = .ok (.invokevirtual 71, 3) := by decide +kernel
theorem dL_law_958 : decode cL_law 958 = .ok (.ifCond .lt 47, 3) := by decide +kernel
theorem dL_law_961 : decode cL_law 961 = .ok (.aload_n 1, 1) := by decide +kernel
theorem dL_law_962 : decode cL_law 962 = .ok (.aload_n 1, 1) := by decide +kernel
theorem dL_law_963 : decode cL_law 963 = .ok (.aload_n 0, 1) := by decide +kernel
theorem dL_law_964 : decode cL_law 964 = .ok (.iload 6, 2) := by decide +kernel
theorem dL_law_966 : decode cL_law 966 = .ok (.iconst 5, 1) := by decide +kernel
theorem dL_law_967 : decode cL_law 967 = .ok (.irem, 1) := by decide +kernel
theorem dL_law_968 : decode cL_law 968 = .ok (.invokestatic 12, 3) := by decide +kernel
theorem dL_law_971 : decode cL_law 971 = .ok (.iconst 2, 1) := by decide +kernel
theorem dL_law_972 : decode cL_law 972 = .ok (.invokestatic 18, 3) := by decide +kernel
theorem dL_law_975 : decode cL_law 975 = .ok (.iconst 1, 1) := by decide +kernel
theorem dL_law_976 : decode cL_law 976 = .ok (.if_icmp .ne 15, 3) := by decide +kernel
theorem dL_law_979 : decode cL_law 979 = .ok (.aload_n 1, 1) := by decide +kernel
theorem dL_law_980 : decode cL_law 980 = .ok (.iconst 1, 1) := by decide +kernel
theorem dL_law_981 : decode cL_law 981 = .ok (.invokevirtual 71, 3) := by decide +kernel
theorem dL_law_984 : decode cL_law 984 = .ok (.ifCond .lt 7, 3) := by decide +kernel
theorem dL_law_987 : decode cL_law 987 = .ok (.iconst 1, 1) := by decide +kernel
theorem dL_law_988 : decode cL_law 988 = .ok (.goto 4, 3) := by decide +kernel
theorem dL_law_991 : decode cL_law 991 = .ok (.iconst 0, 1) := by decide +kernel
theorem dL_law_992 : decode cL_law 992 = .ok (.invokevirtual 71, 3) := by decide +kernel
theorem dL_law_995 : decode cL_law 995 = .ok (.invokevirtual 74, 3) := by decide +kernel
theorem dL_law_998 : decode cL_law 998 = .ok (.pop, 1) := by decide +kernel
theorem dL_law_999 : decode cL_law 999 = .ok (.iinc 6 1, 3) := by decide +kernel
theorem dL_law_1002 : decode cL_law 1002 = .ok (.goto (-49), 3) := by decide +kernel
theorem dL_law_1005 : decode cL_law 1005 = .ok (.iload 6, 2) := by decide +kernel
theorem dL_law_1007 : decode cL_law 1007 = .ok (.iload_n 2, 1) := by decide +kernel
theorem dL_law_1008 : decode cL_law 1008 = .ok (.if_icmp .ne 16, 3) := by decide +kernel
theorem dL_law_1011 : decode cL_law 1011 = .ok (.aload_n 1, 1) := by decide +kernel
theorem dL_law_1012 : decode cL_law 1012 = .ok (.iconst 5, 1) := by decide +kernel
theorem dL_law_1013 : decode cL_law 1013 = .ok (.invokevirtual 26, 3) := by decide +kernel
theorem dL_law_1016 : decode cL_law 1016 = .ok (.iload_n 2, 1) := by decide +kernel
theorem dL_law_1017 : decode cL_law 1017 = .ok (.if_icmp .ne 7, 3) := by decide +kernel
theorem dL_law_1020 : decode cL_law 1020 = .ok (.iconst 1, 1) := by decide +kernel
theorem dL_law_1021 : decode cL_law 1021 = .ok (.goto 4, 3) := by decide +kernel
theorem dL_law_1024 : decode cL_law 1024 = .ok (.iconst 0, 1) := by decide +kernel
theorem dL_law_1025 : decode cL_law 1025 = .ok (.ireturn, 1) := by decide +kernel
