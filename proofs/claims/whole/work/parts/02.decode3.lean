theorem dX12_talk_26 : decode cX12_talk 26 = .ok (.ifCond .ne 6, 3) := by decide +kernel
theorem dX12_talk_29 : decode cX12_talk 29 = .ok (.bipush (-3), 2) := by decide +kernel
theorem dX12_talk_31 : decode cX12_talk 31 = .ok (.ireturn, 1) := by decide +kernel
theorem dX12_talk_32 : decode cX12_talk 32 = .ok (.iconst 1, 1) := by decide +kernel
theorem dX12_talk_33 : decode cX12_talk 33 = .ok (.iload_n 1, 1) := by decide +kernel
theorem dX12_talk_34 : decode cX12_talk 34 = .ok (.ishl, 1) := by decide +kernel
theorem dX12_talk_35 : decode cX12_talk 35 = .ok (.istore_n 3, 1) := by decide +kernel
theorem dX12_talk_36 : decode cX12_talk 36 = .ok (.iconst 0, 1) := by decide +kernel
theorem dX12_talk_37 : decode cX12_talk 37 = .ok (.istore 4, 2) := by decide +kernel
theorem dX12_talk_39 : decode cX12_talk 39 = .ok (.iload 4, 2) := by decide +kernel
theorem dX12_talk_41 : decode cX12_talk 41 = .ok (.iload_n 2, 1) := by decide +kernel
theorem dX12_talk_42 : decode cX12_talk 42 = .ok (.if_icmp .ge 15, 3) := by decide +kernel
theorem dX12_talk_45 : decode cX12_talk 45 = .ok (.aload_n 0, 1) := by decide +kernel
theorem dX12_talk_46 : decode cX12_talk 46 = .ok (.iload_n 3, 1) := by decide +kernel
theorem dX12_talk_47 : decode cX12_talk 47 = .ok (.invokevirtual 439, 3) := by decide +kernel
theorem dX12_talk_50 : decode cX12_talk 50 = .ok (.istore_n 3, 1) := by decide +kernel
theorem dX12_talk_51 : decode cX12_talk 51 = .ok (.iinc 4 1, 3) := by decide +kernel
theorem dX12_talk_54 : decode cX12_talk 54 = .ok (.goto (-15), 3) := by decide +kernel
theorem dX12_talk_57 : decode cX12_talk 57 = .ok (.iload_n 3, 1) := by decide +kernel
theorem dX12_talk_58 : decode cX12_talk 58 = .ok (.ireturn, 1) := by decide +kernel
theorem dX12_told_0 : decode cX12_told 0 = .ok (.aload_n 0, 1) := by decide +kernel
theorem dX12_told_1 : decode cX12_told 1 = .ok (.iconst 0, 1) := by decide +kernel
theorem dX12_told_2 : decode cX12_told 2 = .ok (.putfield 1, 3) := by decide +kernel
theorem dX12_told_5 : decode cX12_told 5 = .ok (.aload_n 0, 1) := by decide +kernel
theorem dX12_told_6 : decode cX12_told 6 = .ok (.iload_n 1, 1) := by decide +kernel
theorem dX12_told_7 : decode cX12_told 7 = .ok (.i2l, 1) := by decide +kernel
theorem dX12_told_8 : decode cX12_told 8 = .ok (.invokevirtual 272, 3) := by decide +kernel
theorem dX12_told_11 : decode cX12_told 11 = .ok (.ifCond .ne 6, 3) := by decide +kernel
theorem dX12_told_14 : decode cX12_told 14 = .ok (.bipush (-2), 2) := by decide +kernel
theorem dX12_told_16 : decode cX12_told 16 = .ok (.ireturn, 1) := by decide +kernel
theorem dX12_told_17 : decode cX12_told 17 = .ok (.iconst 1, 1) := by decide +kernel
theorem dX12_told_18 : decode cX12_told 18 = .ok (.iload_n 1, 1) := by decide +kernel
theorem dX12_told_19 : decode cX12_told 19 = .ok (.ishl, 1) := by decide +kernel
theorem dX12_told_20 : decode cX12_told 20 = .ok (.istore_n 2, 1) := by decide +kernel
theorem dX12_told_21 : decode cX12_told 21 = .ok (.iconst 0, 1) := by decide +kernel
theorem dX12_told_22 : decode cX12_told 22 = .ok (.istore_n 3, 1) := by decide +kernel
theorem dX12_told_23 : decode cX12_told 23 = .ok (.iload_n 3, 1) := by decide +kernel
theorem dX12_told_24 : decode cX12_told 24 = .ok (.bipush 8, 2) := by decide +kernel
theorem dX12_told_26 : decode cX12_told 26 = .ok (.if_icmp .gt 25, 3) := by decide +kernel
theorem dX12_told_29 : decode cX12_told 29 = .ok (.iload_n 2, 1) := by decide +kernel
theorem dX12_told_30 : decode cX12_told 30 = .ok (.aload_n 0, 1) := by decide +kernel
theorem dX12_told_31 : decode cX12_told 31 = .ok (.invokevirtual 424, 3) := by decide +kernel
theorem dX12_told_34 : decode cX12_told 34 = .ok (.if_icmp .ne 5, 3) := by decide +kernel
theorem dX12_told_37 : decode cX12_told 37 = .ok (.iload_n 3, 1) := by decide +kernel
theorem dX12_told_38 : decode cX12_told 38 = .ok (.ireturn, 1) := by decide +kernel
theorem dX12_told_39 : decode cX12_told 39 = .ok (.aload_n 0, 1) := by decide +kernel
theorem dX12_told_40 : decode cX12_told 40 = .ok (.iload_n 2, 1) := by decide +kernel
theorem dX12_told_41 : decode cX12_told 41 = .ok (.invokevirtual 439, 3) := by decide +kernel
theorem dX12_told_44 : decode cX12_told 44 = .ok (.istore_n 2, 1) := by decide +kernel
theorem dX12_told_45 : decode cX12_told 45 = .ok (.iinc 3 1, 3) := by decide +kernel
theorem dX12_told_48 : decode cX12_told 48 = .ok (.goto (-25), 3) := by decide +kernel
theorem dX12_told_51 : decode cX12_told 51 = .ok (.iconst (-1), 1) := by decide +kernel
theorem dX12_told_52 : decode cX12_told 52 = .ok (.ireturn, 1) := by decide +kernel
theorem dX12_campCost_0 : decode cX12_campCost 0 = .ok (.iconst 0, 1) := by decide +kernel
theorem dX12_campCost_1 : decode cX12_campCost 1 = .ok (.istore_n 2, 1) := by decide +kernel
theorem dX12_campCost_2 : decode cX12_campCost 2 = .ok (.iconst 0, 1) := by decide +kernel
theorem dX12_campCost_3 : decode cX12_campCost 3 = .ok (.istore_n 3, 1) := by decide +kernel
theorem dX12_campCost_4 : decode cX12_campCost 4 = .ok (.iload_n 3, 1) := by decide +kernel
theorem dX12_campCost_5 : decode cX12_campCost 5 = .ok (.aload_n 0, 1) := by decide +kernel
theorem dX12_campCost_6 : decode cX12_campCost 6 = .ok (.getfield 13, 3) := by decide +kernel
theorem dX12_campCost_9 : decode cX12_campCost 9 = .ok (.iconst 3, 1) := by decide +kernel
theorem dX12_campCost_10 : decode cX12_campCost 10 = .ok (.iaload, 1) := by decide +kernel
theorem dX12_campCost_11 : decode cX12_campCost 11 = .ok (.if_icmp .ge 70, 3) := by decide +kernel
theorem dX12_campCost_14 : decode cX12_campCost 14 = .ok (.iload_n 3, 1) := by decide +kernel
theorem dX12_campCost_15 : decode cX12_campCost 15 = .ok (.iconst 1, 1) := by decide +kernel
theorem dX12_campCost_16 : decode cX12_campCost 16 = .ok (.iadd, 1) := by decide +kernel
theorem dX12_campCost_17 : decode cX12_campCost 17 = .ok (.istore 4, 2) := by decide +kernel
theorem dX12_campCost_19 : decode cX12_campCost 19 = .ok (.iload 4, 2) := by decide +kernel
theorem dX12_campCost_21 : decode cX12_campCost 21 = .ok (.aload_n 0, 1) := by decide +kernel
theorem dX12_campCost_22 : decode cX12_campCost 22 = .ok (.getfield 13, 3) := by decide +kernel
theorem dX12_campCost_25 : decode cX12_campCost 25 = .ok (.iconst 3, 1) := by decide +kernel
theorem dX12_campCost_26 : decode cX12_campCost 26 = .ok (.iaload, 1) := by decide +kernel
theorem dX12_campCost_27 : decode cX12_campCost 27 = .ok (.if_icmp .ge 48, 3) := by decide +kernel
theorem dX12_campCost_30 : decode cX12_campCost 30 = .ok (.iload_n 2, 1) := by decide +kernel
theorem dX12_campCost_31 : decode cX12_campCost 31 = .ok (.aload_n 0, 1) := by decide +kernel
theorem dX12_campCost_32 : decode cX12_campCost 32 = .ok (.iload_n 3, 1) := by decide +kernel
theorem dX12_campCost_33 : decode cX12_campCost 33 = .ok (.iload 4, 2) := by decide +kernel
theorem dX12_campCost_35 : decode cX12_campCost 35 = .ok (.invokevirtual 264, 3) := by decide +kernel
theorem dX12_campCost_38 : decode cX12_campCost 38 = .ok (.iload_n 1, 1) := by decide +kernel
theorem dX12_campCost_39 : decode cX12_campCost 39 = .ok (.i2l, 1) := by decide +kernel
theorem dX12_campCost_40 : decode cX12_campCost 40 = .ok (.iload_n 3, 1) := by decide +kernel
theorem dX12_campCost_41 : decode cX12_campCost 41 = .ok (.invokestatic 233, 3) := by decide +kernel
theorem dX12_campCost_44 : decode cX12_campCost 44 = .ok (.iload_n 1, 1) := by decide +kernel
theorem dX12_campCost_45 : decode cX12_campCost 45 = .ok (.i2l, 1) := by decide +kernel
theorem dX12_campCost_46 : decode cX12_campCost 46 = .ok (.iload 4, 2) := by decide +kernel
theorem dX12_campCost_48 : decode cX12_campCost 48 = .ok (.invokestatic 233, 3) := by decide +kernel
theorem dX12_campCost_51 : decode cX12_campCost 51 = .ok (.if_icmp .ne 7, 3) := by decide +kernel
theorem dX12_campCost_54 : decode cX12_campCost 54 = .ok (.iconst 1, 1) := by decide +kernel
theorem dX12_campCost_55 : decode cX12_campCost 55 = .ok (.goto 4, 3) := by decide +kernel
theorem dX12_campCost_58 : decode cX12_campCost 58 = .ok (.iconst 0, 1) := by decide +kernel
theorem dX12_campCost_59 : decode cX12_campCost 59 = .ok (.if_icmp .ne 7, 3) := by decide +kernel
theorem dX12_campCost_62 : decode cX12_campCost 62 = .ok (.iconst 1, 1) := by decide +kernel
theorem dX12_campCost_63 : decode cX12_campCost 63 = .ok (.goto 4, 3) := by decide +kernel
theorem dX12_campCost_66 : decode cX12_campCost 66 = .ok (.iconst 0, 1) := by decide +kernel
theorem dX12_campCost_67 : decode cX12_campCost 67 = .ok (.iadd, 1) := by decide +kernel
theorem dX12_campCost_68 : decode cX12_campCost 68 = .ok (.istore_n 2, 1) := by decide +kernel
theorem dX12_campCost_69 : decode cX12_campCost 69 = .ok (.iinc 4 1, 3) := by decide +kernel
theorem dX12_campCost_72 : decode cX12_campCost 72 = .ok (.goto (-53), 3) := by decide +kernel
theorem dX12_campCost_75 : decode cX12_campCost 75 = .ok (.iinc 3 1, 3) := by decide +kernel
theorem dX12_campCost_78 : decode cX12_campCost 78 = .ok (.goto (-74), 3) := by decide +kernel
theorem dX12_campCost_81 : decode cX12_campCost 81 = .ok (.iload_n 2, 1) := by decide +kernel
theorem dX12_campCost_82 : decode cX12_campCost 82 = .ok (.ireturn, 1) := by decide +kernel
theorem dX12_camps_0 : decode cX12_camps 0 = .ok (.aload_n 0, 1) := by decide +kernel
theorem dX12_camps_1 : decode cX12_camps 1 = .ok (.iconst 0, 1) := by decide +kernel
theorem dX12_camps_2 : decode cX12_camps 2 = .ok (.putfield 1, 3) := by decide +kernel
theorem dX12_camps_5 : decode cX12_camps 5 = .ok (.iload_n 1, 1) := by decide +kernel
theorem dX12_camps_6 : decode cX12_camps 6 = .ok (.i2l, 1) := by decide +kernel
theorem dX12_camps_7 : decode cX12_camps 7 = .ok (.lconst 0, 1) := by decide +kernel
theorem dX12_camps_8 : decode cX12_camps 8 = .ok (.lconst 1, 1) := by decide +kernel
theorem dX12_camps_9 : decode cX12_camps 9 = .ok (.invokestatic 154, 3) := by decide +kernel
theorem dX12_camps_12 : decode cX12_camps 12 = .ok (.ifCond .ne 6, 3) := by decide +kernel
theorem dX12_camps_15 : decode cX12_camps 15 = .ok (.bipush (-2), 2) := by decide +kernel
theorem dX12_camps_17 : decode cX12_camps 17 = .ok (.ireturn, 1) := by decide +kernel
theorem dX12_camps_18 : decode cX12_camps 18 = .ok (.aload_n 0, 1) := by decide +kernel
theorem dX12_camps_19 : decode cX12_camps 19 = .ok (.getfield 13, 3) := by decide +kernel
theorem dX12_camps_22 : decode cX12_camps 22 = .ok (.iconst 3, 1) := by decide +kernel
theorem dX12_camps_23 : decode cX12_camps 23 = .ok (.iaload, 1) := by decide +kernel
theorem dX12_camps_24 : decode cX12_camps 24 = .ok (.ifCond .ne 5, 3) := by decide +kernel
theorem dX12_camps_27 : decode cX12_camps 27 = .ok (.iconst 0, 1) := by decide +kernel
theorem dX12_camps_28 : decode cX12_camps 28 = .ok (.ireturn, 1) := by decide +kernel
theorem dX12_camps_29 : decode cX12_camps 29 = .ok (.iconst 1, 1) := by decide +kernel
theorem dX12_camps_30 : decode cX12_camps 30 = .ok (.istore_n 2, 1) := by decide +kernel
theorem dX12_camps_31 : decode cX12_camps 31 = .ok (.iconst 3, 1) := by decide +kernel
theorem dX12_camps_32 : decode cX12_camps 32 = .ok (.istore_n 3, 1) := by decide +kernel
theorem dX12_camps_33 : decode cX12_camps 33 = .ok (.iload_n 3, 1) := by decide +kernel
theorem dX12_camps_34 : decode cX12_camps 34 = .ok (.aload_n 0, 1) := by decide +kernel
theorem dX12_camps_35 : decode cX12_camps 35 = .ok (.invokevirtual 424, 3) := by decide +kernel
theorem dX12_camps_38 : decode cX12_camps 38 = .ok (.if_icmp .gt 24, 3) := by decide +kernel
theorem dX12_camps_41 : decode cX12_camps 41 = .ok (.aload_n 0, 1) := by decide +kernel
theorem dX12_camps_42 : decode cX12_camps 42 = .ok (.iload_n 3, 1) := by decide +kernel
theorem dX12_camps_43 : decode cX12_camps 43 = .ok (.invokevirtual 442, 3) := by decide +kernel
theorem dX12_camps_46 : decode cX12_camps 46 = .ok (.aload_n 0, 1) := by decide +kernel
theorem dX12_camps_47 : decode cX12_camps 47 = .ok (.iload_n 2, 1) := by decide +kernel
theorem dX12_camps_48 : decode cX12_camps 48 = .ok (.invokevirtual 442, 3) := by decide +kernel
theorem dX12_camps_51 : decode cX12_camps 51 = .ok (.if_icmp .ge 5, 3) := by decide +kernel
theorem dX12_camps_54 : decode cX12_camps 54 = .ok (.iload_n 3, 1) := by decide +kernel
theorem dX12_camps_55 : decode cX12_camps 55 = .ok (.istore_n 2, 1) := by decide +kernel
theorem dX12_camps_56 : decode cX12_camps 56 = .ok (.iinc 3 2, 3) := by decide +kernel
theorem dX12_camps_59 : decode cX12_camps 59 = .ok (.goto (-26), 3) := by decide +kernel
theorem dX12_camps_62 : decode cX12_camps 62 = .ok (.iload_n 1, 1) := by decide +kernel
theorem dX12_camps_63 : decode cX12_camps 63 = .ok (.ifCond .ne 11, 3) := by decide +kernel
theorem dX12_camps_66 : decode cX12_camps 66 = .ok (.aload_n 0, 1) := by decide +kernel
theorem dX12_camps_67 : decode cX12_camps 67 = .ok (.iload_n 2, 1) := by decide +kernel
theorem dX12_camps_68 : decode cX12_camps 68 = .ok (.invokevirtual 442, 3) := by decide +kernel
theorem dX12_camps_71 : decode cX12_camps 71 = .ok (.goto 4, 3) := by decide +kernel
theorem dX12_camps_74 : decode cX12_camps 74 = .ok (.iload_n 2, 1) := by decide +kernel
theorem dX12_camps_75 : decode cX12_camps 75 = .ok (.ireturn, 1) := by decide +kernel
theorem dX12_peace_0 : decode cX12_peace 0 = .ok (.aload_n 0, 1) := by decide +kernel
theorem dX12_peace_1 : decode cX12_peace 1 = .ok (.iconst 0, 1) := by decide +kernel
theorem dX12_peace_2 : decode cX12_peace 2 = .ok (.putfield 1, 3) := by decide +kernel
theorem dX12_peace_5 : decode cX12_peace 5 = .ok (.aload_n 0, 1) := by decide +kernel
theorem dX12_peace_6 : decode cX12_peace 6 = .ok (.invokevirtual 424, 3) := by decide +kernel
theorem dX12_peace_9 : decode cX12_peace 9 = .ok (.istore_n 1, 1) := by decide +kernel
theorem dX12_peace_10 : decode cX12_peace 10 = .ok (.iconst 0, 1) := by decide +kernel
theorem dX12_peace_11 : decode cX12_peace 11 = .ok (.istore_n 2, 1) := by decide +kernel
theorem dX12_peace_12 : decode cX12_peace 12 = .ok (.iload_n 1, 1) := by decide +kernel
theorem dX12_peace_13 : decode cX12_peace 13 = .ok (.ifCond .eq 44, 3) := by decide +kernel
theorem dX12_peace_16 : decode cX12_peace 16 = .ok (.iconst 1, 1) := by decide +kernel
theorem dX12_peace_17 : decode cX12_peace 17 = .ok (.iload_n 1, 1) := by decide +kernel
theorem dX12_peace_18 : decode cX12_peace 18 = .ok (.invokestatic 413, 3) := by decide +kernel
theorem dX12_peace_21 : decode cX12_peace 21 = .ok (.ishl, 1) := by decide +kernel
theorem dX12_peace_22 : decode cX12_peace 22 = .ok (.istore_n 3, 1) := by decide +kernel
theorem dX12_peace_23 : decode cX12_peace 23 = .ok (.iconst 0, 1) := by decide +kernel
theorem dX12_peace_24 : decode cX12_peace 24 = .ok (.istore 4, 2) := by decide +kernel
theorem dX12_peace_26 : decode cX12_peace 26 = .ok (.iload 4, 2) := by decide +kernel
theorem dX12_peace_28 : decode cX12_peace 28 = .ok (.bipush 8, 2) := by decide +kernel
theorem dX12_peace_30 : decode cX12_peace 30 = .ok (.if_icmp .ge 15, 3) := by decide +kernel
theorem dX12_peace_33 : decode cX12_peace 33 = .ok (.aload_n 0, 1) := by decide +kernel
theorem dX12_peace_34 : decode cX12_peace 34 = .ok (.iload_n 3, 1) := by decide +kernel
theorem dX12_peace_35 : decode cX12_peace 35 = .ok (.invokevirtual 439, 3) := by decide +kernel
theorem dX12_peace_38 : decode cX12_peace 38 = .ok (.istore_n 3, 1) := by decide +kernel
theorem dX12_peace_39 : decode cX12_peace 39 = .ok (.iinc 4 1, 3) := by decide +kernel
theorem dX12_peace_42 : decode cX12_peace 42 = .ok (.goto (-16), 3) := by decide +kernel
theorem dX12_peace_45 : decode cX12_peace 45 = .ok (.iload_n 1, 1) := by decide +kernel
theorem dX12_peace_46 : decode cX12_peace 46 = .ok (.iload_n 3, 1) := by decide +kernel
theorem dX12_peace_47 : decode cX12_peace 47 = .ok (.iconst (-1), 1) := by decide +kernel
theorem dX12_peace_48 : decode cX12_peace 48 = .ok (.ixor, 1) := by decide +kernel
theorem dX12_peace_49 : decode cX12_peace 49 = .ok (.iand, 1) := by decide +kernel
theorem dX12_peace_50 : decode cX12_peace 50 = .ok (.istore_n 1, 1) := by decide +kernel
theorem dX12_peace_51 : decode cX12_peace 51 = .ok (.iinc 2 1, 3) := by decide +kernel
theorem dX12_peace_54 : decode cX12_peace 54 = .ok (.goto (-42), 3) := by decide +kernel
theorem dX12_peace_57 : decode cX12_peace 57 = .ok (.iload_n 2, 1) := by decide +kernel
theorem dX12_peace_58 : decode cX12_peace 58 = .ok (.ifCond .ne 7, 3) := by decide +kernel
theorem dX12_peace_61 : decode cX12_peace 61 = .ok (.iconst 0, 1) := by decide +kernel
theorem dX12_peace_62 : decode cX12_peace 62 = .ok (.goto 6, 3) := by decide +kernel
theorem dX12_peace_65 : decode cX12_peace 65 = .ok (.iload_n 2, 1) := by decide +kernel
theorem dX12_peace_66 : decode cX12_peace 66 = .ok (.iconst 1, 1) := by decide +kernel
theorem dX12_peace_67 : decode cX12_peace 67 = .ok (.isub, 1) := by decide +kernel
theorem dX12_peace_68 : decode cX12_peace 68 = .ok (.ireturn, 1) := by decide +kernel
theorem dX12_noTold_0 : decode cX12_noTold 0 = .ok (.aload_n 0, 1) := by decide +kernel
theorem dX12_noTold_1 : decode cX12_noTold 1 = .ok (.iload_n 1, 1) := by decide +kernel
theorem dX12_noTold_2 : decode cX12_noTold 2 = .ok (.invokevirtual 356, 3) := by decide +kernel
theorem dX12_noTold_5 : decode cX12_noTold 5 = .ok (.istore 4, 2) := by decide +kernel
theorem dX12_noTold_7 : decode cX12_noTold 7 = .ok (.iload 4, 2) := by decide +kernel
theorem dX12_noTold_9 : decode cX12_noTold 9 = .ok (.ifCond .eq 6, 3) := by decide +kernel
theorem dX12_noTold_12 : decode cX12_noTold 12 = .ok (.iload 4, 2) := by decide +kernel
theorem dX12_noTold_14 : decode cX12_noTold 14 = .ok (.ireturn, 1) := by decide +kernel
theorem dX12_noTold_15 : decode cX12_noTold 15 = .ok (.aload_n 0, 1) := by decide +kernel
theorem dX12_noTold_16 : decode cX12_noTold 16 = .ok (.getfield 82, 3) := by decide +kernel
theorem dX12_noTold_19 : decode cX12_noTold 19 = .ok (.iload_n 1, 1) := by decide +kernel
theorem dX12_noTold_20 : decode cX12_noTold 20 = .ok (.iaload, 1) := by decide +kernel
theorem dX12_noTold_21 : decode cX12_noTold 21 = .ok (.i2l, 1) := by decide +kernel
theorem dX12_noTold_22 : decode cX12_noTold 22 = .ok (.lconst 1, 1) := by decide +kernel
theorem dX12_noTold_23 : decode cX12_noTold 23 = .ok (.ldc2_w 404, 3) := by decide +kernel
theorem dX12_noTold_26 : decode cX12_noTold 26 = .ok (.invokestatic 154, 3) := by decide +kernel
theorem dX12_noTold_29 : decode cX12_noTold 29 = .ok (.ifCond .ne 6, 3) := by decide +kernel
theorem dX12_noTold_32 : decode cX12_noTold 32 = .ok (.bipush (-4), 2) := by decide +kernel
theorem dX12_noTold_34 : decode cX12_noTold 34 = .ok (.ireturn, 1) := by decide +kernel
theorem dX12_noTold_35 : decode cX12_noTold 35 = .ok (.iconst 0, 1) := by decide +kernel
theorem dX12_noTold_36 : decode cX12_noTold 36 = .ok (.istore 5, 2) := by decide +kernel
theorem dX12_noTold_38 : decode cX12_noTold 38 = .ok (.iload 5, 2) := by decide +kernel
theorem dX12_noTold_40 : decode cX12_noTold 40 = .ok (.aload_n 0, 1) := by decide +kernel
theorem dX12_noTold_41 : decode cX12_noTold 41 = .ok (.getfield 82, 3) := by decide +kernel
theorem dX12_noTold_44 : decode cX12_noTold 44 = .ok (.iload_n 1, 1) := by decide +kernel
theorem dX12_noTold_45 : decode cX12_noTold 45 = .ok (.iaload, 1) := by decide +kernel
theorem dX12_noTold_46 : decode cX12_noTold 46 = .ok (.if_icmp .ge 34, 3) := by decide +kernel
theorem dX12_noTold_49 : decode cX12_noTold 49 = .ok (.aload_n 0, 1) := by decide +kernel
theorem dX12_noTold_50 : decode cX12_noTold 50 = .ok (.getfield 85, 3) := by decide +kernel
theorem dX12_noTold_53 : decode cX12_noTold 53 = .ok (.bipush 40, 2) := by decide +kernel
theorem dX12_noTold_55 : decode cX12_noTold 55 = .ok (.iload_n 1, 1) := by decide +kernel
theorem dX12_noTold_56 : decode cX12_noTold 56 = .ok (.imul, 1) := by decide +kernel
theorem dX12_noTold_57 : decode cX12_noTold 57 = .ok (.iload 5, 2) := by decide +kernel
theorem dX12_noTold_59 : decode cX12_noTold 59 = .ok (.iadd, 1) := by decide +kernel
theorem dX12_noTold_60 : decode cX12_noTold 60 = .ok (.laload, 1) := by decide +kernel
theorem dX12_noTold_61 : decode cX12_noTold 61 = .ok (.iload_n 2, 1) := by decide +kernel
theorem dX12_noTold_62 : decode cX12_noTold 62 = .ok (.i2l, 1) := by decide +kernel
theorem dX12_noTold_63 : decode cX12_noTold 63 = .ok (.iload_n 3, 1) := by decide +kernel
theorem dX12_noTold_64 : decode cX12_noTold 64 = .ok (.i2l, 1) := by decide +kernel
theorem dX12_noTold_65 : decode cX12_noTold 65 = .ok (.invokestatic 154, 3) := by decide +kernel
theorem dX12_noTold_68 : decode cX12_noTold 68 = .ok (.ifCond .ne 6, 3) := by decide +kernel
theorem dX12_noTold_71 : decode cX12_noTold 71 = .ok (.bipush (-3), 2) := by decide +kernel
theorem dX12_noTold_73 : decode cX12_noTold 73 = .ok (.ireturn, 1) := by decide +kernel
theorem dX12_noTold_74 : decode cX12_noTold 74 = .ok (.iinc 5 1, 3) := by decide +kernel
theorem dX12_noTold_77 : decode cX12_noTold 77 = .ok (.goto (-39), 3) := by decide +kernel
theorem dX12_noTold_80 : decode cX12_noTold 80 = .ok (.iconst 0, 1) := by decide +kernel
theorem dX12_noTold_81 : decode cX12_noTold 81 = .ok (.ireturn, 1) := by decide +kernel
theorem dX12_noWorn_0 : decode cX12_noWorn 0 = .ok (.iload_n 1, 1) := by decide +kernel
theorem dX12_noWorn_1 : decode cX12_noWorn 1 = .ok (.i2l, 1) := by decide +kernel
theorem dX12_noWorn_2 : decode cX12_noWorn 2 = .ok (.lconst 0, 1) := by decide +kernel
theorem dX12_noWorn_3 : decode cX12_noWorn 3 = .ok (.ldc2_w 354, 3) := by decide +kernel
theorem dX12_noWorn_6 : decode cX12_noWorn 6 = .ok (.invokestatic 154, 3) := by decide +kernel
theorem dX12_noWorn_9 : decode cX12_noWorn 9 = .ok (.ifCond .eq 12, 3) := by decide +kernel
theorem dX12_noWorn_12 : decode cX12_noWorn 12 = .ok (.aload_n 0, 1) := by decide +kernel
theorem dX12_noWorn_13 : decode cX12_noWorn 13 = .ok (.iload_n 2, 1) := by decide +kernel
theorem dX12_noWorn_14 : decode cX12_noWorn 14 = .ok (.i2l, 1) := by decide +kernel
theorem dX12_noWorn_15 : decode cX12_noWorn 15 = .ok (.invokevirtual 276, 3) := by decide +kernel
theorem dX12_noWorn_18 : decode cX12_noWorn 18 = .ok (.ifCond .ne 8, 3) := by decide +kernel
theorem dX12_noWorn_21 : decode cX12_noWorn 21 = .ok (.bipush (-2), 2) := by decide +kernel
theorem dX12_noWorn_23 : decode cX12_noWorn 23 = .ok (.goto 11, 3) := by decide +kernel
theorem dX12_noWorn_26 : decode cX12_noWorn 26 = .ok (.aload_n 0, 1) := by decide +kernel
theorem dX12_noWorn_27 : decode cX12_noWorn 27 = .ok (.iload_n 1, 1) := by decide +kernel
theorem dX12_noWorn_28 : decode cX12_noWorn 28 = .ok (.iconst (-1), 1) := by decide +kernel
theorem dX12_noWorn_29 : decode cX12_noWorn 29 = .ok (.bipush 9, 2) := by decide +kernel
theorem dX12_noWorn_31 : decode cX12_noWorn 31 = .ok (.invokevirtual 445, 3) := by decide +kernel
theorem dX12_noWorn_34 : decode cX12_noWorn 34 = .ok (.ireturn, 1) := by decide +kernel
theorem dX12_isWorn_0 : decode cX12_isWorn 0 = .ok (.iload_n 3, 1) := by decide +kernel
theorem dX12_isWorn_1 : decode cX12_isWorn 1 = .ok (.sipush 1000, 3) := by decide +kernel
theorem dX12_isWorn_4 : decode cX12_isWorn 4 = .ok (.idiv, 1) := by decide +kernel
theorem dX12_isWorn_5 : decode cX12_isWorn 5 = .ok (.bipush 10, 2) := by decide +kernel
theorem dX12_isWorn_7 : decode cX12_isWorn 7 = .ok (.irem, 1) := by decide +kernel
theorem dX12_isWorn_8 : decode cX12_isWorn 8 = .ok (.istore 5, 2) := by decide +kernel
theorem dX12_isWorn_10 : decode cX12_isWorn 10 = .ok (.iload_n 3, 1) := by decide +kernel
theorem dX12_isWorn_11 : decode cX12_isWorn 11 = .ok (.bipush 100, 2) := by decide +kernel
theorem dX12_isWorn_13 : decode cX12_isWorn 13 = .ok (.idiv, 1) := by decide +kernel
theorem dX12_isWorn_14 : decode cX12_isWorn 14 = .ok (.bipush 10, 2) := by decide +kernel
theorem dX12_isWorn_16 : decode cX12_isWorn 16 = .ok (.irem, 1) := by decide +kernel
theorem dX12_isWorn_17 : decode cX12_isWorn 17 = .ok (.istore 6, 2) := by decide +kernel
theorem dX12_isWorn_19 : decode cX12_isWorn 19 = .ok (.iload_n 3, 1) := by decide +kernel
theorem dX12_isWorn_20 : decode cX12_isWorn 20 = .ok (.bipush 10, 2) := by decide +kernel
theorem dX12_isWorn_22 : decode cX12_isWorn 22 = .ok (.idiv, 1) := by decide +kernel
theorem dX12_isWorn_23 : decode cX12_isWorn 23 = .ok (.bipush 10, 2) := by decide +kernel
theorem dX12_isWorn_25 : decode cX12_isWorn 25 = .ok (.irem, 1) := by decide +kernel
theorem dX12_isWorn_26 : decode cX12_isWorn 26 = .ok (.istore 7, 2) := by decide +kernel
theorem dX12_isWorn_28 : decode cX12_isWorn 28 = .ok (.aload_n 0, 1) := by decide +kernel
theorem dX12_isWorn_29 : decode cX12_isWorn 29 = .ok (.iload 5, 2) := by decide +kernel
theorem dX12_isWorn_31 : decode cX12_isWorn 31 = .ok (.iload 6, 2) := by decide +kernel
theorem dX12_isWorn_33 : decode cX12_isWorn 33 = .ok (.iload 7, 2) := by decide +kernel
theorem dX12_isWorn_35 : decode cX12_isWorn 35 = .ok (.iload 4, 2) := by decide +kernel
theorem dX12_isWorn_37 : decode cX12_isWorn 37 = .ok (.iload_n 3, 1) := by decide +kernel
theorem dX12_isWorn_38 : decode cX12_isWorn 38 = .ok (.bipush 10, 2) := by decide +kernel
theorem dX12_isWorn_40 : decode cX12_isWorn 40 = .ok (.irem, 1) := by decide +kernel
theorem dX12_isWorn_41 : decode cX12_isWorn 41 = .ok (.invokevirtual 288, 3) := by decide +kernel
theorem dX12_isWorn_44 : decode cX12_isWorn 44 = .ok (.istore 8, 2) := by decide +kernel
theorem dX12_isWorn_46 : decode cX12_isWorn 46 = .ok (.iload 8, 2) := by decide +kernel
theorem dX12_isWorn_48 : decode cX12_isWorn 48 = .ok (.iconst (-1), 1) := by decide +kernel
theorem dX12_isWorn_49 : decode cX12_isWorn 49 = .ok (.if_icmp .ne 5, 3) := by decide +kernel
theorem dX12_isWorn_52 : decode cX12_isWorn 52 = .ok (.iconst 0, 1) := by decide +kernel
theorem dX12_isWorn_53 : decode cX12_isWorn 53 = .ok (.ireturn, 1) := by decide +kernel
theorem dX12_isWorn_54 : decode cX12_isWorn 54 = .ok (.aload_n 0, 1) := by decide +kernel
theorem dX12_isWorn_55 : decode cX12_isWorn 55 = .ok (.getfield 85, 3) := by decide +kernel
theorem dX12_isWorn_58 : decode cX12_isWorn 58 = .ok (.bipush 40, 2) := by decide +kernel
theorem dX12_isWorn_60 : decode cX12_isWorn 60 = .ok (.iload_n 1, 1) := by decide +kernel
theorem dX12_isWorn_61 : decode cX12_isWorn 61 = .ok (.imul, 1) := by decide +kernel
theorem dX12_isWorn_62 : decode cX12_isWorn 62 = .ok (.iload_n 2, 1) := by decide +kernel
theorem dX12_isWorn_63 : decode cX12_isWorn 63 = .ok (.iadd, 1) := by decide +kernel
theorem dX12_isWorn_64 : decode cX12_isWorn 64 = .ok (.laload, 1) := by decide +kernel
theorem dX12_isWorn_65 : decode cX12_isWorn 65 = .ok (.lstore 9, 2) := by decide +kernel
theorem dX12_isWorn_67 : decode cX12_isWorn 67 = .ok (.lload 9, 2) := by decide +kernel
theorem dX12_isWorn_69 : decode cX12_isWorn 69 = .ok (.ldc2_w 448, 3) := by decide +kernel
theorem dX12_isWorn_72 : decode cX12_isWorn 72 = .ok (.lcmp, 1) := by decide +kernel
theorem dX12_isWorn_73 : decode cX12_isWorn 73 = .ok (.ifCond .eq 24, 3) := by decide +kernel
theorem dX12_isWorn_76 : decode cX12_isWorn 76 = .ok (.lload 9, 2) := by decide +kernel
theorem dX12_isWorn_78 : decode cX12_isWorn 78 = .ok (.aload_n 0, 1) := by decide +kernel
theorem dX12_isWorn_79 : decode cX12_isWorn 79 = .ok (.iload 5, 2) := by decide +kernel
theorem dX12_isWorn_81 : decode cX12_isWorn 81 = .ok (.iload 6, 2) := by decide +kernel
theorem dX12_isWorn_83 : decode cX12_isWorn 83 = .ok (.iload 7, 2) := by decide +kernel
theorem dX12_isWorn_85 : decode cX12_isWorn 85 = .ok (.iload 4, 2) := by decide +kernel
theorem dX12_isWorn_87 : decode cX12_isWorn 87 = .ok (.iload 8, 2) := by decide +kernel
theorem dX12_isWorn_89 : decode cX12_isWorn 89 = .ok (.invokevirtual 292, 3) := by decide +kernel
theorem dX12_isWorn_92 : decode cX12_isWorn 92 = .ok (.i2l, 1) := by decide +kernel
theorem dX12_isWorn_93 : decode cX12_isWorn 93 = .ok (.lcmp, 1) := by decide +kernel
theorem dX12_isWorn_94 : decode cX12_isWorn 94 = .ok (.ifCond .ne 7, 3) := by decide +kernel
theorem dX12_isWorn_97 : decode cX12_isWorn 97 = .ok (.iconst 1, 1) := by decide +kernel
theorem dX12_isWorn_98 : decode cX12_isWorn 98 = .ok (.goto 4, 3) := by decide +kernel
theorem dX12_isWorn_101 : decode cX12_isWorn 101 = .ok (.iconst 0, 1) := by decide +kernel
theorem dX12_isWorn_102 : decode cX12_isWorn 102 = .ok (.ireturn, 1) := by decide +kernel
theorem dX12_laysDeeds_0 : decode cX12_laysDeeds 0 = .ok (.aload_n 0, 1) := by decide +kernel
theorem dX12_laysDeeds_1 : decode cX12_laysDeeds 1 = .ok (.iconst 0, 1) := by decide +kernel
theorem dX12_laysDeeds_2 : decode cX12_laysDeeds 2 = .ok (.putfield 450, 3) := by decide +kernel
theorem dX12_laysDeeds_5 : decode cX12_laysDeeds 5 = .ok (.iconst 0, 1) := by decide +kernel
theorem dX12_laysDeeds_6 : decode cX12_laysDeeds 6 = .ok (.istore_n 2, 1) := by decide +kernel
theorem dX12_laysDeeds_7 : decode cX12_laysDeeds 7 = .ok (.iload_n 2, 1) := by decide +kernel
theorem dX12_laysDeeds_8 : decode cX12_laysDeeds 8 = .ok (.aload_n 0, 1) := by decide +kernel
theorem dX12_laysDeeds_9 : decode cX12_laysDeeds 9 = .ok (.getfield 13, 3) := by decide +kernel
theorem dX12_laysDeeds_12 : decode cX12_laysDeeds 12 = .ok (.iconst 3, 1) := by decide +kernel
theorem dX12_laysDeeds_13 : decode cX12_laysDeeds 13 = .ok (.iaload, 1) := by decide +kernel
theorem dX12_laysDeeds_14 : decode cX12_laysDeeds 14 = .ok (.if_icmp .ge 76, 3) := by decide +kernel
theorem dX12_laysDeeds_17 : decode cX12_laysDeeds 17 = .ok (.iload_n 2, 1) := by decide +kernel
theorem dX12_laysDeeds_18 : decode cX12_laysDeeds 18 = .ok (.iconst 1, 1) := by decide +kernel
theorem dX12_laysDeeds_19 : decode cX12_laysDeeds 19 = .ok (.iadd, 1) := by decide +kernel
theorem dX12_laysDeeds_20 : decode cX12_laysDeeds 20 = .ok (.istore_n 3, 1) := by decide +kernel
theorem dX12_laysDeeds_21 : decode cX12_laysDeeds 21 = .ok (.iload_n 3, 1) := by decide +kernel
theorem dX12_laysDeeds_22 : decode cX12_laysDeeds 22 = .ok (.aload_n 0, 1) := by decide +kernel
theorem dX12_laysDeeds_23 : decode cX12_laysDeeds 23 = .ok (.getfield 13, 3) := by decide +kernel
theorem dX12_laysDeeds_26 : decode cX12_laysDeeds 26 = .ok (.iconst 3, 1) := by decide +kernel
theorem dX12_laysDeeds_27 : decode cX12_laysDeeds 27 = .ok (.iaload, 1) := by decide +kernel
theorem dX12_laysDeeds_28 : decode cX12_laysDeeds 28 = .ok (.if_icmp .ge 56, 3) := by decide +kernel
theorem dX12_laysDeeds_31 : decode cX12_laysDeeds 31 = .ok (.iconst 0, 1) := by decide +kernel
theorem dX12_laysDeeds_32 : decode cX12_laysDeeds 32 = .ok (.istore 4, 2) := by decide +kernel
theorem dX12_laysDeeds_34 : decode cX12_laysDeeds 34 = .ok (.iload 4, 2) := by decide +kernel
theorem dX12_laysDeeds_36 : decode cX12_laysDeeds 36 = .ok (.aload_n 0, 1) := by decide +kernel
theorem dX12_laysDeeds_37 : decode cX12_laysDeeds 37 = .ok (.getfield 13, 3) := by decide +kernel
theorem dX12_laysDeeds_40 : decode cX12_laysDeeds 40 = .ok (.iconst 1, 1) := by decide +kernel
theorem dX12_laysDeeds_41 : decode cX12_laysDeeds 41 = .ok (.iaload, 1) := by decide +kernel
theorem dX12_laysDeeds_42 : decode cX12_laysDeeds 42 = .ok (.if_icmp .ge 36, 3) := by decide +kernel
theorem dX12_laysDeeds_45 : decode cX12_laysDeeds 45 = .ok (.aload_n 0, 1) := by decide +kernel
theorem dX12_laysDeeds_46 : decode cX12_laysDeeds 46 = .ok (.getfield 70, 3) := by decide +kernel
theorem dX12_laysDeeds_49 : decode cX12_laysDeeds 49 = .ok (.aload_n 0, 1) := by decide +kernel
theorem dX12_laysDeeds_50 : decode cX12_laysDeeds 50 = .ok (.getfield 450, 3) := by decide +kernel
theorem dX12_laysDeeds_53 : decode cX12_laysDeeds 53 = .ok (.iload_n 2, 1) := by decide +kernel
theorem dX12_laysDeeds_54 : decode cX12_laysDeeds 54 = .ok (.iload_n 3, 1) := by decide +kernel
theorem dX12_laysDeeds_55 : decode cX12_laysDeeds 55 = .ok (.iload_n 1, 1) := by decide +kernel
theorem dX12_laysDeeds_56 : decode cX12_laysDeeds 56 = .ok (.iload 4, 2) := by decide +kernel
theorem dX12_laysDeeds_58 : decode cX12_laysDeeds 58 = .ok (.invokestatic 393, 3) := by decide +kernel
theorem dX12_laysDeeds_61 : decode cX12_laysDeeds 61 = .ok (.iastore, 1) := by decide +kernel
theorem dX12_laysDeeds_62 : decode cX12_laysDeeds 62 = .ok (.aload_n 0, 1) := by decide +kernel
theorem dX12_laysDeeds_63 : decode cX12_laysDeeds 63 = .ok (.dup, 1) := by decide +kernel
theorem dX12_laysDeeds_64 : decode cX12_laysDeeds 64 = .ok (.getfield 450, 3) := by decide +kernel
theorem dX12_laysDeeds_67 : decode cX12_laysDeeds 67 = .ok (.iconst 1, 1) := by decide +kernel
theorem dX12_laysDeeds_68 : decode cX12_laysDeeds 68 = .ok (.iadd, 1) := by decide +kernel
theorem dX12_laysDeeds_69 : decode cX12_laysDeeds 69 = .ok (.putfield 450, 3) := by decide +kernel
theorem dX12_laysDeeds_72 : decode cX12_laysDeeds 72 = .ok (.iinc 4 1, 3) := by decide +kernel
theorem dX12_laysDeeds_75 : decode cX12_laysDeeds 75 = .ok (.goto (-41), 3) := by decide +kernel
theorem dX12_laysDeeds_78 : decode cX12_laysDeeds 78 = .ok (.iinc 3 1, 3) := by decide +kernel
theorem dX12_laysDeeds_81 : decode cX12_laysDeeds 81 = .ok (.goto (-60), 3) := by decide +kernel
theorem dX12_laysDeeds_84 : decode cX12_laysDeeds 84 = .ok (.iinc 2 1, 3) := by decide +kernel
theorem dX12_laysDeeds_87 : decode cX12_laysDeeds 87 = .ok (.goto (-80), 3) := by decide +kernel
theorem dX12_laysDeeds_90 : decode cX12_laysDeeds 90 = .ok (.return_, 1) := by decide +kernel
theorem dX12_laysWorn_0 : decode cX12_laysWorn 0 = .ok (.aload_n 0, 1) := by decide +kernel
theorem dX12_laysWorn_1 : decode cX12_laysWorn 1 = .ok (.aload_n 0, 1) := by decide +kernel
theorem dX12_laysWorn_2 : decode cX12_laysWorn 2 = .ok (.getfield 13, 3) := by decide +kernel
theorem dX12_laysWorn_5 : decode cX12_laysWorn 5 = .ok (.bipush 78, 2) := by decide +kernel
theorem dX12_laysWorn_7 : decode cX12_laysWorn 7 = .ok (.iaload, 1) := by decide +kernel
theorem dX12_laysWorn_8 : decode cX12_laysWorn 8 = .ok (.invokevirtual 285, 3) := by decide +kernel
theorem dX12_laysWorn_11 : decode cX12_laysWorn 11 = .ok (.aload_n 0, 1) := by decide +kernel
theorem dX12_laysWorn_12 : decode cX12_laysWorn 12 = .ok (.iload_n 2, 1) := by decide +kernel
theorem dX12_laysWorn_13 : decode cX12_laysWorn 13 = .ok (.invokevirtual 453, 3) := by decide +kernel
theorem dX12_laysWorn_16 : decode cX12_laysWorn 16 = .ok (.aload_n 0, 1) := by decide +kernel
theorem dX12_laysWorn_17 : decode cX12_laysWorn 17 = .ok (.getfield 82, 3) := by decide +kernel
theorem dX12_laysWorn_20 : decode cX12_laysWorn 20 = .ok (.iload_n 1, 1) := by decide +kernel
theorem dX12_laysWorn_21 : decode cX12_laysWorn 21 = .ok (.iaload, 1) := by decide +kernel
theorem dX12_laysWorn_22 : decode cX12_laysWorn 22 = .ok (.istore_n 3, 1) := by decide +kernel
theorem dX12_laysWorn_23 : decode cX12_laysWorn 23 = .ok (.iconst 0, 1) := by decide +kernel
theorem dX12_laysWorn_24 : decode cX12_laysWorn 24 = .ok (.istore 4, 2) := by decide +kernel
theorem dX12_laysWorn_26 : decode cX12_laysWorn 26 = .ok (.iload 4, 2) := by decide +kernel
theorem dX12_laysWorn_28 : decode cX12_laysWorn 28 = .ok (.bipush 6, 2) := by decide +kernel
theorem dX12_laysWorn_30 : decode cX12_laysWorn 30 = .ok (.if_icmp .ge 22, 3) := by decide +kernel
theorem dX12_laysWorn_33 : decode cX12_laysWorn 33 = .ok (.aload_n 0, 1) := by decide +kernel
theorem dX12_laysWorn_34 : decode cX12_laysWorn 34 = .ok (.getfield 67, 3) := by decide +kernel
theorem dX12_laysWorn_37 : decode cX12_laysWorn 37 = .ok (.bipush 6, 2) := by decide +kernel
theorem dX12_laysWorn_39 : decode cX12_laysWorn 39 = .ok (.iload_n 3, 1) := by decide +kernel
theorem dX12_laysWorn_40 : decode cX12_laysWorn 40 = .ok (.imul, 1) := by decide +kernel
theorem dX12_laysWorn_41 : decode cX12_laysWorn 41 = .ok (.iload 4, 2) := by decide +kernel
theorem dX12_laysWorn_43 : decode cX12_laysWorn 43 = .ok (.iadd, 1) := by decide +kernel
theorem dX12_laysWorn_44 : decode cX12_laysWorn 44 = .ok (.lconst 1, 1) := by decide +kernel
theorem dX12_laysWorn_45 : decode cX12_laysWorn 45 = .ok (.lastore, 1) := by decide +kernel
theorem dX12_laysWorn_46 : decode cX12_laysWorn 46 = .ok (.iinc 4 1, 3) := by decide +kernel
theorem dX12_laysWorn_49 : decode cX12_laysWorn 49 = .ok (.goto (-23), 3) := by decide +kernel
theorem dX12_laysWorn_52 : decode cX12_laysWorn 52 = .ok (.iload_n 3, 1) := by decide +kernel
theorem dX12_laysWorn_53 : decode cX12_laysWorn 53 = .ok (.iconst 1, 1) := by decide +kernel
theorem dX12_laysWorn_54 : decode cX12_laysWorn 54 = .ok (.isub, 1) := by decide +kernel
theorem dX12_laysWorn_55 : decode cX12_laysWorn 55 = .ok (.istore 4, 2) := by decide +kernel
theorem dX12_laysWorn_57 : decode cX12_laysWorn 57 = .ok (.iload 4, 2) := by decide +kernel
theorem dX12_laysWorn_59 : decode cX12_laysWorn 59 = .ok (.ifCond .lt 112, 3) := by decide +kernel
theorem dX12_laysWorn_62 : decode cX12_laysWorn 62 = .ok (.iconst 0, 1) := by decide +kernel
theorem dX12_laysWorn_63 : decode cX12_laysWorn 63 = .ok (.istore 5, 2) := by decide +kernel
theorem dX12_laysWorn_65 : decode cX12_laysWorn 65 = .ok (.iload 5, 2) := by decide +kernel
theorem dX12_laysWorn_67 : decode cX12_laysWorn 67 = .ok (.aload_n 0, 1) := by decide +kernel
theorem dX12_laysWorn_68 : decode cX12_laysWorn 68 = .ok (.getfield 13, 3) := by decide +kernel
theorem dX12_laysWorn_71 : decode cX12_laysWorn 71 = .ok (.iconst 1, 1) := by decide +kernel
theorem dX12_laysWorn_72 : decode cX12_laysWorn 72 = .ok (.iaload, 1) := by decide +kernel
theorem dX12_laysWorn_73 : decode cX12_laysWorn 73 = .ok (.if_icmp .ge 92, 3) := by decide +kernel
theorem dX12_laysWorn_76 : decode cX12_laysWorn 76 = .ok (.lconst 0, 1) := by decide +kernel
theorem dX12_laysWorn_77 : decode cX12_laysWorn 77 = .ok (.lstore 6, 2) := by decide +kernel
theorem dX12_laysWorn_79 : decode cX12_laysWorn 79 = .ok (.iconst 0, 1) := by decide +kernel
theorem dX12_laysWorn_80 : decode cX12_laysWorn 80 = .ok (.istore 8, 2) := by decide +kernel
theorem dX12_laysWorn_82 : decode cX12_laysWorn 82 = .ok (.iload 8, 2) := by decide +kernel
theorem dX12_laysWorn_84 : decode cX12_laysWorn 84 = .ok (.aload_n 0, 1) := by decide +kernel
theorem dX12_laysWorn_85 : decode cX12_laysWorn 85 = .ok (.getfield 450, 3) := by decide +kernel
theorem dX12_laysWorn_88 : decode cX12_laysWorn 88 = .ok (.if_icmp .ge 56, 3) := by decide +kernel
theorem dX12_laysWorn_91 : decode cX12_laysWorn 91 = .ok (.aload_n 0, 1) := by decide +kernel
theorem dX12_laysWorn_92 : decode cX12_laysWorn 92 = .ok (.iload_n 1, 1) := by decide +kernel
theorem dX12_laysWorn_93 : decode cX12_laysWorn 93 = .ok (.iload 4, 2) := by decide +kernel
theorem dX12_laysWorn_95 : decode cX12_laysWorn 95 = .ok (.aload_n 0, 1) := by decide +kernel
theorem dX12_laysWorn_96 : decode cX12_laysWorn 96 = .ok (.getfield 70, 3) := by decide +kernel
theorem dX12_laysWorn_99 : decode cX12_laysWorn 99 = .ok (.iload 8, 2) := by decide +kernel
theorem dX12_laysWorn_101 : decode cX12_laysWorn 101 = .ok (.iaload, 1) := by decide +kernel
theorem dX12_laysWorn_102 : decode cX12_laysWorn 102 = .ok (.iload 5, 2) := by decide +kernel
theorem dX12_laysWorn_104 : decode cX12_laysWorn 104 = .ok (.invokevirtual 456, 3) := by decide +kernel
theorem dX12_laysWorn_107 : decode cX12_laysWorn 107 = .ok (.ifCond .eq 31, 3) := by decide +kernel
theorem dX12_laysWorn_110 : decode cX12_laysWorn 110 = .ok (.lload 6, 2) := by decide +kernel
theorem dX12_laysWorn_112 : decode cX12_laysWorn 112 = .ok (.aload_n 0, 1) := by decide +kernel
theorem dX12_laysWorn_113 : decode cX12_laysWorn 113 = .ok (.getfield 67, 3) := by decide +kernel
theorem dX12_laysWorn_116 : decode cX12_laysWorn 116 = .ok (.bipush 6, 2) := by decide +kernel
theorem dX12_laysWorn_118 : decode cX12_laysWorn 118 = .ok (.iload 4, 2) := by decide +kernel
theorem dX12_laysWorn_120 : decode cX12_laysWorn 120 = .ok (.iconst 1, 1) := by decide +kernel
theorem dX12_laysWorn_121 : decode cX12_laysWorn 121 = .ok (.iadd, 1) := by decide +kernel
theorem dX12_laysWorn_122 : decode cX12_laysWorn 122 = .ok (.imul, 1) := by decide +kernel
theorem dX12_laysWorn_123 : decode cX12_laysWorn 123 = .ok (.aload_n 0, 1) := by decide +kernel
theorem dX12_laysWorn_124 : decode cX12_laysWorn 124 = .ok (.getfield 70, 3) := by decide +kernel
theorem dX12_laysWorn_127 : decode cX12_laysWorn 127 = .ok (.iload 8, 2) := by decide +kernel
theorem dX12_laysWorn_129 : decode cX12_laysWorn 129 = .ok (.iaload, 1) := by decide +kernel
theorem dX12_laysWorn_130 : decode cX12_laysWorn 130 = .ok (.bipush 10, 2) := by decide +kernel
theorem dX12_laysWorn_132 : decode cX12_laysWorn 132 = .ok (.irem, 1) := by decide +kernel
theorem dX12_laysWorn_133 : decode cX12_laysWorn 133 = .ok (.iadd, 1) := by decide +kernel
theorem dX12_laysWorn_134 : decode cX12_laysWorn 134 = .ok (.laload, 1) := by decide +kernel
theorem dX12_laysWorn_135 : decode cX12_laysWorn 135 = .ok (.ladd, 1) := by decide +kernel
theorem dX12_laysWorn_136 : decode cX12_laysWorn 136 = .ok (.lstore 6, 2) := by decide +kernel
theorem dX12_laysWorn_138 : decode cX12_laysWorn 138 = .ok (.iinc 8 1, 3) := by decide +kernel
theorem dX12_laysWorn_141 : decode cX12_laysWorn 141 = .ok (.goto (-59), 3) := by decide +kernel
theorem dX12_laysWorn_144 : decode cX12_laysWorn 144 = .ok (.aload_n 0, 1) := by decide +kernel
theorem dX12_laysWorn_145 : decode cX12_laysWorn 145 = .ok (.getfield 67, 3) := by decide +kernel
theorem dX12_laysWorn_148 : decode cX12_laysWorn 148 = .ok (.bipush 6, 2) := by decide +kernel
theorem dX12_laysWorn_150 : decode cX12_laysWorn 150 = .ok (.iload 4, 2) := by decide +kernel
theorem dX12_laysWorn_152 : decode cX12_laysWorn 152 = .ok (.imul, 1) := by decide +kernel
theorem dX12_laysWorn_153 : decode cX12_laysWorn 153 = .ok (.iload 5, 2) := by decide +kernel
theorem dX12_laysWorn_155 : decode cX12_laysWorn 155 = .ok (.iadd, 1) := by decide +kernel
theorem dX12_laysWorn_156 : decode cX12_laysWorn 156 = .ok (.lload 6, 2) := by decide +kernel
theorem dX12_laysWorn_158 : decode cX12_laysWorn 158 = .ok (.lastore, 1) := by decide +kernel
theorem dX12_laysWorn_159 : decode cX12_laysWorn 159 = .ok (.iinc 5 1, 3) := by decide +kernel
theorem dX12_laysWorn_162 : decode cX12_laysWorn 162 = .ok (.goto (-97), 3) := by decide +kernel
theorem dX12_laysWorn_165 : decode cX12_laysWorn 165 = .ok (.iinc 4 (-1), 3) := by decide +kernel
theorem dX12_laysWorn_168 : decode cX12_laysWorn 168 = .ok (.goto (-111), 3) := by decide +kernel
theorem dX12_laysWorn_171 : decode cX12_laysWorn 171 = .ok (.aload_n 0, 1) := by decide +kernel
theorem dX12_laysWorn_172 : decode cX12_laysWorn 172 = .ok (.getfield 67, 3) := by decide +kernel
theorem dX12_laysWorn_175 : decode cX12_laysWorn 175 = .ok (.aload_n 0, 1) := by decide +kernel
theorem dX12_laysWorn_176 : decode cX12_laysWorn 176 = .ok (.getfield 13, 3) := by decide +kernel
theorem dX12_laysWorn_179 : decode cX12_laysWorn 179 = .ok (.bipush 62, 2) := by decide +kernel
theorem dX12_laysWorn_181 : decode cX12_laysWorn 181 = .ok (.iload_n 2, 1) := by decide +kernel
theorem dX12_laysWorn_182 : decode cX12_laysWorn 182 = .ok (.iadd, 1) := by decide +kernel
theorem dX12_laysWorn_183 : decode cX12_laysWorn 183 = .ok (.iaload, 1) := by decide +kernel
theorem dX12_laysWorn_184 : decode cX12_laysWorn 184 = .ok (.laload, 1) := by decide +kernel
theorem dX12_laysWorn_185 : decode cX12_laysWorn 185 = .ok (.lreturn, 1) := by decide +kernel
theorem dX12_wornBy_0 : decode cX12_wornBy 0 = .ok (.aload_n 0, 1) := by decide +kernel
theorem dX12_wornBy_1 : decode cX12_wornBy 1 = .ok (.iconst 0, 1) := by decide +kernel
theorem dX12_wornBy_2 : decode cX12_wornBy 2 = .ok (.putfield 1, 3) := by decide +kernel
theorem dX12_wornBy_5 : decode cX12_wornBy 5 = .ok (.aload_n 0, 1) := by decide +kernel
theorem dX12_wornBy_6 : decode cX12_wornBy 6 = .ok (.iload_n 1, 1) := by decide +kernel
theorem dX12_wornBy_7 : decode cX12_wornBy 7 = .ok (.iload_n 2, 1) := by decide +kernel
theorem dX12_wornBy_8 : decode cX12_wornBy 8 = .ok (.invokevirtual 460, 3) := by decide +kernel
theorem dX12_wornBy_11 : decode cX12_wornBy 11 = .ok (.istore_n 3, 1) := by decide +kernel
theorem dX12_wornBy_12 : decode cX12_wornBy 12 = .ok (.iload_n 3, 1) := by decide +kernel
theorem dX12_wornBy_13 : decode cX12_wornBy 13 = .ok (.ifCond .eq 8, 3) := by decide +kernel
theorem dX12_wornBy_16 : decode cX12_wornBy 16 = .ok (.iload_n 3, 1) := by decide +kernel
theorem dX12_wornBy_17 : decode cX12_wornBy 17 = .ok (.i2l, 1) := by decide +kernel
theorem dX12_wornBy_18 : decode cX12_wornBy 18 = .ok (.goto 9, 3) := by decide +kernel
theorem dX12_wornBy_21 : decode cX12_wornBy 21 = .ok (.aload_n 0, 1) := by decide +kernel
theorem dX12_wornBy_22 : decode cX12_wornBy 22 = .ok (.iload_n 1, 1) := by decide +kernel
theorem dX12_wornBy_23 : decode cX12_wornBy 23 = .ok (.iload_n 2, 1) := by decide +kernel
theorem dX12_wornBy_24 : decode cX12_wornBy 24 = .ok (.invokevirtual 463, 3) := by decide +kernel
theorem dX12_wornBy_27 : decode cX12_wornBy 27 = .ok (.lreturn, 1) := by decide +kernel
theorem dX12_canGo_0 : decode cX12_canGo 0 = .ok (.aload_n 0, 1) := by decide +kernel
theorem dX12_canGo_1 : decode cX12_canGo 1 = .ok (.getfield 67, 3) := by decide +kernel
theorem dX12_canGo_4 : decode cX12_canGo 4 = .ok (.bipush 6, 2) := by decide +kernel
theorem dX12_canGo_6 : decode cX12_canGo 6 = .ok (.iload_n 2, 1) := by decide +kernel
theorem dX12_canGo_7 : decode cX12_canGo 7 = .ok (.iconst 1, 1) := by decide +kernel
theorem dX12_canGo_8 : decode cX12_canGo 8 = .ok (.iadd, 1) := by decide +kernel
theorem dX12_canGo_9 : decode cX12_canGo 9 = .ok (.imul, 1) := by decide +kernel
theorem dX12_canGo_10 : decode cX12_canGo 10 = .ok (.iload_n 3, 1) := by decide +kernel
theorem dX12_canGo_11 : decode cX12_canGo 11 = .ok (.bipush 10, 2) := by decide +kernel
theorem dX12_canGo_13 : decode cX12_canGo 13 = .ok (.irem, 1) := by decide +kernel
theorem dX12_canGo_14 : decode cX12_canGo 14 = .ok (.iadd, 1) := by decide +kernel
theorem dX12_canGo_15 : decode cX12_canGo 15 = .ok (.laload, 1) := by decide +kernel
theorem dX12_canGo_16 : decode cX12_canGo 16 = .ok (.lconst 0, 1) := by decide +kernel
theorem dX12_canGo_17 : decode cX12_canGo 17 = .ok (.lcmp, 1) := by decide +kernel
theorem dX12_canGo_18 : decode cX12_canGo 18 = .ok (.ifCond .le 19, 3) := by decide +kernel
theorem dX12_canGo_21 : decode cX12_canGo 21 = .ok (.aload_n 0, 1) := by decide +kernel
theorem dX12_canGo_22 : decode cX12_canGo 22 = .ok (.iload_n 1, 1) := by decide +kernel
theorem dX12_canGo_23 : decode cX12_canGo 23 = .ok (.iload_n 2, 1) := by decide +kernel
theorem dX12_canGo_24 : decode cX12_canGo 24 = .ok (.iload_n 3, 1) := by decide +kernel
theorem dX12_canGo_25 : decode cX12_canGo 25 = .ok (.iload 4, 2) := by decide +kernel
theorem dX12_canGo_27 : decode cX12_canGo 27 = .ok (.invokevirtual 456, 3) := by decide +kernel
theorem dX12_canGo_30 : decode cX12_canGo 30 = .ok (.ifCond .eq 7, 3) := by decide +kernel
theorem dX12_canGo_33 : decode cX12_canGo 33 = .ok (.iconst 1, 1) := by decide +kernel
theorem dX12_canGo_34 : decode cX12_canGo 34 = .ok (.goto 4, 3) := by decide +kernel
theorem dX12_canGo_37 : decode cX12_canGo 37 = .ok (.iconst 0, 1) := by decide +kernel
theorem dX12_canGo_38 : decode cX12_canGo 38 = .ok (.ireturn, 1) := by decide +kernel
theorem dX12_wornFirst_0 : decode cX12_wornFirst 0 = .ok (.aload_n 0, 1) := by decide +kernel
theorem dX12_wornFirst_1 : decode cX12_wornFirst 1 = .ok (.iconst 0, 1) := by decide +kernel
theorem dX12_wornFirst_2 : decode cX12_wornFirst 2 = .ok (.putfield 1, 3) := by decide +kernel
theorem dX12_wornFirst_5 : decode cX12_wornFirst 5 = .ok (.aload_n 0, 1) := by decide +kernel
theorem dX12_wornFirst_6 : decode cX12_wornFirst 6 = .ok (.iload_n 1, 1) := by decide +kernel
theorem dX12_wornFirst_7 : decode cX12_wornFirst 7 = .ok (.iload_n 2, 1) := by decide +kernel
theorem dX12_wornFirst_8 : decode cX12_wornFirst 8 = .ok (.invokevirtual 460, 3) := by decide +kernel
theorem dX12_wornFirst_11 : decode cX12_wornFirst 11 = .ok (.istore 4, 2) := by decide +kernel
theorem dX12_wornFirst_13 : decode cX12_wornFirst 13 = .ok (.iload 4, 2) := by decide +kernel
theorem dX12_wornFirst_15 : decode cX12_wornFirst 15 = .ok (.ifCond .eq 6, 3) := by decide +kernel
theorem dX12_wornFirst_18 : decode cX12_wornFirst 18 = .ok (.iload 4, 2) := by decide +kernel
theorem dX12_wornFirst_20 : decode cX12_wornFirst 20 = .ok (.ireturn, 1) := by decide +kernel
theorem dX12_wornFirst_21 : decode cX12_wornFirst 21 = .ok (.iload_n 3, 1) := by decide +kernel
theorem dX12_wornFirst_22 : decode cX12_wornFirst 22 = .ok (.ifCond .ge 6, 3) := by decide +kernel
theorem dX12_wornFirst_25 : decode cX12_wornFirst 25 = .ok (.bipush (-3), 2) := by decide +kernel
theorem dX12_wornFirst_27 : decode cX12_wornFirst 27 = .ok (.ireturn, 1) := by decide +kernel
theorem dX12_wornFirst_28 : decode cX12_wornFirst 28 = .ok (.aload_n 0, 1) := by decide +kernel
theorem dX12_wornFirst_29 : decode cX12_wornFirst 29 = .ok (.iload_n 1, 1) := by decide +kernel
theorem dX12_wornFirst_30 : decode cX12_wornFirst 30 = .ok (.iload_n 2, 1) := by decide +kernel
theorem dX12_wornFirst_31 : decode cX12_wornFirst 31 = .ok (.invokevirtual 463, 3) := by decide +kernel
theorem dX12_wornFirst_34 : decode cX12_wornFirst 34 = .ok (.lconst 0, 1) := by decide +kernel
theorem dX12_wornFirst_35 : decode cX12_wornFirst 35 = .ok (.lcmp, 1) := by decide +kernel
theorem dX12_wornFirst_36 : decode cX12_wornFirst 36 = .ok (.ifCond .eq 13, 3) := by decide +kernel
theorem dX12_wornFirst_39 : decode cX12_wornFirst 39 = .ok (.iload_n 3, 1) := by decide +kernel
theorem dX12_wornFirst_40 : decode cX12_wornFirst 40 = .ok (.aload_n 0, 1) := by decide +kernel
theorem dX12_wornFirst_41 : decode cX12_wornFirst 41 = .ok (.getfield 82, 3) := by decide +kernel
theorem dX12_wornFirst_44 : decode cX12_wornFirst 44 = .ok (.iload_n 1, 1) := by decide +kernel
theorem dX12_wornFirst_45 : decode cX12_wornFirst 45 = .ok (.iaload, 1) := by decide +kernel
theorem dX12_wornFirst_46 : decode cX12_wornFirst 46 = .ok (.if_icmp .lt 5, 3) := by decide +kernel
theorem dX12_wornFirst_49 : decode cX12_wornFirst 49 = .ok (.iconst (-1), 1) := by decide +kernel
theorem dX12_wornFirst_50 : decode cX12_wornFirst 50 = .ok (.ireturn, 1) := by decide +kernel
theorem dX12_wornFirst_51 : decode cX12_wornFirst 51 = .ok (.aload_n 0, 1) := by decide +kernel
theorem dX12_wornFirst_52 : decode cX12_wornFirst 52 = .ok (.getfield 13, 3) := by decide +kernel
theorem dX12_wornFirst_55 : decode cX12_wornFirst 55 = .ok (.bipush 62, 2) := by decide +kernel
theorem dX12_wornFirst_57 : decode cX12_wornFirst 57 = .ok (.iload_n 2, 1) := by decide +kernel
theorem dX12_wornFirst_58 : decode cX12_wornFirst 58 = .ok (.iadd, 1) := by decide +kernel
theorem dX12_wornFirst_59 : decode cX12_wornFirst 59 = .ok (.iaload, 1) := by decide +kernel
theorem dX12_wornFirst_60 : decode cX12_wornFirst 60 = .ok (.istore 5, 2) := by decide +kernel
theorem dX12_wornFirst_62 : decode cX12_wornFirst 62 = .ok (.iconst 0, 1) := by decide +kernel
theorem dX12_wornFirst_63 : decode cX12_wornFirst 63 = .ok (.istore 6, 2) := by decide +kernel
theorem dX12_wornFirst_65 : decode cX12_wornFirst 65 = .ok (.iconst 0, 1) := by decide +kernel
theorem dX12_wornFirst_66 : decode cX12_wornFirst 66 = .ok (.istore 7, 2) := by decide +kernel
theorem dX12_wornFirst_68 : decode cX12_wornFirst 68 = .ok (.aload_n 0, 1) := by decide +kernel
theorem dX12_wornFirst_69 : decode cX12_wornFirst 69 = .ok (.iload_n 1, 1) := by decide +kernel
theorem dX12_wornFirst_70 : decode cX12_wornFirst 70 = .ok (.iload 6, 2) := by decide +kernel
theorem dX12_wornFirst_72 : decode cX12_wornFirst 72 = .ok (.aload_n 0, 1) := by decide +kernel
theorem dX12_wornFirst_73 : decode cX12_wornFirst 73 = .ok (.getfield 70, 3) := by decide +kernel
theorem dX12_wornFirst_76 : decode cX12_wornFirst 76 = .ok (.iload 7, 2) := by decide +kernel
theorem dX12_wornFirst_78 : decode cX12_wornFirst 78 = .ok (.iaload, 1) := by decide +kernel
theorem dX12_wornFirst_79 : decode cX12_wornFirst 79 = .ok (.iload 5, 2) := by decide +kernel
theorem dX12_wornFirst_81 : decode cX12_wornFirst 81 = .ok (.invokevirtual 467, 3) := by decide +kernel
theorem dX12_wornFirst_84 : decode cX12_wornFirst 84 = .ok (.ifCond .ne 9, 3) := by decide +kernel
theorem dX12_wornFirst_87 : decode cX12_wornFirst 87 = .ok (.iinc 7 1, 3) := by decide +kernel
theorem dX12_wornFirst_90 : decode cX12_wornFirst 90 = .ok (.goto (-22), 3) := by decide +kernel
theorem dX12_wornFirst_93 : decode cX12_wornFirst 93 = .ok (.iload 6, 2) := by decide +kernel
theorem dX12_wornFirst_95 : decode cX12_wornFirst 95 = .ok (.iload_n 3, 1) := by decide +kernel
theorem dX12_wornFirst_96 : decode cX12_wornFirst 96 = .ok (.if_icmp .ne 11, 3) := by decide +kernel
theorem dX12_wornFirst_99 : decode cX12_wornFirst 99 = .ok (.aload_n 0, 1) := by decide +kernel
theorem dX12_wornFirst_100 : decode cX12_wornFirst 100 = .ok (.getfield 70, 3) := by decide +kernel
theorem dX12_wornFirst_103 : decode cX12_wornFirst 103 = .ok (.iload 7, 2) := by decide +kernel
theorem dX12_wornFirst_105 : decode cX12_wornFirst 105 = .ok (.iaload, 1) := by decide +kernel
theorem dX12_wornFirst_106 : decode cX12_wornFirst 106 = .ok (.ireturn, 1) := by decide +kernel
theorem dX12_wornFirst_107 : decode cX12_wornFirst 107 = .ok (.aload_n 0, 1) := by decide +kernel
theorem dX12_wornFirst_108 : decode cX12_wornFirst 108 = .ok (.getfield 70, 3) := by decide +kernel
theorem dX12_wornFirst_111 : decode cX12_wornFirst 111 = .ok (.iload 7, 2) := by decide +kernel
theorem dX12_wornFirst_113 : decode cX12_wornFirst 113 = .ok (.iaload, 1) := by decide +kernel
theorem dX12_wornFirst_114 : decode cX12_wornFirst 114 = .ok (.bipush 10, 2) := by decide +kernel
theorem dX12_wornFirst_116 : decode cX12_wornFirst 116 = .ok (.irem, 1) := by decide +kernel
theorem dX12_wornFirst_117 : decode cX12_wornFirst 117 = .ok (.istore 5, 2) := by decide +kernel
theorem dX12_wornFirst_119 : decode cX12_wornFirst 119 = .ok (.iinc 6 1, 3) := by decide +kernel
theorem dX12_wornFirst_122 : decode cX12_wornFirst 122 = .ok (.goto (-57), 3) := by decide +kernel
theorem dX12_who_0 : decode cX12_who 0 = .ok (.aload_n 0, 1) := by decide +kernel
theorem dX12_who_1 : decode cX12_who 1 = .ok (.iconst 0, 1) := by decide +kernel
theorem dX12_who_2 : decode cX12_who 2 = .ok (.putfield 1, 3) := by decide +kernel
theorem dX12_who_5 : decode cX12_who 5 = .ok (.aload_n 0, 1) := by decide +kernel
theorem dX12_who_6 : decode cX12_who 6 = .ok (.iload_n 1, 1) := by decide +kernel
theorem dX12_who_7 : decode cX12_who 7 = .ok (.iload_n 2, 1) := by decide +kernel
theorem dX12_who_8 : decode cX12_who 8 = .ok (.invokevirtual 460, 3) := by decide +kernel
theorem dX12_who_11 : decode cX12_who 11 = .ok (.istore 4, 2) := by decide +kernel
theorem dX12_who_13 : decode cX12_who 13 = .ok (.iload 4, 2) := by decide +kernel
theorem dX12_who_15 : decode cX12_who 15 = .ok (.ifCond .eq 6, 3) := by decide +kernel
theorem dX12_who_18 : decode cX12_who 18 = .ok (.iload 4, 2) := by decide +kernel
theorem dX12_who_20 : decode cX12_who 20 = .ok (.ireturn, 1) := by decide +kernel
theorem dX12_who_21 : decode cX12_who 21 = .ok (.iload_n 3, 1) := by decide +kernel
theorem dX12_who_22 : decode cX12_who 22 = .ok (.ifCond .ge 6, 3) := by decide +kernel
theorem dX12_who_25 : decode cX12_who 25 = .ok (.bipush (-3), 2) := by decide +kernel
theorem dX12_who_27 : decode cX12_who 27 = .ok (.ireturn, 1) := by decide +kernel
theorem dX12_who_28 : decode cX12_who 28 = .ok (.iload_n 3, 1) := by decide +kernel
theorem dX12_who_29 : decode cX12_who 29 = .ok (.aload_n 0, 1) := by decide +kernel
theorem dX12_who_30 : decode cX12_who 30 = .ok (.getfield 82, 3) := by decide +kernel
theorem dX12_who_33 : decode cX12_who 33 = .ok (.iload_n 1, 1) := by decide +kernel
theorem dX12_who_34 : decode cX12_who 34 = .ok (.iaload, 1) := by decide +kernel
theorem dX12_who_35 : decode cX12_who 35 = .ok (.if_icmp .lt 6, 3) := by decide +kernel
theorem dX12_who_38 : decode cX12_who 38 = .ok (.bipush (-7), 2) := by decide +kernel
theorem dX12_who_40 : decode cX12_who 40 = .ok (.ireturn, 1) := by decide +kernel
theorem dX12_who_41 : decode cX12_who 41 = .ok (.aload_n 0, 1) := by decide +kernel
theorem dX12_who_42 : decode cX12_who 42 = .ok (.iload_n 1, 1) := by decide +kernel
theorem dX12_who_43 : decode cX12_who 43 = .ok (.iload_n 2, 1) := by decide +kernel
theorem dX12_who_44 : decode cX12_who 44 = .ok (.invokevirtual 463, 3) := by decide +kernel
theorem dX12_who_47 : decode cX12_who 47 = .ok (.lconst 0, 1) := by decide +kernel
theorem dX12_who_48 : decode cX12_who 48 = .ok (.lcmp, 1) := by decide +kernel
theorem dX12_who_49 : decode cX12_who 49 = .ok (.ifCond .ne 5, 3) := by decide +kernel
theorem dX12_who_52 : decode cX12_who 52 = .ok (.iconst 0, 1) := by decide +kernel
theorem dX12_who_53 : decode cX12_who 53 = .ok (.ireturn, 1) := by decide +kernel
theorem dX12_who_54 : decode cX12_who 54 = .ok (.iconst 1, 1) := by decide +kernel
theorem dX12_who_55 : decode cX12_who 55 = .ok (.aload_n 0, 1) := by decide +kernel
theorem dX12_who_56 : decode cX12_who 56 = .ok (.getfield 13, 3) := by decide +kernel
theorem dX12_who_59 : decode cX12_who 59 = .ok (.bipush 62, 2) := by decide +kernel
theorem dX12_who_61 : decode cX12_who 61 = .ok (.iload_n 2, 1) := by decide +kernel
theorem dX12_who_62 : decode cX12_who 62 = .ok (.iadd, 1) := by decide +kernel
theorem dX12_who_63 : decode cX12_who 63 = .ok (.iaload, 1) := by decide +kernel
theorem dX12_who_64 : decode cX12_who 64 = .ok (.ishl, 1) := by decide +kernel
theorem dX12_who_65 : decode cX12_who 65 = .ok (.istore 5, 2) := by decide +kernel
theorem dX12_who_67 : decode cX12_who 67 = .ok (.iconst 0, 1) := by decide +kernel
theorem dX12_who_68 : decode cX12_who 68 = .ok (.istore 6, 2) := by decide +kernel
theorem dX12_who_70 : decode cX12_who 70 = .ok (.iconst 0, 1) := by decide +kernel
theorem dX12_who_71 : decode cX12_who 71 = .ok (.istore 7, 2) := by decide +kernel
theorem dX12_who_73 : decode cX12_who 73 = .ok (.iload 7, 2) := by decide +kernel
theorem dX12_who_75 : decode cX12_who 75 = .ok (.iload_n 3, 1) := by decide +kernel
theorem dX12_who_76 : decode cX12_who 76 = .ok (.if_icmp .gt 144, 3) := by decide +kernel
theorem dX12_who_79 : decode cX12_who 79 = .ok (.iconst 0, 1) := by decide +kernel
theorem dX12_who_80 : decode cX12_who 80 = .ok (.istore 8, 2) := by decide +kernel
theorem dX12_who_82 : decode cX12_who 82 = .ok (.iconst 0, 1) := by decide +kernel
theorem dX12_who_83 : decode cX12_who 83 = .ok (.istore 6, 2) := by decide +kernel
theorem dX12_who_85 : decode cX12_who 85 = .ok (.iconst 0, 1) := by decide +kernel
theorem dX12_who_86 : decode cX12_who 86 = .ok (.istore 9, 2) := by decide +kernel
theorem dX12_who_88 : decode cX12_who 88 = .ok (.iload 9, 2) := by decide +kernel
theorem dX12_who_90 : decode cX12_who 90 = .ok (.aload_n 0, 1) := by decide +kernel
theorem dX12_who_91 : decode cX12_who 91 = .ok (.getfield 13, 3) := by decide +kernel
theorem dX12_who_94 : decode cX12_who 94 = .ok (.iconst 1, 1) := by decide +kernel
theorem dX12_who_95 : decode cX12_who 95 = .ok (.iaload, 1) := by decide +kernel
theorem dX12_who_96 : decode cX12_who 96 = .ok (.if_icmp .ge 114, 3) := by decide +kernel
theorem dX12_who_99 : decode cX12_who 99 = .ok (.iconst 0, 1) := by decide +kernel
theorem dX12_who_100 : decode cX12_who 100 = .ok (.istore 10, 2) := by decide +kernel
theorem dX12_who_102 : decode cX12_who 102 = .ok (.iload 10, 2) := by decide +kernel
theorem dX12_who_104 : decode cX12_who 104 = .ok (.aload_n 0, 1) := by decide +kernel
theorem dX12_who_105 : decode cX12_who 105 = .ok (.getfield 450, 3) := by decide +kernel
theorem dX12_who_108 : decode cX12_who 108 = .ok (.if_icmp .ge 96, 3) := by decide +kernel
theorem dX12_who_111 : decode cX12_who 111 = .ok (.iload 5, 2) := by decide +kernel
theorem dX12_who_113 : decode cX12_who 113 = .ok (.i2l, 1) := by decide +kernel
theorem dX12_who_114 : decode cX12_who 114 = .ok (.iload 9, 2) := by decide +kernel
theorem dX12_who_116 : decode cX12_who 116 = .ok (.invokestatic 233, 3) := by decide +kernel
theorem dX12_who_119 : decode cX12_who 119 = .ok (.ifCond .eq 85, 3) := by decide +kernel
theorem dX12_who_122 : decode cX12_who 122 = .ok (.aload_n 0, 1) := by decide +kernel
theorem dX12_who_123 : decode cX12_who 123 = .ok (.iload_n 1, 1) := by decide +kernel
theorem dX12_who_124 : decode cX12_who 124 = .ok (.iload 7, 2) := by decide +kernel
theorem dX12_who_126 : decode cX12_who 126 = .ok (.aload_n 0, 1) := by decide +kernel
theorem dX12_who_127 : decode cX12_who 127 = .ok (.getfield 70, 3) := by decide +kernel
theorem dX12_who_130 : decode cX12_who 130 = .ok (.iload 10, 2) := by decide +kernel
theorem dX12_who_132 : decode cX12_who 132 = .ok (.iaload, 1) := by decide +kernel
theorem dX12_who_133 : decode cX12_who 133 = .ok (.iload 9, 2) := by decide +kernel
theorem dX12_who_135 : decode cX12_who 135 = .ok (.invokevirtual 467, 3) := by decide +kernel
theorem dX12_who_138 : decode cX12_who 138 = .ok (.ifCond .ne 6, 3) := by decide +kernel
theorem dX12_who_141 : decode cX12_who 141 = .ok (.goto 57, 3) := by decide +kernel
theorem dX12_who_144 : decode cX12_who 144 = .ok (.iload 8, 2) := by decide +kernel
theorem dX12_who_146 : decode cX12_who 146 = .ok (.iconst 1, 1) := by decide +kernel
theorem dX12_who_147 : decode cX12_who 147 = .ok (.aload_n 0, 1) := by decide +kernel
theorem dX12_who_148 : decode cX12_who 148 = .ok (.getfield 70, 3) := by decide +kernel
theorem dX12_who_151 : decode cX12_who 151 = .ok (.iload 10, 2) := by decide +kernel
theorem dX12_who_153 : decode cX12_who 153 = .ok (.iaload, 1) := by decide +kernel
theorem dX12_who_154 : decode cX12_who 154 = .ok (.bipush 10, 2) := by decide +kernel
theorem dX12_who_156 : decode cX12_who 156 = .ok (.irem, 1) := by decide +kernel
theorem dX12_who_157 : decode cX12_who 157 = .ok (.ishl, 1) := by decide +kernel
theorem dX12_who_158 : decode cX12_who 158 = .ok (.ior, 1) := by decide +kernel
theorem dX12_who_159 : decode cX12_who 159 = .ok (.istore 8, 2) := by decide +kernel
theorem dX12_who_161 : decode cX12_who 161 = .ok (.iload 6, 2) := by decide +kernel
theorem dX12_who_163 : decode cX12_who 163 = .ok (.iconst 1, 1) := by decide +kernel
theorem dX12_who_164 : decode cX12_who 164 = .ok (.aload_n 0, 1) := by decide +kernel
theorem dX12_who_165 : decode cX12_who 165 = .ok (.getfield 70, 3) := by decide +kernel
theorem dX12_who_168 : decode cX12_who 168 = .ok (.iload 10, 2) := by decide +kernel
theorem dX12_who_170 : decode cX12_who 170 = .ok (.iaload, 1) := by decide +kernel
theorem dX12_who_171 : decode cX12_who 171 = .ok (.sipush 1000, 3) := by decide +kernel
theorem dX12_who_174 : decode cX12_who 174 = .ok (.idiv, 1) := by decide +kernel
theorem dX12_who_175 : decode cX12_who 175 = .ok (.bipush 10, 2) := by decide +kernel
theorem dX12_who_177 : decode cX12_who 177 = .ok (.irem, 1) := by decide +kernel
theorem dX12_who_178 : decode cX12_who 178 = .ok (.ishl, 1) := by decide +kernel
theorem dX12_who_179 : decode cX12_who 179 = .ok (.iconst 1, 1) := by decide +kernel
theorem dX12_who_180 : decode cX12_who 180 = .ok (.aload_n 0, 1) := by decide +kernel
theorem dX12_who_181 : decode cX12_who 181 = .ok (.getfield 70, 3) := by decide +kernel
theorem dX12_who_184 : decode cX12_who 184 = .ok (.iload 10, 2) := by decide +kernel
theorem dX12_who_186 : decode cX12_who 186 = .ok (.iaload, 1) := by decide +kernel
theorem dX12_who_187 : decode cX12_who 187 = .ok (.bipush 100, 2) := by decide +kernel
theorem dX12_who_189 : decode cX12_who 189 = .ok (.idiv, 1) := by decide +kernel
theorem dX12_who_190 : decode cX12_who 190 = .ok (.bipush 10, 2) := by decide +kernel
theorem dX12_who_192 : decode cX12_who 192 = .ok (.irem, 1) := by decide +kernel
theorem dX12_who_193 : decode cX12_who 193 = .ok (.ishl, 1) := by decide +kernel
theorem dX12_who_194 : decode cX12_who 194 = .ok (.ior, 1) := by decide +kernel
theorem dX12_who_195 : decode cX12_who 195 = .ok (.ior, 1) := by decide +kernel
theorem dX12_who_196 : decode cX12_who 196 = .ok (.istore 6, 2) := by decide +kernel
theorem dX12_who_198 : decode cX12_who 198 = .ok (.iinc 10 1, 3) := by decide +kernel
theorem dX12_who_201 : decode cX12_who 201 = .ok (.goto (-99), 3) := by decide +kernel
theorem dX12_who_204 : decode cX12_who 204 = .ok (.iinc 9 1, 3) := by decide +kernel
theorem dX12_who_207 : decode cX12_who 207 = .ok (.goto (-119), 3) := by decide +kernel
theorem dX12_who_210 : decode cX12_who 210 = .ok (.iload 8, 2) := by decide +kernel
theorem dX12_who_212 : decode cX12_who 212 = .ok (.istore 5, 2) := by decide +kernel
theorem dX12_who_214 : decode cX12_who 214 = .ok (.iinc 7 1, 3) := by decide +kernel
theorem dX12_who_217 : decode cX12_who 217 = .ok (.goto (-144), 3) := by decide +kernel
theorem dX12_who_220 : decode cX12_who 220 = .ok (.iload 6, 2) := by decide +kernel
theorem dX12_who_222 : decode cX12_who 222 = .ok (.ireturn, 1) := by decide +kernel
theorem dX12_isTold_0 : decode cX12_isTold 0 = .ok (.iload_n 1, 1) := by decide +kernel
theorem dX12_isTold_1 : decode cX12_isTold 1 = .ok (.bipush 10, 2) := by decide +kernel
theorem dX12_isTold_3 : decode cX12_isTold 3 = .ok (.idiv, 1) := by decide +kernel
theorem dX12_isTold_4 : decode cX12_isTold 4 = .ok (.istore_n 3, 1) := by decide +kernel
theorem dX12_isTold_5 : decode cX12_isTold 5 = .ok (.aload_n 0, 1) := by decide +kernel
theorem dX12_isTold_6 : decode cX12_isTold 6 = .ok (.iload_n 3, 1) := by decide +kernel
theorem dX12_isTold_7 : decode cX12_isTold 7 = .ok (.iload_n 2, 1) := by decide +kernel
theorem dX12_isTold_8 : decode cX12_isTold 8 = .ok (.invokevirtual 341, 3) := by decide +kernel
theorem dX12_isTold_11 : decode cX12_isTold 11 = .ok (.ifCond .ne 42, 3) := by decide +kernel
theorem dX12_isTold_14 : decode cX12_isTold 14 = .ok (.aload_n 0, 1) := by decide +kernel
theorem dX12_isTold_15 : decode cX12_isTold 15 = .ok (.iload_n 3, 1) := by decide +kernel
theorem dX12_isTold_16 : decode cX12_isTold 16 = .ok (.sipush 1000, 3) := by decide +kernel
theorem dX12_isTold_19 : decode cX12_isTold 19 = .ok (.idiv, 1) := by decide +kernel
theorem dX12_isTold_20 : decode cX12_isTold 20 = .ok (.iload_n 3, 1) := by decide +kernel
theorem dX12_isTold_21 : decode cX12_isTold 21 = .ok (.bipush 100, 2) := by decide +kernel
theorem dX12_isTold_23 : decode cX12_isTold 23 = .ok (.idiv, 1) := by decide +kernel
theorem dX12_isTold_24 : decode cX12_isTold 24 = .ok (.bipush 10, 2) := by decide +kernel
theorem dX12_isTold_26 : decode cX12_isTold 26 = .ok (.irem, 1) := by decide +kernel
theorem dX12_isTold_27 : decode cX12_isTold 27 = .ok (.iload_n 3, 1) := by decide +kernel
theorem dX12_isTold_28 : decode cX12_isTold 28 = .ok (.bipush 10, 2) := by decide +kernel
theorem dX12_isTold_30 : decode cX12_isTold 30 = .ok (.idiv, 1) := by decide +kernel
theorem dX12_isTold_31 : decode cX12_isTold 31 = .ok (.bipush 10, 2) := by decide +kernel
theorem dX12_isTold_33 : decode cX12_isTold 33 = .ok (.irem, 1) := by decide +kernel
theorem dX12_isTold_34 : decode cX12_isTold 34 = .ok (.iload_n 3, 1) := by decide +kernel
theorem dX12_isTold_35 : decode cX12_isTold 35 = .ok (.bipush 10, 2) := by decide +kernel
theorem dX12_isTold_37 : decode cX12_isTold 37 = .ok (.irem, 1) := by decide +kernel
theorem dX12_isTold_38 : decode cX12_isTold 38 = .ok (.iload_n 2, 1) := by decide +kernel
theorem dX12_isTold_39 : decode cX12_isTold 39 = .ok (.invokevirtual 303, 3) := by decide +kernel
theorem dX12_isTold_42 : decode cX12_isTold 42 = .ok (.iload_n 1, 1) := by decide +kernel
theorem dX12_isTold_43 : decode cX12_isTold 43 = .ok (.bipush 10, 2) := by decide +kernel
theorem dX12_isTold_45 : decode cX12_isTold 45 = .ok (.irem, 1) := by decide +kernel
theorem dX12_isTold_46 : decode cX12_isTold 46 = .ok (.if_icmp .ne 7, 3) := by decide +kernel
theorem dX12_isTold_49 : decode cX12_isTold 49 = .ok (.iconst 1, 1) := by decide +kernel
theorem dX12_isTold_50 : decode cX12_isTold 50 = .ok (.goto 4, 3) := by decide +kernel
theorem dX12_isTold_53 : decode cX12_isTold 53 = .ok (.iconst 0, 1) := by decide +kernel
theorem dX12_isTold_54 : decode cX12_isTold 54 = .ok (.ireturn, 1) := by decide +kernel
theorem dX12_hoursOf_0 : decode cX12_hoursOf 0 = .ok (.iconst 0, 1) := by decide +kernel
theorem dX12_hoursOf_1 : decode cX12_hoursOf 1 = .ok (.istore_n 2, 1) := by decide +kernel
theorem dX12_hoursOf_2 : decode cX12_hoursOf 2 = .ok (.iconst 0, 1) := by decide +kernel
theorem dX12_hoursOf_3 : decode cX12_hoursOf 3 = .ok (.istore_n 3, 1) := by decide +kernel
theorem dX12_hoursOf_4 : decode cX12_hoursOf 4 = .ok (.iload_n 3, 1) := by decide +kernel
theorem dX12_hoursOf_5 : decode cX12_hoursOf 5 = .ok (.bipush 10, 2) := by decide +kernel
theorem dX12_hoursOf_7 : decode cX12_hoursOf 7 = .ok (.if_icmp .ge 70, 3) := by decide +kernel
theorem dX12_hoursOf_10 : decode cX12_hoursOf 10 = .ok (.iconst 1, 1) := by decide +kernel
theorem dX12_hoursOf_11 : decode cX12_hoursOf 11 = .ok (.istore 4, 2) := by decide +kernel
theorem dX12_hoursOf_13 : decode cX12_hoursOf 13 = .ok (.iconst 0, 1) := by decide +kernel
theorem dX12_hoursOf_14 : decode cX12_hoursOf 14 = .ok (.istore 5, 2) := by decide +kernel
theorem dX12_hoursOf_16 : decode cX12_hoursOf 16 = .ok (.iload 5, 2) := by decide +kernel
theorem dX12_hoursOf_18 : decode cX12_hoursOf 18 = .ok (.aload_n 0, 1) := by decide +kernel
theorem dX12_hoursOf_19 : decode cX12_hoursOf 19 = .ok (.getfield 82, 3) := by decide +kernel
theorem dX12_hoursOf_22 : decode cX12_hoursOf 22 = .ok (.iload_n 1, 1) := by decide +kernel
theorem dX12_hoursOf_23 : decode cX12_hoursOf 23 = .ok (.iaload, 1) := by decide +kernel
theorem dX12_hoursOf_24 : decode cX12_hoursOf 24 = .ok (.if_icmp .ge 32, 3) := by decide +kernel
theorem dX12_hoursOf_27 : decode cX12_hoursOf 27 = .ok (.iload 4, 2) := by decide +kernel
theorem dX12_hoursOf_29 : decode cX12_hoursOf 29 = .ok (.aload_n 0, 1) := by decide +kernel
theorem dX12_hoursOf_30 : decode cX12_hoursOf 30 = .ok (.aload_n 0, 1) := by decide +kernel
theorem dX12_hoursOf_31 : decode cX12_hoursOf 31 = .ok (.getfield 85, 3) := by decide +kernel
theorem dX12_hoursOf_34 : decode cX12_hoursOf 34 = .ok (.bipush 40, 2) := by decide +kernel
theorem dX12_hoursOf_36 : decode cX12_hoursOf 36 = .ok (.iload_n 1, 1) := by decide +kernel
theorem dX12_hoursOf_37 : decode cX12_hoursOf 37 = .ok (.imul, 1) := by decide +kernel
theorem dX12_hoursOf_38 : decode cX12_hoursOf 38 = .ok (.iload 5, 2) := by decide +kernel
theorem dX12_hoursOf_40 : decode cX12_hoursOf 40 = .ok (.iadd, 1) := by decide +kernel
theorem dX12_hoursOf_41 : decode cX12_hoursOf 41 = .ok (.laload, 1) := by decide +kernel
theorem dX12_hoursOf_42 : decode cX12_hoursOf 42 = .ok (.l2i, 1) := by decide +kernel
theorem dX12_hoursOf_43 : decode cX12_hoursOf 43 = .ok (.iload_n 3, 1) := by decide +kernel
theorem dX12_hoursOf_44 : decode cX12_hoursOf 44 = .ok (.invokevirtual 470, 3) := by decide +kernel
theorem dX12_hoursOf_47 : decode cX12_hoursOf 47 = .ok (.iand, 1) := by decide +kernel
theorem dX12_hoursOf_48 : decode cX12_hoursOf 48 = .ok (.istore 4, 2) := by decide +kernel
theorem dX12_hoursOf_50 : decode cX12_hoursOf 50 = .ok (.iinc 5 1, 3) := by decide +kernel
theorem dX12_hoursOf_53 : decode cX12_hoursOf 53 = .ok (.goto (-37), 3) := by decide +kernel
theorem dX12_hoursOf_56 : decode cX12_hoursOf 56 = .ok (.iload_n 2, 1) := by decide +kernel
theorem dX12_hoursOf_57 : decode cX12_hoursOf 57 = .ok (.iload 4, 2) := by decide +kernel
theorem dX12_hoursOf_59 : decode cX12_hoursOf 59 = .ok (.ifCond .eq 9, 3) := by decide +kernel
theorem dX12_hoursOf_62 : decode cX12_hoursOf 62 = .ok (.iconst 1, 1) := by decide +kernel
theorem dX12_hoursOf_63 : decode cX12_hoursOf 63 = .ok (.iload_n 3, 1) := by decide +kernel
theorem dX12_hoursOf_64 : decode cX12_hoursOf 64 = .ok (.ishl, 1) := by decide +kernel
theorem dX12_hoursOf_65 : decode cX12_hoursOf 65 = .ok (.goto 4, 3) := by decide +kernel
theorem dX12_hoursOf_68 : decode cX12_hoursOf 68 = .ok (.iconst 0, 1) := by decide +kernel
theorem dX12_hoursOf_69 : decode cX12_hoursOf 69 = .ok (.ior, 1) := by decide +kernel
theorem dX12_hoursOf_70 : decode cX12_hoursOf 70 = .ok (.istore_n 2, 1) := by decide +kernel
theorem dX12_hoursOf_71 : decode cX12_hoursOf 71 = .ok (.iinc 3 1, 3) := by decide +kernel
theorem dX12_hoursOf_74 : decode cX12_hoursOf 74 = .ok (.goto (-70), 3) := by decide +kernel
theorem dX12_hoursOf_77 : decode cX12_hoursOf 77 = .ok (.iload_n 2, 1) := by decide +kernel
theorem dX12_hoursOf_78 : decode cX12_hoursOf 78 = .ok (.ireturn, 1) := by decide +kernel
theorem dX12_hours_0 : decode cX12_hours 0 = .ok (.aload_n 0, 1) := by decide +kernel
theorem dX12_hours_1 : decode cX12_hours 1 = .ok (.iconst 0, 1) := by decide +kernel
theorem dX12_hours_2 : decode cX12_hours 2 = .ok (.putfield 1, 3) := by decide +kernel
theorem dX12_hours_5 : decode cX12_hours 5 = .ok (.aload_n 0, 1) := by decide +kernel
theorem dX12_hours_6 : decode cX12_hours 6 = .ok (.iload_n 1, 1) := by decide +kernel
theorem dX12_hours_7 : decode cX12_hours 7 = .ok (.iconst 0, 1) := by decide +kernel
theorem dX12_hours_8 : decode cX12_hours 8 = .ok (.ldc_w 473, 3) := by decide +kernel
theorem dX12_hours_11 : decode cX12_hours 11 = .ok (.invokevirtual 445, 3) := by decide +kernel
theorem dX12_hours_14 : decode cX12_hours 14 = .ok (.istore_n 2, 1) := by decide +kernel
theorem dX12_hours_15 : decode cX12_hours 15 = .ok (.iload_n 2, 1) := by decide +kernel
theorem dX12_hours_16 : decode cX12_hours 16 = .ok (.ifCond .eq 7, 3) := by decide +kernel
theorem dX12_hours_19 : decode cX12_hours 19 = .ok (.iload_n 2, 1) := by decide +kernel
theorem dX12_hours_20 : decode cX12_hours 20 = .ok (.goto 8, 3) := by decide +kernel
theorem dX12_hours_23 : decode cX12_hours 23 = .ok (.aload_n 0, 1) := by decide +kernel
theorem dX12_hours_24 : decode cX12_hours 24 = .ok (.iload_n 1, 1) := by decide +kernel
theorem dX12_hours_25 : decode cX12_hours 25 = .ok (.invokevirtual 474, 3) := by decide +kernel
theorem dX12_hours_28 : decode cX12_hours 28 = .ok (.ireturn, 1) := by decide +kernel
theorem dX12_mostOften_0 : decode cX12_mostOften 0 = .ok (.iconst 0, 1) := by decide +kernel
theorem dX12_mostOften_1 : decode cX12_mostOften 1 = .ok (.istore 6, 2) := by decide +kernel
theorem dX12_mostOften_3 : decode cX12_mostOften 3 = .ok (.iconst 0, 1) := by decide +kernel
theorem dX12_mostOften_4 : decode cX12_mostOften 4 = .ok (.istore 7, 2) := by decide +kernel
theorem dX12_mostOften_6 : decode cX12_mostOften 6 = .ok (.iload 7, 2) := by decide +kernel
theorem dX12_mostOften_8 : decode cX12_mostOften 8 = .ok (.bipush 11, 2) := by decide +kernel
theorem dX12_mostOften_10 : decode cX12_mostOften 10 = .ok (.if_icmp .ge 17, 3) := by decide +kernel
theorem dX12_mostOften_13 : decode cX12_mostOften 13 = .ok (.aload_n 0, 1) := by decide +kernel
theorem dX12_mostOften_14 : decode cX12_mostOften 14 = .ok (.getfield 73, 3) := by decide +kernel
theorem dX12_mostOften_17 : decode cX12_mostOften 17 = .ok (.iload 7, 2) := by decide +kernel
theorem dX12_mostOften_19 : decode cX12_mostOften 19 = .ok (.iconst 0, 1) := by decide +kernel
theorem dX12_mostOften_20 : decode cX12_mostOften 20 = .ok (.iastore, 1) := by decide +kernel
theorem dX12_mostOften_21 : decode cX12_mostOften 21 = .ok (.iinc 7 1, 3) := by decide +kernel
theorem dX12_mostOften_24 : decode cX12_mostOften 24 = .ok (.goto (-18), 3) := by decide +kernel
theorem dX12_mostOften_27 : decode cX12_mostOften 27 = .ok (.iconst 0, 1) := by decide +kernel
theorem dX12_mostOften_28 : decode cX12_mostOften 28 = .ok (.istore 7, 2) := by decide +kernel
theorem dX12_mostOften_30 : decode cX12_mostOften 30 = .ok (.iload 7, 2) := by decide +kernel
theorem dX12_mostOften_32 : decode cX12_mostOften 32 = .ok (.bipush 10, 2) := by decide +kernel
theorem dX12_mostOften_34 : decode cX12_mostOften 34 = .ok (.if_icmp .ge 93, 3) := by decide +kernel
theorem dX12_mostOften_37 : decode cX12_mostOften 37 = .ok (.iload_n 1, 1) := by decide +kernel
theorem dX12_mostOften_38 : decode cX12_mostOften 38 = .ok (.i2l, 1) := by decide +kernel
theorem dX12_mostOften_39 : decode cX12_mostOften 39 = .ok (.iload 7, 2) := by decide +kernel
theorem dX12_mostOften_41 : decode cX12_mostOften 41 = .ok (.invokestatic 233, 3) := by decide +kernel
theorem dX12_mostOften_44 : decode cX12_mostOften 44 = .ok (.ifCond .ne 6, 3) := by decide +kernel
theorem dX12_mostOften_47 : decode cX12_mostOften 47 = .ok (.goto 74, 3) := by decide +kernel
theorem dX12_mostOften_50 : decode cX12_mostOften 50 = .ok (.aload_n 0, 1) := by decide +kernel
theorem dX12_mostOften_51 : decode cX12_mostOften 51 = .ok (.iload_n 2, 1) := by decide +kernel
theorem dX12_mostOften_52 : decode cX12_mostOften 52 = .ok (.iload_n 3, 1) := by decide +kernel
theorem dX12_mostOften_53 : decode cX12_mostOften 53 = .ok (.iload 4, 2) := by decide +kernel
theorem dX12_mostOften_55 : decode cX12_mostOften 55 = .ok (.iload 5, 2) := by decide +kernel
theorem dX12_mostOften_57 : decode cX12_mostOften 57 = .ok (.iload 7, 2) := by decide +kernel
theorem dX12_mostOften_59 : decode cX12_mostOften 59 = .ok (.invokevirtual 300, 3) := by decide +kernel
theorem dX12_mostOften_62 : decode cX12_mostOften 62 = .ok (.ifCond .eq 8, 3) := by decide +kernel
theorem dX12_mostOften_65 : decode cX12_mostOften 65 = .ok (.bipush 10, 2) := by decide +kernel
theorem dX12_mostOften_67 : decode cX12_mostOften 67 = .ok (.goto 15, 3) := by decide +kernel
theorem dX12_mostOften_70 : decode cX12_mostOften 70 = .ok (.aload_n 0, 1) := by decide +kernel
theorem dX12_mostOften_71 : decode cX12_mostOften 71 = .ok (.iload_n 2, 1) := by decide +kernel
theorem dX12_mostOften_72 : decode cX12_mostOften 72 = .ok (.iload_n 3, 1) := by decide +kernel
theorem dX12_mostOften_73 : decode cX12_mostOften 73 = .ok (.iload 4, 2) := by decide +kernel
theorem dX12_mostOften_75 : decode cX12_mostOften 75 = .ok (.iload 5, 2) := by decide +kernel
theorem dX12_mostOften_77 : decode cX12_mostOften 77 = .ok (.iload 7, 2) := by decide +kernel
theorem dX12_mostOften_79 : decode cX12_mostOften 79 = .ok (.invokevirtual 303, 3) := by decide +kernel
theorem dX12_mostOften_82 : decode cX12_mostOften 82 = .ok (.istore 8, 2) := by decide +kernel
theorem dX12_mostOften_84 : decode cX12_mostOften 84 = .ok (.aload_n 0, 1) := by decide +kernel
theorem dX12_mostOften_85 : decode cX12_mostOften 85 = .ok (.getfield 73, 3) := by decide +kernel
theorem dX12_mostOften_88 : decode cX12_mostOften 88 = .ok (.iload 8, 2) := by decide +kernel
theorem dX12_mostOften_90 : decode cX12_mostOften 90 = .ok (.dup2, 1) := by decide +kernel
theorem dX12_mostOften_91 : decode cX12_mostOften 91 = .ok (.iaload, 1) := by decide +kernel
theorem dX12_mostOften_92 : decode cX12_mostOften 92 = .ok (.iconst 1, 1) := by decide +kernel
theorem dX12_mostOften_93 : decode cX12_mostOften 93 = .ok (.iadd, 1) := by decide +kernel
theorem dX12_mostOften_94 : decode cX12_mostOften 94 = .ok (.iastore, 1) := by decide +kernel
theorem dX12_mostOften_95 : decode cX12_mostOften 95 = .ok (.aload_n 0, 1) := by decide +kernel
theorem dX12_mostOften_96 : decode cX12_mostOften 96 = .ok (.getfield 73, 3) := by decide +kernel
theorem dX12_mostOften_99 : decode cX12_mostOften 99 = .ok (.iload 8, 2) := by decide +kernel
theorem dX12_mostOften_101 : decode cX12_mostOften 101 = .ok (.iaload, 1) := by decide +kernel
theorem dX12_mostOften_102 : decode cX12_mostOften 102 = .ok (.iload 6, 2) := by decide +kernel
theorem dX12_mostOften_104 : decode cX12_mostOften 104 = .ok (.if_icmp .le 13, 3) := by decide +kernel
theorem dX12_mostOften_107 : decode cX12_mostOften 107 = .ok (.aload_n 0, 1) := by decide +kernel
theorem dX12_mostOften_108 : decode cX12_mostOften 108 = .ok (.getfield 73, 3) := by decide +kernel
theorem dX12_mostOften_111 : decode cX12_mostOften 111 = .ok (.iload 8, 2) := by decide +kernel
theorem dX12_mostOften_113 : decode cX12_mostOften 113 = .ok (.iaload, 1) := by decide +kernel
theorem dX12_mostOften_114 : decode cX12_mostOften 114 = .ok (.goto 5, 3) := by decide +kernel
theorem dX12_mostOften_117 : decode cX12_mostOften 117 = .ok (.iload 6, 2) := by decide +kernel
theorem dX12_mostOften_119 : decode cX12_mostOften 119 = .ok (.istore 6, 2) := by decide +kernel
theorem dX12_mostOften_121 : decode cX12_mostOften 121 = .ok (.iinc 7 1, 3) := by decide +kernel
theorem dX12_mostOften_124 : decode cX12_mostOften 124 = .ok (.goto (-94), 3) := by decide +kernel
theorem dX12_mostOften_127 : decode cX12_mostOften 127 = .ok (.iload 6, 2) := by decide +kernel
theorem dX12_mostOften_129 : decode cX12_mostOften 129 = .ok (.ireturn, 1) := by decide +kernel
theorem dX12_attempt_0 : decode cX12_attempt 0 = .ok (.aload_n 0, 1) := by decide +kernel
theorem dX12_attempt_1 : decode cX12_attempt 1 = .ok (.iconst 0, 1) := by decide +kernel
theorem dX12_attempt_2 : decode cX12_attempt 2 = .ok (.putfield 1, 3) := by decide +kernel
theorem dX12_attempt_5 : decode cX12_attempt 5 = .ok (.iload_n 1, 1) := by decide +kernel
theorem dX12_attempt_6 : decode cX12_attempt 6 = .ok (.i2l, 1) := by decide +kernel
theorem dX12_attempt_7 : decode cX12_attempt 7 = .ok (.lconst 0, 1) := by decide +kernel
theorem dX12_attempt_8 : decode cX12_attempt 8 = .ok (.ldc2_w 354, 3) := by decide +kernel
theorem dX12_attempt_11 : decode cX12_attempt 11 = .ok (.invokestatic 154, 3) := by decide +kernel
theorem dX12_attempt_14 : decode cX12_attempt 14 = .ok (.ifCond .eq 12, 3) := by decide +kernel
theorem dX12_attempt_17 : decode cX12_attempt 17 = .ok (.aload_n 0, 1) := by decide +kernel
theorem dX12_attempt_18 : decode cX12_attempt 18 = .ok (.iload_n 2, 1) := by decide +kernel
theorem dX12_attempt_19 : decode cX12_attempt 19 = .ok (.iload_n 3, 1) := by decide +kernel
theorem dX12_attempt_20 : decode cX12_attempt 20 = .ok (.invokevirtual 384, 3) := by decide +kernel
theorem dX12_attempt_23 : decode cX12_attempt 23 = .ok (.ifCond .eq 6, 3) := by decide +kernel
theorem dX12_attempt_26 : decode cX12_attempt 26 = .ok (.bipush (-2), 2) := by decide +kernel
theorem dX12_attempt_28 : decode cX12_attempt 28 = .ok (.ireturn, 1) := by decide +kernel
theorem dX12_attempt_29 : decode cX12_attempt 29 = .ok (.aload_n 0, 1) := by decide +kernel
theorem dX12_attempt_30 : decode cX12_attempt 30 = .ok (.iload_n 1, 1) := by decide +kernel
theorem dX12_attempt_31 : decode cX12_attempt 31 = .ok (.iconst 0, 1) := by decide +kernel
theorem dX12_attempt_32 : decode cX12_attempt 32 = .ok (.ldc_w 473, 3) := by decide +kernel
theorem dX12_attempt_35 : decode cX12_attempt 35 = .ok (.invokevirtual 445, 3) := by decide +kernel
theorem dX12_attempt_38 : decode cX12_attempt 38 = .ok (.istore 4, 2) := by decide +kernel
theorem dX12_attempt_40 : decode cX12_attempt 40 = .ok (.iload 4, 2) := by decide +kernel
theorem dX12_attempt_42 : decode cX12_attempt 42 = .ok (.ifCond .eq 6, 3) := by decide +kernel
theorem dX12_attempt_45 : decode cX12_attempt 45 = .ok (.iload 4, 2) := by decide +kernel
theorem dX12_attempt_47 : decode cX12_attempt 47 = .ok (.ireturn, 1) := by decide +kernel
theorem dX12_attempt_48 : decode cX12_attempt 48 = .ok (.aload_n 0, 1) := by decide +kernel
theorem dX12_attempt_49 : decode cX12_attempt 49 = .ok (.iload_n 1, 1) := by decide +kernel
theorem dX12_attempt_50 : decode cX12_attempt 50 = .ok (.invokevirtual 474, 3) := by decide +kernel
theorem dX12_attempt_53 : decode cX12_attempt 53 = .ok (.istore 5, 2) := by decide +kernel
theorem dX12_attempt_55 : decode cX12_attempt 55 = .ok (.iconst (-1), 1) := by decide +kernel
theorem dX12_attempt_56 : decode cX12_attempt 56 = .ok (.istore 6, 2) := by decide +kernel
theorem dX12_attempt_58 : decode cX12_attempt 58 = .ok (.ldc_w 383, 3) := by decide +kernel
theorem dX12_attempt_61 : decode cX12_attempt 61 = .ok (.istore 7, 2) := by decide +kernel
theorem dX12_attempt_63 : decode cX12_attempt 63 = .ok (.iconst 0, 1) := by decide +kernel
theorem dX12_attempt_64 : decode cX12_attempt 64 = .ok (.istore 8, 2) := by decide +kernel
theorem dX12_attempt_66 : decode cX12_attempt 66 = .ok (.iload 8, 2) := by decide +kernel
theorem dX12_attempt_68 : decode cX12_attempt 68 = .ok (.aload_n 0, 1) := by decide +kernel
theorem dX12_attempt_69 : decode cX12_attempt 69 = .ok (.getfield 13, 3) := by decide +kernel
theorem dX12_attempt_72 : decode cX12_attempt 72 = .ok (.iconst 3, 1) := by decide +kernel
theorem dX12_attempt_73 : decode cX12_attempt 73 = .ok (.iaload, 1) := by decide +kernel
theorem dX12_attempt_74 : decode cX12_attempt 74 = .ok (.if_icmp .ge 75, 3) := by decide +kernel
theorem dX12_attempt_77 : decode cX12_attempt 77 = .ok (.iload 5, 2) := by decide +kernel
theorem dX12_attempt_79 : decode cX12_attempt 79 = .ok (.ifCond .eq 70, 3) := by decide +kernel
theorem dX12_attempt_82 : decode cX12_attempt 82 = .ok (.iload 8, 2) := by decide +kernel
theorem dX12_attempt_84 : decode cX12_attempt 84 = .ok (.iconst 1, 1) := by decide +kernel
theorem dX12_attempt_85 : decode cX12_attempt 85 = .ok (.iadd, 1) := by decide +kernel
theorem dX12_attempt_86 : decode cX12_attempt 86 = .ok (.istore 9, 2) := by decide +kernel
theorem dX12_attempt_88 : decode cX12_attempt 88 = .ok (.iload 9, 2) := by decide +kernel
theorem dX12_attempt_90 : decode cX12_attempt 90 = .ok (.aload_n 0, 1) := by decide +kernel
theorem dX12_attempt_91 : decode cX12_attempt 91 = .ok (.getfield 13, 3) := by decide +kernel
theorem dX12_attempt_94 : decode cX12_attempt 94 = .ok (.iconst 3, 1) := by decide +kernel
theorem dX12_attempt_95 : decode cX12_attempt 95 = .ok (.iaload, 1) := by decide +kernel
theorem dX12_attempt_96 : decode cX12_attempt 96 = .ok (.if_icmp .ge 47, 3) := by decide +kernel
theorem dX12_attempt_99 : decode cX12_attempt 99 = .ok (.aload_n 0, 1) := by decide +kernel
theorem dX12_attempt_100 : decode cX12_attempt 100 = .ok (.iload 5, 2) := by decide +kernel
theorem dX12_attempt_102 : decode cX12_attempt 102 = .ok (.iload 8, 2) := by decide +kernel
theorem dX12_attempt_104 : decode cX12_attempt 104 = .ok (.iload 9, 2) := by decide +kernel
theorem dX12_attempt_106 : decode cX12_attempt 106 = .ok (.iload_n 2, 1) := by decide +kernel
theorem dX12_attempt_107 : decode cX12_attempt 107 = .ok (.iload_n 3, 1) := by decide +kernel
theorem dX12_attempt_108 : decode cX12_attempt 108 = .ok (.invokevirtual 477, 3) := by decide +kernel
theorem dX12_attempt_111 : decode cX12_attempt 111 = .ok (.istore 10, 2) := by decide +kernel
theorem dX12_attempt_113 : decode cX12_attempt 113 = .ok (.iload 10, 2) := by decide +kernel
theorem dX12_attempt_115 : decode cX12_attempt 115 = .ok (.iload 7, 2) := by decide +kernel
theorem dX12_attempt_117 : decode cX12_attempt 117 = .ok (.if_icmp .lt 6, 3) := by decide +kernel
theorem dX12_attempt_120 : decode cX12_attempt 120 = .ok (.goto 17, 3) := by decide +kernel
theorem dX12_attempt_123 : decode cX12_attempt 123 = .ok (.bipush 10, 2) := by decide +kernel
theorem dX12_attempt_125 : decode cX12_attempt 125 = .ok (.iload 8, 2) := by decide +kernel
theorem dX12_attempt_127 : decode cX12_attempt 127 = .ok (.imul, 1) := by decide +kernel
theorem dX12_attempt_128 : decode cX12_attempt 128 = .ok (.iload 9, 2) := by decide +kernel
theorem dX12_attempt_130 : decode cX12_attempt 130 = .ok (.iadd, 1) := by decide +kernel
theorem dX12_attempt_131 : decode cX12_attempt 131 = .ok (.istore 6, 2) := by decide +kernel
theorem dX12_attempt_133 : decode cX12_attempt 133 = .ok (.iload 10, 2) := by decide +kernel
theorem dX12_attempt_135 : decode cX12_attempt 135 = .ok (.istore 7, 2) := by decide +kernel
theorem dX12_attempt_137 : decode cX12_attempt 137 = .ok (.iinc 9 1, 3) := by decide +kernel
theorem dX12_attempt_140 : decode cX12_attempt 140 = .ok (.goto (-52), 3) := by decide +kernel
theorem dX12_attempt_143 : decode cX12_attempt 143 = .ok (.iinc 8 1, 3) := by decide +kernel
theorem dX12_attempt_146 : decode cX12_attempt 146 = .ok (.goto (-80), 3) := by decide +kernel
theorem dX12_attempt_149 : decode cX12_attempt 149 = .ok (.iload 6, 2) := by decide +kernel
theorem dX12_attempt_151 : decode cX12_attempt 151 = .ok (.ireturn, 1) := by decide +kernel
theorem dX12_canBe_0 : decode cX12_canBe 0 = .ok (.iload_n 1, 1) := by decide +kernel
theorem dX12_canBe_1 : decode cX12_canBe 1 = .ok (.iload_n 2, 1) := by decide +kernel
theorem dX12_canBe_2 : decode cX12_canBe 2 = .ok (.if_icmp .eq 17, 3) := by decide +kernel
theorem dX12_canBe_5 : decode cX12_canBe 5 = .ok (.aload_n 0, 1) := by decide +kernel
theorem dX12_canBe_6 : decode cX12_canBe 6 = .ok (.getfield 42, 3) := by decide +kernel
theorem dX12_canBe_9 : decode cX12_canBe 9 = .ok (.bipush 6, 2) := by decide +kernel
theorem dX12_canBe_11 : decode cX12_canBe 11 = .ok (.iload_n 1, 1) := by decide +kernel
theorem dX12_canBe_12 : decode cX12_canBe 12 = .ok (.imul, 1) := by decide +kernel
theorem dX12_canBe_13 : decode cX12_canBe 13 = .ok (.iload_n 2, 1) := by decide +kernel
theorem dX12_canBe_14 : decode cX12_canBe 14 = .ok (.iadd, 1) := by decide +kernel
theorem dX12_canBe_15 : decode cX12_canBe 15 = .ok (.iaload, 1) := by decide +kernel
theorem dX12_canBe_16 : decode cX12_canBe 16 = .ok (.ifCond .le 7, 3) := by decide +kernel
theorem dX12_canBe_19 : decode cX12_canBe 19 = .ok (.iconst 1, 1) := by decide +kernel
theorem dX12_canBe_20 : decode cX12_canBe 20 = .ok (.goto 4, 3) := by decide +kernel
theorem dX12_canBe_23 : decode cX12_canBe 23 = .ok (.iconst 0, 1) := by decide +kernel
theorem dX12_canBe_24 : decode cX12_canBe 24 = .ok (.ireturn, 1) := by decide +kernel
theorem dX12_otherAt_0 : decode cX12_otherAt 0 = .ok (.iconst 0, 1) := by decide +kernel
theorem dX12_otherAt_1 : decode cX12_otherAt 1 = .ok (.istore_n 2, 1) := by decide +kernel
theorem dX12_otherAt_2 : decode cX12_otherAt 2 = .ok (.iconst 0, 1) := by decide +kernel
theorem dX12_otherAt_3 : decode cX12_otherAt 3 = .ok (.istore_n 3, 1) := by decide +kernel
theorem dX12_otherAt_4 : decode cX12_otherAt 4 = .ok (.iload_n 3, 1) := by decide +kernel
theorem dX12_otherAt_5 : decode cX12_otherAt 5 = .ok (.aload_n 0, 1) := by decide +kernel
theorem dX12_otherAt_6 : decode cX12_otherAt 6 = .ok (.getfield 13, 3) := by decide +kernel
theorem dX12_otherAt_9 : decode cX12_otherAt 9 = .ok (.iconst 1, 1) := by decide +kernel
theorem dX12_otherAt_10 : decode cX12_otherAt 10 = .ok (.iaload, 1) := by decide +kernel
theorem dX12_otherAt_11 : decode cX12_otherAt 11 = .ok (.if_icmp .ge 62, 3) := by decide +kernel
theorem dX12_otherAt_14 : decode cX12_otherAt 14 = .ok (.aload_n 0, 1) := by decide +kernel
theorem dX12_otherAt_15 : decode cX12_otherAt 15 = .ok (.iload_n 1, 1) := by decide +kernel
theorem dX12_otherAt_16 : decode cX12_otherAt 16 = .ok (.iload_n 3, 1) := by decide +kernel
theorem dX12_otherAt_17 : decode cX12_otherAt 17 = .ok (.invokevirtual 480, 3) := by decide +kernel
theorem dX12_otherAt_20 : decode cX12_otherAt 20 = .ok (.ifCond .ne 6, 3) := by decide +kernel
theorem dX12_otherAt_23 : decode cX12_otherAt 23 = .ok (.goto 44, 3) := by decide +kernel
theorem dX12_otherAt_26 : decode cX12_otherAt 26 = .ok (.aload_n 0, 1) := by decide +kernel
theorem dX12_otherAt_27 : decode cX12_otherAt 27 = .ok (.getfield 45, 3) := by decide +kernel
theorem dX12_otherAt_30 : decode cX12_otherAt 30 = .ok (.iload_n 3, 1) := by decide +kernel
theorem dX12_otherAt_31 : decode cX12_otherAt 31 = .ok (.iaload, 1) := by decide +kernel
theorem dX12_otherAt_32 : decode cX12_otherAt 32 = .ok (.ldc_w 383, 3) := by decide +kernel
theorem dX12_otherAt_35 : decode cX12_otherAt 35 = .ok (.if_icmp .ne 7, 3) := by decide +kernel
theorem dX12_otherAt_38 : decode cX12_otherAt 38 = .ok (.ldc_w 383, 3) := by decide +kernel
theorem dX12_otherAt_41 : decode cX12_otherAt 41 = .ok (.ireturn, 1) := by decide +kernel
theorem dX12_otherAt_42 : decode cX12_otherAt 42 = .ok (.aload_n 0, 1) := by decide +kernel
theorem dX12_otherAt_43 : decode cX12_otherAt 43 = .ok (.getfield 45, 3) := by decide +kernel
theorem dX12_otherAt_46 : decode cX12_otherAt 46 = .ok (.iload_n 3, 1) := by decide +kernel
theorem dX12_otherAt_47 : decode cX12_otherAt 47 = .ok (.iaload, 1) := by decide +kernel
theorem dX12_otherAt_48 : decode cX12_otherAt 48 = .ok (.iconst 1, 1) := by decide +kernel
theorem dX12_otherAt_49 : decode cX12_otherAt 49 = .ok (.iadd, 1) := by decide +kernel
theorem dX12_otherAt_50 : decode cX12_otherAt 50 = .ok (.iload_n 2, 1) := by decide +kernel
theorem dX12_otherAt_51 : decode cX12_otherAt 51 = .ok (.if_icmp .le 14, 3) := by decide +kernel
theorem dX12_otherAt_54 : decode cX12_otherAt 54 = .ok (.aload_n 0, 1) := by decide +kernel
theorem dX12_otherAt_55 : decode cX12_otherAt 55 = .ok (.getfield 45, 3) := by decide +kernel
theorem dX12_otherAt_58 : decode cX12_otherAt 58 = .ok (.iload_n 3, 1) := by decide +kernel
theorem dX12_otherAt_59 : decode cX12_otherAt 59 = .ok (.iaload, 1) := by decide +kernel
theorem dX12_otherAt_60 : decode cX12_otherAt 60 = .ok (.iconst 1, 1) := by decide +kernel
theorem dX12_otherAt_61 : decode cX12_otherAt 61 = .ok (.iadd, 1) := by decide +kernel
theorem dX12_otherAt_62 : decode cX12_otherAt 62 = .ok (.goto 4, 3) := by decide +kernel
theorem dX12_otherAt_65 : decode cX12_otherAt 65 = .ok (.iload_n 2, 1) := by decide +kernel
theorem dX12_otherAt_66 : decode cX12_otherAt 66 = .ok (.istore_n 2, 1) := by decide +kernel
theorem dX12_otherAt_67 : decode cX12_otherAt 67 = .ok (.iinc 3 1, 3) := by decide +kernel
theorem dX12_otherAt_70 : decode cX12_otherAt 70 = .ok (.goto (-66), 3) := by decide +kernel
theorem dX12_otherAt_73 : decode cX12_otherAt 73 = .ok (.iload_n 2, 1) := by decide +kernel
theorem dX12_otherAt_74 : decode cX12_otherAt 74 = .ok (.ireturn, 1) := by decide +kernel
theorem dX12_laysForce_0 : decode cX12_laysForce 0 = .ok (.aload_n 0, 1) := by decide +kernel
theorem dX12_laysForce_1 : decode cX12_laysForce 1 = .ok (.iload_n 1, 1) := by decide +kernel
theorem dX12_laysForce_2 : decode cX12_laysForce 2 = .ok (.invokevirtual 380, 3) := by decide +kernel
theorem dX12_laysForce_5 : decode cX12_laysForce 5 = .ok (.iconst 0, 1) := by decide +kernel
theorem dX12_laysForce_6 : decode cX12_laysForce 6 = .ok (.istore_n 3, 1) := by decide +kernel
theorem dX12_laysForce_7 : decode cX12_laysForce 7 = .ok (.iload_n 3, 1) := by decide +kernel
theorem dX12_laysForce_8 : decode cX12_laysForce 8 = .ok (.bipush 6, 2) := by decide +kernel
theorem dX12_laysForce_10 : decode cX12_laysForce 10 = .ok (.if_icmp .ge 39, 3) := by decide +kernel
theorem dX12_laysForce_13 : decode cX12_laysForce 13 = .ok (.aload_n 0, 1) := by decide +kernel
theorem dX12_laysForce_14 : decode cX12_laysForce 14 = .ok (.getfield 45, 3) := by decide +kernel
theorem dX12_laysForce_17 : decode cX12_laysForce 17 = .ok (.iload_n 3, 1) := by decide +kernel
theorem dX12_laysForce_18 : decode cX12_laysForce 18 = .ok (.iload_n 3, 1) := by decide +kernel
theorem dX12_laysForce_19 : decode cX12_laysForce 19 = .ok (.iload_n 2, 1) := by decide +kernel
theorem dX12_laysForce_20 : decode cX12_laysForce 20 = .ok (.if_icmp .ne 7, 3) := by decide +kernel
theorem dX12_laysForce_23 : decode cX12_laysForce 23 = .ok (.iconst 0, 1) := by decide +kernel
theorem dX12_laysForce_24 : decode cX12_laysForce 24 = .ok (.goto 6, 3) := by decide +kernel
theorem dX12_laysForce_27 : decode cX12_laysForce 27 = .ok (.ldc_w 383, 3) := by decide +kernel
theorem dX12_laysForce_30 : decode cX12_laysForce 30 = .ok (.iastore, 1) := by decide +kernel
theorem dX12_laysForce_31 : decode cX12_laysForce 31 = .ok (.aload_n 0, 1) := by decide +kernel
theorem dX12_laysForce_32 : decode cX12_laysForce 32 = .ok (.getfield 48, 3) := by decide +kernel
theorem dX12_laysForce_35 : decode cX12_laysForce 35 = .ok (.iload_n 3, 1) := by decide +kernel
theorem dX12_laysForce_36 : decode cX12_laysForce 36 = .ok (.aload_n 0, 1) := by decide +kernel
theorem dX12_laysForce_37 : decode cX12_laysForce 37 = .ok (.getfield 45, 3) := by decide +kernel
theorem dX12_laysForce_40 : decode cX12_laysForce 40 = .ok (.iload_n 3, 1) := by decide +kernel
theorem dX12_laysForce_41 : decode cX12_laysForce 41 = .ok (.iaload, 1) := by decide +kernel
theorem dX12_laysForce_42 : decode cX12_laysForce 42 = .ok (.iastore, 1) := by decide +kernel
theorem dX12_laysForce_43 : decode cX12_laysForce 43 = .ok (.iinc 3 1, 3) := by decide +kernel
theorem dX12_laysForce_46 : decode cX12_laysForce 46 = .ok (.goto (-39), 3) := by decide +kernel
theorem dX12_laysForce_49 : decode cX12_laysForce 49 = .ok (.iconst 1, 1) := by decide +kernel
theorem dX12_laysForce_50 : decode cX12_laysForce 50 = .ok (.istore_n 3, 1) := by decide +kernel
theorem dX12_laysForce_51 : decode cX12_laysForce 51 = .ok (.iload_n 3, 1) := by decide +kernel
theorem dX12_laysForce_52 : decode cX12_laysForce 52 = .ok (.ifCond .eq 195, 3) := by decide +kernel
theorem dX12_laysForce_55 : decode cX12_laysForce 55 = .ok (.iconst 0, 1) := by decide +kernel
theorem dX12_laysForce_56 : decode cX12_laysForce 56 = .ok (.istore_n 3, 1) := by decide +kernel
theorem dX12_laysForce_57 : decode cX12_laysForce 57 = .ok (.iconst 0, 1) := by decide +kernel
theorem dX12_laysForce_58 : decode cX12_laysForce 58 = .ok (.istore 4, 2) := by decide +kernel
theorem dX12_laysForce_60 : decode cX12_laysForce 60 = .ok (.iload 4, 2) := by decide +kernel
theorem dX12_laysForce_62 : decode cX12_laysForce 62 = .ok (.aload_n 0, 1) := by decide +kernel
theorem dX12_laysForce_63 : decode cX12_laysForce 63 = .ok (.getfield 13, 3) := by decide +kernel
theorem dX12_laysForce_66 : decode cX12_laysForce 66 = .ok (.iconst 1, 1) := by decide +kernel
theorem dX12_laysForce_67 : decode cX12_laysForce 67 = .ok (.iaload, 1) := by decide +kernel
theorem dX12_laysForce_68 : decode cX12_laysForce 68 = .ok (.if_icmp .ge 176, 3) := by decide +kernel
theorem dX12_laysForce_71 : decode cX12_laysForce 71 = .ok (.iload 4, 2) := by decide +kernel
theorem dX12_laysForce_73 : decode cX12_laysForce 73 = .ok (.iload_n 2, 1) := by decide +kernel
theorem dX12_laysForce_74 : decode cX12_laysForce 74 = .ok (.if_icmp .ne 6, 3) := by decide +kernel
theorem dX12_laysForce_77 : decode cX12_laysForce 77 = .ok (.goto 161, 3) := by decide +kernel
theorem dX12_laysForce_80 : decode cX12_laysForce 80 = .ok (.aload_n 0, 1) := by decide +kernel
theorem dX12_laysForce_81 : decode cX12_laysForce 81 = .ok (.getfield 45, 3) := by decide +kernel
theorem dX12_laysForce_84 : decode cX12_laysForce 84 = .ok (.iload 4, 2) := by decide +kernel
theorem dX12_laysForce_86 : decode cX12_laysForce 86 = .ok (.iaload, 1) := by decide +kernel
theorem dX12_laysForce_87 : decode cX12_laysForce 87 = .ok (.istore 5, 2) := by decide +kernel
theorem dX12_laysForce_89 : decode cX12_laysForce 89 = .ok (.iconst 0, 1) := by decide +kernel
theorem dX12_laysForce_90 : decode cX12_laysForce 90 = .ok (.istore 6, 2) := by decide +kernel
theorem dX12_laysForce_92 : decode cX12_laysForce 92 = .ok (.iload 6, 2) := by decide +kernel
theorem dX12_laysForce_94 : decode cX12_laysForce 94 = .ok (.aload_n 0, 1) := by decide +kernel
theorem dX12_laysForce_95 : decode cX12_laysForce 95 = .ok (.getfield 13, 3) := by decide +kernel
theorem dX12_laysForce_98 : decode cX12_laysForce 98 = .ok (.iconst 1, 1) := by decide +kernel
theorem dX12_laysForce_99 : decode cX12_laysForce 99 = .ok (.iaload, 1) := by decide +kernel
theorem dX12_laysForce_100 : decode cX12_laysForce 100 = .ok (.if_icmp .ge 58, 3) := by decide +kernel
theorem dX12_laysForce_103 : decode cX12_laysForce 103 = .ok (.aload_n 0, 1) := by decide +kernel
theorem dX12_laysForce_104 : decode cX12_laysForce 104 = .ok (.iload 4, 2) := by decide +kernel
theorem dX12_laysForce_106 : decode cX12_laysForce 106 = .ok (.iload 6, 2) := by decide +kernel
theorem dX12_laysForce_108 : decode cX12_laysForce 108 = .ok (.invokevirtual 480, 3) := by decide +kernel
theorem dX12_laysForce_111 : decode cX12_laysForce 111 = .ok (.ifCond .eq 41, 3) := by decide +kernel
theorem dX12_laysForce_114 : decode cX12_laysForce 114 = .ok (.aload_n 0, 1) := by decide +kernel
theorem dX12_laysForce_115 : decode cX12_laysForce 115 = .ok (.getfield 48, 3) := by decide +kernel
theorem dX12_laysForce_118 : decode cX12_laysForce 118 = .ok (.iload 6, 2) := by decide +kernel
theorem dX12_laysForce_120 : decode cX12_laysForce 120 = .ok (.iaload, 1) := by decide +kernel
theorem dX12_laysForce_121 : decode cX12_laysForce 121 = .ok (.ldc_w 383, 3) := by decide +kernel
theorem dX12_laysForce_124 : decode cX12_laysForce 124 = .ok (.if_icmp .ge 28, 3) := by decide +kernel
theorem dX12_laysForce_127 : decode cX12_laysForce 127 = .ok (.aload_n 0, 1) := by decide +kernel
theorem dX12_laysForce_128 : decode cX12_laysForce 128 = .ok (.getfield 48, 3) := by decide +kernel
theorem dX12_laysForce_131 : decode cX12_laysForce 131 = .ok (.iload 6, 2) := by decide +kernel
theorem dX12_laysForce_133 : decode cX12_laysForce 133 = .ok (.iaload, 1) := by decide +kernel
theorem dX12_laysForce_134 : decode cX12_laysForce 134 = .ok (.iconst 1, 1) := by decide +kernel
theorem dX12_laysForce_135 : decode cX12_laysForce 135 = .ok (.iadd, 1) := by decide +kernel
theorem dX12_laysForce_136 : decode cX12_laysForce 136 = .ok (.iload 5, 2) := by decide +kernel
theorem dX12_laysForce_138 : decode cX12_laysForce 138 = .ok (.if_icmp .ge 14, 3) := by decide +kernel
theorem dX12_laysForce_141 : decode cX12_laysForce 141 = .ok (.aload_n 0, 1) := by decide +kernel
theorem dX12_laysForce_142 : decode cX12_laysForce 142 = .ok (.getfield 48, 3) := by decide +kernel
theorem dX12_laysForce_145 : decode cX12_laysForce 145 = .ok (.iload 6, 2) := by decide +kernel
theorem dX12_laysForce_147 : decode cX12_laysForce 147 = .ok (.iaload, 1) := by decide +kernel
theorem dX12_laysForce_148 : decode cX12_laysForce 148 = .ok (.iconst 1, 1) := by decide +kernel
theorem dX12_laysForce_149 : decode cX12_laysForce 149 = .ok (.iadd, 1) := by decide +kernel
theorem dX12_laysForce_150 : decode cX12_laysForce 150 = .ok (.istore 5, 2) := by decide +kernel
theorem dX12_laysForce_152 : decode cX12_laysForce 152 = .ok (.iinc 6 1, 3) := by decide +kernel
theorem dX12_laysForce_155 : decode cX12_laysForce 155 = .ok (.goto (-63), 3) := by decide +kernel
theorem dX12_laysForce_158 : decode cX12_laysForce 158 = .ok (.aload_n 0, 1) := by decide +kernel
theorem dX12_laysForce_159 : decode cX12_laysForce 159 = .ok (.iload 4, 2) := by decide +kernel
theorem dX12_laysForce_161 : decode cX12_laysForce 161 = .ok (.invokevirtual 483, 3) := by decide +kernel
theorem dX12_laysForce_164 : decode cX12_laysForce 164 = .ok (.istore 6, 2) := by decide +kernel
theorem dX12_laysForce_166 : decode cX12_laysForce 166 = .ok (.iload_n 3, 1) := by decide +kernel
theorem dX12_laysForce_167 : decode cX12_laysForce 167 = .ok (.iload 5, 2) := by decide +kernel
theorem dX12_laysForce_169 : decode cX12_laysForce 169 = .ok (.aload_n 0, 1) := by decide +kernel
theorem dX12_laysForce_170 : decode cX12_laysForce 170 = .ok (.getfield 45, 3) := by decide +kernel
theorem dX12_laysForce_173 : decode cX12_laysForce 173 = .ok (.iload 4, 2) := by decide +kernel
theorem dX12_laysForce_175 : decode cX12_laysForce 175 = .ok (.iaload, 1) := by decide +kernel
theorem dX12_laysForce_176 : decode cX12_laysForce 176 = .ok (.if_icmp .lt 15, 3) := by decide +kernel
theorem dX12_laysForce_179 : decode cX12_laysForce 179 = .ok (.iload 6, 2) := by decide +kernel
theorem dX12_laysForce_181 : decode cX12_laysForce 181 = .ok (.aload_n 0, 1) := by decide +kernel
theorem dX12_laysForce_182 : decode cX12_laysForce 182 = .ok (.getfield 48, 3) := by decide +kernel
theorem dX12_laysForce_185 : decode cX12_laysForce 185 = .ok (.iload 4, 2) := by decide +kernel
theorem dX12_laysForce_187 : decode cX12_laysForce 187 = .ok (.iaload, 1) := by decide +kernel
theorem dX12_laysForce_188 : decode cX12_laysForce 188 = .ok (.if_icmp .ge 7, 3) := by decide +kernel
theorem dX12_laysForce_191 : decode cX12_laysForce 191 = .ok (.iconst 1, 1) := by decide +kernel
theorem dX12_laysForce_192 : decode cX12_laysForce 192 = .ok (.goto 4, 3) := by decide +kernel
theorem dX12_laysForce_195 : decode cX12_laysForce 195 = .ok (.iconst 0, 1) := by decide +kernel
theorem dX12_laysForce_196 : decode cX12_laysForce 196 = .ok (.ior, 1) := by decide +kernel
theorem dX12_laysForce_197 : decode cX12_laysForce 197 = .ok (.istore_n 3, 1) := by decide +kernel
theorem dX12_laysForce_198 : decode cX12_laysForce 198 = .ok (.aload_n 0, 1) := by decide +kernel
theorem dX12_laysForce_199 : decode cX12_laysForce 199 = .ok (.getfield 45, 3) := by decide +kernel
theorem dX12_laysForce_202 : decode cX12_laysForce 202 = .ok (.iload 4, 2) := by decide +kernel
theorem dX12_laysForce_204 : decode cX12_laysForce 204 = .ok (.iload 5, 2) := by decide +kernel
theorem dX12_laysForce_206 : decode cX12_laysForce 206 = .ok (.iastore, 1) := by decide +kernel
theorem dX12_laysForce_207 : decode cX12_laysForce 207 = .ok (.aload_n 0, 1) := by decide +kernel
theorem dX12_laysForce_208 : decode cX12_laysForce 208 = .ok (.getfield 48, 3) := by decide +kernel
theorem dX12_laysForce_211 : decode cX12_laysForce 211 = .ok (.iload 4, 2) := by decide +kernel
theorem dX12_laysForce_213 : decode cX12_laysForce 213 = .ok (.iload 6, 2) := by decide +kernel
theorem dX12_laysForce_215 : decode cX12_laysForce 215 = .ok (.aload_n 0, 1) := by decide +kernel
theorem dX12_laysForce_216 : decode cX12_laysForce 216 = .ok (.getfield 48, 3) := by decide +kernel
theorem dX12_laysForce_219 : decode cX12_laysForce 219 = .ok (.iload 4, 2) := by decide +kernel
theorem dX12_laysForce_221 : decode cX12_laysForce 221 = .ok (.iaload, 1) := by decide +kernel
theorem dX12_laysForce_222 : decode cX12_laysForce 222 = .ok (.if_icmp .ge 8, 3) := by decide +kernel
theorem dX12_laysForce_225 : decode cX12_laysForce 225 = .ok (.iload 6, 2) := by decide +kernel
theorem dX12_laysForce_227 : decode cX12_laysForce 227 = .ok (.goto 10, 3) := by decide +kernel
theorem dX12_laysForce_230 : decode cX12_laysForce 230 = .ok (.aload_n 0, 1) := by decide +kernel
theorem dX12_laysForce_231 : decode cX12_laysForce 231 = .ok (.getfield 48, 3) := by decide +kernel
theorem dX12_laysForce_234 : decode cX12_laysForce 234 = .ok (.iload 4, 2) := by decide +kernel
theorem dX12_laysForce_236 : decode cX12_laysForce 236 = .ok (.iaload, 1) := by decide +kernel
theorem dX12_laysForce_237 : decode cX12_laysForce 237 = .ok (.iastore, 1) := by decide +kernel
theorem dX12_laysForce_238 : decode cX12_laysForce 238 = .ok (.iinc 4 1, 3) := by decide +kernel
theorem dX12_laysForce_241 : decode cX12_laysForce 241 = .ok (.goto (-181), 3) := by decide +kernel
theorem dX12_laysForce_244 : decode cX12_laysForce 244 = .ok (.goto (-193), 3) := by decide +kernel
theorem dX12_laysForce_247 : decode cX12_laysForce 247 = .ok (.aload_n 0, 1) := by decide +kernel
theorem dX12_laysForce_248 : decode cX12_laysForce 248 = .ok (.getfield 45, 3) := by decide +kernel
theorem dX12_laysForce_251 : decode cX12_laysForce 251 = .ok (.aload_n 0, 1) := by decide +kernel
theorem dX12_laysForce_252 : decode cX12_laysForce 252 = .ok (.getfield 13, 3) := by decide +kernel
theorem dX12_laysForce_255 : decode cX12_laysForce 255 = .ok (.bipush 62, 2) := by decide +kernel
theorem dX12_laysForce_257 : decode cX12_laysForce 257 = .ok (.iload_n 1, 1) := by decide +kernel
theorem dX12_laysForce_258 : decode cX12_laysForce 258 = .ok (.iadd, 1) := by decide +kernel
theorem dX12_laysForce_259 : decode cX12_laysForce 259 = .ok (.iaload, 1) := by decide +kernel
theorem dX12_laysForce_260 : decode cX12_laysForce 260 = .ok (.iaload, 1) := by decide +kernel
theorem dX12_laysForce_261 : decode cX12_laysForce 261 = .ok (.ireturn, 1) := by decide +kernel
theorem dX12_forces_0 : decode cX12_forces 0 = .ok (.aload_n 0, 1) := by decide +kernel
theorem dX12_forces_1 : decode cX12_forces 1 = .ok (.iconst 0, 1) := by decide +kernel
theorem dX12_forces_2 : decode cX12_forces 2 = .ok (.putfield 1, 3) := by decide +kernel
theorem dX12_forces_5 : decode cX12_forces 5 = .ok (.aload_n 0, 1) := by decide +kernel
theorem dX12_forces_6 : decode cX12_forces 6 = .ok (.iload_n 1, 1) := by decide +kernel
theorem dX12_forces_7 : decode cX12_forces 7 = .ok (.iload_n 2, 1) := by decide +kernel
theorem dX12_forces_8 : decode cX12_forces 8 = .ok (.invokevirtual 384, 3) := by decide +kernel
theorem dX12_forces_11 : decode cX12_forces 11 = .ok (.ifCond .eq 8, 3) := by decide +kernel
theorem dX12_forces_14 : decode cX12_forces 14 = .ok (.bipush (-2), 2) := by decide +kernel
theorem dX12_forces_16 : decode cX12_forces 16 = .ok (.goto 12, 3) := by decide +kernel
theorem dX12_forces_19 : decode cX12_forces 19 = .ok (.aload_n 0, 1) := by decide +kernel
theorem dX12_forces_20 : decode cX12_forces 20 = .ok (.iload_n 1, 1) := by decide +kernel
theorem dX12_forces_21 : decode cX12_forces 21 = .ok (.iload_n 2, 1) := by decide +kernel
theorem dX12_forces_22 : decode cX12_forces 22 = .ok (.invokevirtual 486, 3) := by decide +kernel
theorem dX12_forces_25 : decode cX12_forces 25 = .ok (.invokestatic 390, 3) := by decide +kernel
theorem dX12_forces_28 : decode cX12_forces 28 = .ok (.ireturn, 1) := by decide +kernel
theorem dX12_best_0 : decode cX12_best 0 = .ok (.aload_n 0, 1) := by decide +kernel
theorem dX12_best_1 : decode cX12_best 1 = .ok (.iconst 0, 1) := by decide +kernel
theorem dX12_best_2 : decode cX12_best 2 = .ok (.putfield 1, 3) := by decide +kernel
theorem dX12_best_5 : decode cX12_best 5 = .ok (.aload_n 0, 1) := by decide +kernel
theorem dX12_best_6 : decode cX12_best 6 = .ok (.iload_n 1, 1) := by decide +kernel
theorem dX12_best_7 : decode cX12_best 7 = .ok (.iload_n 2, 1) := by decide +kernel
theorem dX12_best_8 : decode cX12_best 8 = .ok (.invokevirtual 384, 3) := by decide +kernel
theorem dX12_best_11 : decode cX12_best 11 = .ok (.ifCond .eq 6, 3) := by decide +kernel
theorem dX12_best_14 : decode cX12_best 14 = .ok (.bipush (-2), 2) := by decide +kernel
theorem dX12_best_16 : decode cX12_best 16 = .ok (.ireturn, 1) := by decide +kernel
theorem dX12_best_17 : decode cX12_best 17 = .ok (.aload_n 0, 1) := by decide +kernel
theorem dX12_best_18 : decode cX12_best 18 = .ok (.iload_n 1, 1) := by decide +kernel
theorem dX12_best_19 : decode cX12_best 19 = .ok (.iload_n 2, 1) := by decide +kernel
theorem dX12_best_20 : decode cX12_best 20 = .ok (.invokevirtual 486, 3) := by decide +kernel
theorem dX12_best_23 : decode cX12_best 23 = .ok (.istore_n 3, 1) := by decide +kernel
theorem dX12_best_24 : decode cX12_best 24 = .ok (.aload_n 0, 1) := by decide +kernel
theorem dX12_best_25 : decode cX12_best 25 = .ok (.getfield 13, 3) := by decide +kernel
theorem dX12_best_28 : decode cX12_best 28 = .ok (.bipush 62, 2) := by decide +kernel
theorem dX12_best_30 : decode cX12_best 30 = .ok (.iload_n 1, 1) := by decide +kernel
theorem dX12_best_31 : decode cX12_best 31 = .ok (.iadd, 1) := by decide +kernel
theorem dX12_best_32 : decode cX12_best 32 = .ok (.iaload, 1) := by decide +kernel
theorem dX12_best_33 : decode cX12_best 33 = .ok (.istore 4, 2) := by decide +kernel
theorem dX12_best_35 : decode cX12_best 35 = .ok (.iload_n 3, 1) := by decide +kernel
theorem dX12_best_36 : decode cX12_best 36 = .ok (.ifCond .eq 10, 3) := by decide +kernel
theorem dX12_best_39 : decode cX12_best 39 = .ok (.iload_n 3, 1) := by decide +kernel
theorem dX12_best_40 : decode cX12_best 40 = .ok (.ldc_w 383, 3) := by decide +kernel
theorem dX12_best_43 : decode cX12_best 43 = .ok (.if_icmp .ne 5, 3) := by decide +kernel
theorem dX12_best_46 : decode cX12_best 46 = .ok (.iconst (-1), 1) := by decide +kernel
theorem dX12_best_47 : decode cX12_best 47 = .ok (.ireturn, 1) := by decide +kernel
theorem dX12_best_48 : decode cX12_best 48 = .ok (.iconst 0, 1) := by decide +kernel
theorem dX12_best_49 : decode cX12_best 49 = .ok (.istore 5, 2) := by decide +kernel
theorem dX12_best_51 : decode cX12_best 51 = .ok (.iload 5, 2) := by decide +kernel
theorem dX12_best_53 : decode cX12_best 53 = .ok (.aload_n 0, 1) := by decide +kernel
theorem dX12_best_54 : decode cX12_best 54 = .ok (.getfield 13, 3) := by decide +kernel
theorem dX12_best_57 : decode cX12_best 57 = .ok (.iconst 1, 1) := by decide +kernel
theorem dX12_best_58 : decode cX12_best 58 = .ok (.iaload, 1) := by decide +kernel
theorem dX12_best_59 : decode cX12_best 59 = .ok (.if_icmp .ge 43, 3) := by decide +kernel
theorem dX12_best_62 : decode cX12_best 62 = .ok (.iload 5, 2) := by decide +kernel
theorem dX12_best_64 : decode cX12_best 64 = .ok (.iload 4, 2) := by decide +kernel
theorem dX12_best_66 : decode cX12_best 66 = .ok (.if_icmp .eq 30, 3) := by decide +kernel
theorem dX12_best_69 : decode cX12_best 69 = .ok (.aload_n 0, 1) := by decide +kernel
theorem dX12_best_70 : decode cX12_best 70 = .ok (.iload 4, 2) := by decide +kernel
theorem dX12_best_72 : decode cX12_best 72 = .ok (.iload 5, 2) := by decide +kernel
theorem dX12_best_74 : decode cX12_best 74 = .ok (.invokevirtual 480, 3) := by decide +kernel
theorem dX12_best_77 : decode cX12_best 77 = .ok (.ifCond .eq 19, 3) := by decide +kernel
theorem dX12_best_80 : decode cX12_best 80 = .ok (.aload_n 0, 1) := by decide +kernel
theorem dX12_best_81 : decode cX12_best 81 = .ok (.getfield 48, 3) := by decide +kernel
theorem dX12_best_84 : decode cX12_best 84 = .ok (.iload 5, 2) := by decide +kernel
theorem dX12_best_86 : decode cX12_best 86 = .ok (.iaload, 1) := by decide +kernel
theorem dX12_best_87 : decode cX12_best 87 = .ok (.iload_n 3, 1) := by decide +kernel
theorem dX12_best_88 : decode cX12_best 88 = .ok (.iconst 1, 1) := by decide +kernel
theorem dX12_best_89 : decode cX12_best 89 = .ok (.isub, 1) := by decide +kernel
theorem dX12_best_90 : decode cX12_best 90 = .ok (.if_icmp .ne 6, 3) := by decide +kernel
theorem dX12_best_93 : decode cX12_best 93 = .ok (.iload 5, 2) := by decide +kernel
theorem dX12_best_95 : decode cX12_best 95 = .ok (.ireturn, 1) := by decide +kernel
theorem dX12_best_96 : decode cX12_best 96 = .ok (.iinc 5 1, 3) := by decide +kernel
theorem dX12_best_99 : decode cX12_best 99 = .ok (.goto (-48), 3) := by decide +kernel
theorem dX12_best_102 : decode cX12_best 102 = .ok (.iload 4, 2) := by decide +kernel
theorem dX12_best_104 : decode cX12_best 104 = .ok (.ireturn, 1) := by decide +kernel
theorem dX12_someMay_0 : decode cX12_someMay 0 = .ok (.iconst 0, 1) := by decide +kernel
theorem dX12_someMay_1 : decode cX12_someMay 1 = .ok (.istore 4, 2) := by decide +kernel
theorem dX12_someMay_3 : decode cX12_someMay 3 = .ok (.iload 4, 2) := by decide +kernel
theorem dX12_someMay_5 : decode cX12_someMay 5 = .ok (.aload_n 0, 1) := by decide +kernel
theorem dX12_someMay_6 : decode cX12_someMay 6 = .ok (.getfield 13, 3) := by decide +kernel
theorem dX12_someMay_9 : decode cX12_someMay 9 = .ok (.iconst 3, 1) := by decide +kernel
theorem dX12_someMay_10 : decode cX12_someMay 10 = .ok (.iaload, 1) := by decide +kernel
theorem dX12_someMay_11 : decode cX12_someMay 11 = .ok (.if_icmp .ge 59, 3) := by decide +kernel
theorem dX12_someMay_14 : decode cX12_someMay 14 = .ok (.iload 4, 2) := by decide +kernel
theorem dX12_someMay_16 : decode cX12_someMay 16 = .ok (.iconst 1, 1) := by decide +kernel
theorem dX12_someMay_17 : decode cX12_someMay 17 = .ok (.iadd, 1) := by decide +kernel
theorem dX12_someMay_18 : decode cX12_someMay 18 = .ok (.istore 5, 2) := by decide +kernel
theorem dX12_someMay_20 : decode cX12_someMay 20 = .ok (.iload 5, 2) := by decide +kernel
theorem dX12_someMay_22 : decode cX12_someMay 22 = .ok (.aload_n 0, 1) := by decide +kernel
theorem dX12_someMay_23 : decode cX12_someMay 23 = .ok (.getfield 13, 3) := by decide +kernel
theorem dX12_someMay_26 : decode cX12_someMay 26 = .ok (.iconst 3, 1) := by decide +kernel
theorem dX12_someMay_27 : decode cX12_someMay 27 = .ok (.iaload, 1) := by decide +kernel
theorem dX12_someMay_28 : decode cX12_someMay 28 = .ok (.if_icmp .ge 36, 3) := by decide +kernel
theorem dX12_someMay_31 : decode cX12_someMay 31 = .ok (.aload_n 0, 1) := by decide +kernel
theorem dX12_someMay_32 : decode cX12_someMay 32 = .ok (.iload 4, 2) := by decide +kernel
theorem dX12_someMay_34 : decode cX12_someMay 34 = .ok (.iload 5, 2) := by decide +kernel
theorem dX12_someMay_36 : decode cX12_someMay 36 = .ok (.invokevirtual 264, 3) := by decide +kernel
theorem dX12_someMay_39 : decode cX12_someMay 39 = .ok (.ifCond .ne 19, 3) := by decide +kernel
theorem dX12_someMay_42 : decode cX12_someMay 42 = .ok (.aload_n 0, 1) := by decide +kernel
theorem dX12_someMay_43 : decode cX12_someMay 43 = .ok (.iload 4, 2) := by decide +kernel
theorem dX12_someMay_45 : decode cX12_someMay 45 = .ok (.iload 5, 2) := by decide +kernel
theorem dX12_someMay_47 : decode cX12_someMay 47 = .ok (.iload_n 1, 1) := by decide +kernel
theorem dX12_someMay_48 : decode cX12_someMay 48 = .ok (.iload_n 2, 1) := by decide +kernel
theorem dX12_someMay_49 : decode cX12_someMay 49 = .ok (.iload_n 3, 1) := by decide +kernel
theorem dX12_someMay_50 : decode cX12_someMay 50 = .ok (.invokevirtual 268, 3) := by decide +kernel
theorem dX12_someMay_53 : decode cX12_someMay 53 = .ok (.ifCond .eq 5, 3) := by decide +kernel
theorem dX12_someMay_56 : decode cX12_someMay 56 = .ok (.iconst 1, 1) := by decide +kernel
theorem dX12_someMay_57 : decode cX12_someMay 57 = .ok (.ireturn, 1) := by decide +kernel
theorem dX12_someMay_58 : decode cX12_someMay 58 = .ok (.iinc 5 1, 3) := by decide +kernel
theorem dX12_someMay_61 : decode cX12_someMay 61 = .ok (.goto (-41), 3) := by decide +kernel
theorem dX12_someMay_64 : decode cX12_someMay 64 = .ok (.iinc 4 1, 3) := by decide +kernel
theorem dX12_someMay_67 : decode cX12_someMay 67 = .ok (.goto (-64), 3) := by decide +kernel
theorem dX12_someMay_70 : decode cX12_someMay 70 = .ok (.iconst 0, 1) := by decide +kernel
theorem dX12_someMay_71 : decode cX12_someMay 71 = .ok (.ireturn, 1) := by decide +kernel
theorem dX12_laysLikely_0 : decode cX12_laysLikely 0 = .ok (.aload_n 0, 1) := by decide +kernel
theorem dX12_laysLikely_1 : decode cX12_laysLikely 1 = .ok (.aload_n 0, 1) := by decide +kernel
theorem dX12_laysLikely_2 : decode cX12_laysLikely 2 = .ok (.getfield 13, 3) := by decide +kernel
theorem dX12_laysLikely_5 : decode cX12_laysLikely 5 = .ok (.bipush 78, 2) := by decide +kernel
theorem dX12_laysLikely_7 : decode cX12_laysLikely 7 = .ok (.iaload, 1) := by decide +kernel
theorem dX12_laysLikely_8 : decode cX12_laysLikely 8 = .ok (.invokevirtual 285, 3) := by decide +kernel
theorem dX12_laysLikely_11 : decode cX12_laysLikely 11 = .ok (.iconst 0, 1) := by decide +kernel
theorem dX12_laysLikely_12 : decode cX12_laysLikely 12 = .ok (.istore_n 2, 1) := by decide +kernel
theorem dX12_laysLikely_13 : decode cX12_laysLikely 13 = .ok (.iload_n 2, 1) := by decide +kernel
theorem dX12_laysLikely_14 : decode cX12_laysLikely 14 = .ok (.bipush 36, 2) := by decide +kernel
theorem dX12_laysLikely_16 : decode cX12_laysLikely 16 = .ok (.if_icmp .ge 33, 3) := by decide +kernel
theorem dX12_laysLikely_19 : decode cX12_laysLikely 19 = .ok (.aload_n 0, 1) := by decide +kernel
theorem dX12_laysLikely_20 : decode cX12_laysLikely 20 = .ok (.getfield 76, 3) := by decide +kernel
theorem dX12_laysLikely_23 : decode cX12_laysLikely 23 = .ok (.iload_n 2, 1) := by decide +kernel
theorem dX12_laysLikely_24 : decode cX12_laysLikely 24 = .ok (.iload_n 2, 1) := by decide +kernel
theorem dX12_laysLikely_25 : decode cX12_laysLikely 25 = .ok (.aload_n 0, 1) := by decide +kernel
theorem dX12_laysLikely_26 : decode cX12_laysLikely 26 = .ok (.getfield 13, 3) := by decide +kernel
theorem dX12_laysLikely_29 : decode cX12_laysLikely 29 = .ok (.bipush 62, 2) := by decide +kernel
theorem dX12_laysLikely_31 : decode cX12_laysLikely 31 = .ok (.iload_n 1, 1) := by decide +kernel
theorem dX12_laysLikely_32 : decode cX12_laysLikely 32 = .ok (.iadd, 1) := by decide +kernel
theorem dX12_laysLikely_33 : decode cX12_laysLikely 33 = .ok (.iaload, 1) := by decide +kernel
theorem dX12_laysLikely_34 : decode cX12_laysLikely 34 = .ok (.if_icmp .ne 7, 3) := by decide +kernel
theorem dX12_laysLikely_37 : decode cX12_laysLikely 37 = .ok (.lconst 1, 1) := by decide +kernel
theorem dX12_laysLikely_38 : decode cX12_laysLikely 38 = .ok (.goto 4, 3) := by decide +kernel
theorem dX12_laysLikely_41 : decode cX12_laysLikely 41 = .ok (.lconst 0, 1) := by decide +kernel
theorem dX12_laysLikely_42 : decode cX12_laysLikely 42 = .ok (.lastore, 1) := by decide +kernel
theorem dX12_laysLikely_43 : decode cX12_laysLikely 43 = .ok (.iinc 2 1, 3) := by decide +kernel
theorem dX12_laysLikely_46 : decode cX12_laysLikely 46 = .ok (.goto (-33), 3) := by decide +kernel
theorem dX12_laysLikely_49 : decode cX12_laysLikely 49 = .ok (.iconst 0, 1) := by decide +kernel
theorem dX12_laysLikely_50 : decode cX12_laysLikely 50 = .ok (.istore_n 2, 1) := by decide +kernel
theorem dX12_laysLikely_51 : decode cX12_laysLikely 51 = .ok (.iload_n 2, 1) := by decide +kernel
theorem dX12_laysLikely_52 : decode cX12_laysLikely 52 = .ok (.iconst 5, 1) := by decide +kernel
theorem dX12_laysLikely_53 : decode cX12_laysLikely 53 = .ok (.if_icmp .ge 89, 3) := by decide +kernel
theorem dX12_laysLikely_56 : decode cX12_laysLikely 56 = .ok (.iconst 0, 1) := by decide +kernel
theorem dX12_laysLikely_57 : decode cX12_laysLikely 57 = .ok (.istore_n 3, 1) := by decide +kernel
theorem dX12_laysLikely_58 : decode cX12_laysLikely 58 = .ok (.iload_n 3, 1) := by decide +kernel
theorem dX12_laysLikely_59 : decode cX12_laysLikely 59 = .ok (.aload_n 0, 1) := by decide +kernel
theorem dX12_laysLikely_60 : decode cX12_laysLikely 60 = .ok (.getfield 13, 3) := by decide +kernel
theorem dX12_laysLikely_63 : decode cX12_laysLikely 63 = .ok (.iconst 2, 1) := by decide +kernel
theorem dX12_laysLikely_64 : decode cX12_laysLikely 64 = .ok (.iaload, 1) := by decide +kernel
theorem dX12_laysLikely_65 : decode cX12_laysLikely 65 = .ok (.if_icmp .ge 71, 3) := by decide +kernel
theorem dX12_laysLikely_68 : decode cX12_laysLikely 68 = .ok (.aload_n 0, 1) := by decide +kernel
theorem dX12_laysLikely_69 : decode cX12_laysLikely 69 = .ok (.iload_n 1, 1) := by decide +kernel
theorem dX12_laysLikely_70 : decode cX12_laysLikely 70 = .ok (.iload_n 2, 1) := by decide +kernel
theorem dX12_laysLikely_71 : decode cX12_laysLikely 71 = .ok (.iload_n 3, 1) := by decide +kernel
theorem dX12_laysLikely_72 : decode cX12_laysLikely 72 = .ok (.aload_n 0, 1) := by decide +kernel
theorem dX12_laysLikely_73 : decode cX12_laysLikely 73 = .ok (.getfield 13, 3) := by decide +kernel
theorem dX12_laysLikely_76 : decode cX12_laysLikely 76 = .ok (.bipush 11, 2) := by decide +kernel
theorem dX12_laysLikely_78 : decode cX12_laysLikely 78 = .ok (.iconst 3, 1) := by decide +kernel
theorem dX12_laysLikely_79 : decode cX12_laysLikely 79 = .ok (.iload_n 3, 1) := by decide +kernel
theorem dX12_laysLikely_80 : decode cX12_laysLikely 80 = .ok (.imul, 1) := by decide +kernel
theorem dX12_laysLikely_81 : decode cX12_laysLikely 81 = .ok (.iadd, 1) := by decide +kernel
theorem dX12_laysLikely_82 : decode cX12_laysLikely 82 = .ok (.iaload, 1) := by decide +kernel
theorem dX12_laysLikely_83 : decode cX12_laysLikely 83 = .ok (.aload_n 0, 1) := by decide +kernel
theorem dX12_laysLikely_84 : decode cX12_laysLikely 84 = .ok (.getfield 13, 3) := by decide +kernel
theorem dX12_laysLikely_87 : decode cX12_laysLikely 87 = .ok (.bipush 11, 2) := by decide +kernel
theorem dX12_laysLikely_89 : decode cX12_laysLikely 89 = .ok (.iconst 3, 1) := by decide +kernel
theorem dX12_laysLikely_90 : decode cX12_laysLikely 90 = .ok (.iload_n 3, 1) := by decide +kernel
theorem dX12_laysLikely_91 : decode cX12_laysLikely 91 = .ok (.imul, 1) := by decide +kernel
theorem dX12_laysLikely_92 : decode cX12_laysLikely 92 = .ok (.iadd, 1) := by decide +kernel
theorem dX12_laysLikely_93 : decode cX12_laysLikely 93 = .ok (.iconst 1, 1) := by decide +kernel
theorem dX12_laysLikely_94 : decode cX12_laysLikely 94 = .ok (.iadd, 1) := by decide +kernel
theorem dX12_laysLikely_95 : decode cX12_laysLikely 95 = .ok (.iaload, 1) := by decide +kernel
theorem dX12_laysLikely_96 : decode cX12_laysLikely 96 = .ok (.invokevirtual 489, 3) := by decide +kernel
theorem dX12_laysLikely_99 : decode cX12_laysLikely 99 = .ok (.aload_n 0, 1) := by decide +kernel
theorem dX12_laysLikely_100 : decode cX12_laysLikely 100 = .ok (.iload_n 1, 1) := by decide +kernel
theorem dX12_laysLikely_101 : decode cX12_laysLikely 101 = .ok (.iload_n 2, 1) := by decide +kernel
theorem dX12_laysLikely_102 : decode cX12_laysLikely 102 = .ok (.iload_n 3, 1) := by decide +kernel
theorem dX12_laysLikely_103 : decode cX12_laysLikely 103 = .ok (.aload_n 0, 1) := by decide +kernel
theorem dX12_laysLikely_104 : decode cX12_laysLikely 104 = .ok (.getfield 13, 3) := by decide +kernel
theorem dX12_laysLikely_107 : decode cX12_laysLikely 107 = .ok (.bipush 11, 2) := by decide +kernel
theorem dX12_laysLikely_109 : decode cX12_laysLikely 109 = .ok (.iconst 3, 1) := by decide +kernel
theorem dX12_laysLikely_110 : decode cX12_laysLikely 110 = .ok (.iload_n 3, 1) := by decide +kernel
theorem dX12_laysLikely_111 : decode cX12_laysLikely 111 = .ok (.imul, 1) := by decide +kernel
theorem dX12_laysLikely_112 : decode cX12_laysLikely 112 = .ok (.iadd, 1) := by decide +kernel
theorem dX12_laysLikely_113 : decode cX12_laysLikely 113 = .ok (.iconst 1, 1) := by decide +kernel
theorem dX12_laysLikely_114 : decode cX12_laysLikely 114 = .ok (.iadd, 1) := by decide +kernel
theorem dX12_laysLikely_115 : decode cX12_laysLikely 115 = .ok (.iaload, 1) := by decide +kernel
theorem dX12_laysLikely_116 : decode cX12_laysLikely 116 = .ok (.aload_n 0, 1) := by decide +kernel
theorem dX12_laysLikely_117 : decode cX12_laysLikely 117 = .ok (.getfield 13, 3) := by decide +kernel
theorem dX12_laysLikely_120 : decode cX12_laysLikely 120 = .ok (.bipush 11, 2) := by decide +kernel
theorem dX12_laysLikely_122 : decode cX12_laysLikely 122 = .ok (.iconst 3, 1) := by decide +kernel
theorem dX12_laysLikely_123 : decode cX12_laysLikely 123 = .ok (.iload_n 3, 1) := by decide +kernel
theorem dX12_laysLikely_124 : decode cX12_laysLikely 124 = .ok (.imul, 1) := by decide +kernel
theorem dX12_laysLikely_125 : decode cX12_laysLikely 125 = .ok (.iadd, 1) := by decide +kernel
theorem dX12_laysLikely_126 : decode cX12_laysLikely 126 = .ok (.iaload, 1) := by decide +kernel
theorem dX12_laysLikely_127 : decode cX12_laysLikely 127 = .ok (.invokevirtual 489, 3) := by decide +kernel
theorem dX12_laysLikely_130 : decode cX12_laysLikely 130 = .ok (.iinc 3 1, 3) := by decide +kernel
theorem dX12_laysLikely_133 : decode cX12_laysLikely 133 = .ok (.goto (-75), 3) := by decide +kernel
theorem dX12_laysLikely_136 : decode cX12_laysLikely 136 = .ok (.iinc 2 1, 3) := by decide +kernel
theorem dX12_laysLikely_139 : decode cX12_laysLikely 139 = .ok (.goto (-88), 3) := by decide +kernel
theorem dX12_laysLikely_142 : decode cX12_laysLikely 142 = .ok (.return_, 1) := by decide +kernel
theorem dX12_goesLikely_0 : decode cX12_goesLikely 0 = .ok (.aload_n 0, 1) := by decide +kernel
theorem dX12_goesLikely_1 : decode cX12_goesLikely 1 = .ok (.getfield 76, 3) := by decide +kernel
theorem dX12_goesLikely_4 : decode cX12_goesLikely 4 = .ok (.bipush 6, 2) := by decide +kernel
theorem dX12_goesLikely_6 : decode cX12_goesLikely 6 = .ok (.iload_n 2, 1) := by decide +kernel
theorem dX12_goesLikely_7 : decode cX12_goesLikely 7 = .ok (.imul, 1) := by decide +kernel
theorem dX12_goesLikely_8 : decode cX12_goesLikely 8 = .ok (.iload 4, 2) := by decide +kernel
theorem dX12_goesLikely_10 : decode cX12_goesLikely 10 = .ok (.iadd, 1) := by decide +kernel
theorem dX12_goesLikely_11 : decode cX12_goesLikely 11 = .ok (.laload, 1) := by decide +kernel
theorem dX12_goesLikely_12 : decode cX12_goesLikely 12 = .ok (.bipush 10, 2) := by decide +kernel
theorem dX12_goesLikely_14 : decode cX12_goesLikely 14 = .ok (.aload_n 0, 1) := by decide +kernel
theorem dX12_goesLikely_15 : decode cX12_goesLikely 15 = .ok (.iload_n 3, 1) := by decide +kernel
theorem dX12_goesLikely_16 : decode cX12_goesLikely 16 = .ok (.invokevirtual 237, 3) := by decide +kernel
theorem dX12_goesLikely_19 : decode cX12_goesLikely 19 = .ok (.isub, 1) := by decide +kernel
theorem dX12_goesLikely_20 : decode cX12_goesLikely 20 = .ok (.i2l, 1) := by decide +kernel
theorem dX12_goesLikely_21 : decode cX12_goesLikely 21 = .ok (.lmul, 1) := by decide +kernel
theorem dX12_goesLikely_22 : decode cX12_goesLikely 22 = .ok (.lstore 6, 2) := by decide +kernel
theorem dX12_goesLikely_24 : decode cX12_goesLikely 24 = .ok (.lload 6, 2) := by decide +kernel
theorem dX12_goesLikely_26 : decode cX12_goesLikely 26 = .ok (.aload_n 0, 1) := by decide +kernel
theorem dX12_goesLikely_27 : decode cX12_goesLikely 27 = .ok (.getfield 76, 3) := by decide +kernel
theorem dX12_goesLikely_30 : decode cX12_goesLikely 30 = .ok (.bipush 6, 2) := by decide +kernel
theorem dX12_goesLikely_32 : decode cX12_goesLikely 32 = .ok (.iload_n 2, 1) := by decide +kernel
theorem dX12_goesLikely_33 : decode cX12_goesLikely 33 = .ok (.iconst 1, 1) := by decide +kernel
theorem dX12_goesLikely_34 : decode cX12_goesLikely 34 = .ok (.iadd, 1) := by decide +kernel
theorem dX12_goesLikely_35 : decode cX12_goesLikely 35 = .ok (.imul, 1) := by decide +kernel
theorem dX12_goesLikely_36 : decode cX12_goesLikely 36 = .ok (.iload 5, 2) := by decide +kernel
theorem dX12_goesLikely_38 : decode cX12_goesLikely 38 = .ok (.iadd, 1) := by decide +kernel
theorem dX12_goesLikely_39 : decode cX12_goesLikely 39 = .ok (.laload, 1) := by decide +kernel
theorem dX12_goesLikely_40 : decode cX12_goesLikely 40 = .ok (.lcmp, 1) := by decide +kernel
theorem dX12_goesLikely_41 : decode cX12_goesLikely 41 = .ok (.ifCond .le 30, 3) := by decide +kernel
theorem dX12_goesLikely_44 : decode cX12_goesLikely 44 = .ok (.aload_n 0, 1) := by decide +kernel
theorem dX12_goesLikely_45 : decode cX12_goesLikely 45 = .ok (.iload_n 1, 1) := by decide +kernel
theorem dX12_goesLikely_46 : decode cX12_goesLikely 46 = .ok (.iload 4, 2) := by decide +kernel
theorem dX12_goesLikely_48 : decode cX12_goesLikely 48 = .ok (.iload_n 3, 1) := by decide +kernel
theorem dX12_goesLikely_49 : decode cX12_goesLikely 49 = .ok (.invokevirtual 492, 3) := by decide +kernel
theorem dX12_goesLikely_52 : decode cX12_goesLikely 52 = .ok (.ifCond .eq 19, 3) := by decide +kernel
theorem dX12_goesLikely_55 : decode cX12_goesLikely 55 = .ok (.aload_n 0, 1) := by decide +kernel
theorem dX12_goesLikely_56 : decode cX12_goesLikely 56 = .ok (.getfield 76, 3) := by decide +kernel
theorem dX12_goesLikely_59 : decode cX12_goesLikely 59 = .ok (.bipush 6, 2) := by decide +kernel
theorem dX12_goesLikely_61 : decode cX12_goesLikely 61 = .ok (.iload_n 2, 1) := by decide +kernel
theorem dX12_goesLikely_62 : decode cX12_goesLikely 62 = .ok (.iconst 1, 1) := by decide +kernel
theorem dX12_goesLikely_63 : decode cX12_goesLikely 63 = .ok (.iadd, 1) := by decide +kernel
theorem dX12_goesLikely_64 : decode cX12_goesLikely 64 = .ok (.imul, 1) := by decide +kernel
theorem dX12_goesLikely_65 : decode cX12_goesLikely 65 = .ok (.iload 5, 2) := by decide +kernel
theorem dX12_goesLikely_67 : decode cX12_goesLikely 67 = .ok (.iadd, 1) := by decide +kernel
theorem dX12_goesLikely_68 : decode cX12_goesLikely 68 = .ok (.lload 6, 2) := by decide +kernel
theorem dX12_goesLikely_70 : decode cX12_goesLikely 70 = .ok (.lastore, 1) := by decide +kernel
theorem dX12_goesLikely_71 : decode cX12_goesLikely 71 = .ok (.return_, 1) := by decide +kernel
theorem dX12_wholeOf_0 : decode cX12_wholeOf 0 = .ok (.lconst 1, 1) := by decide +kernel
theorem dX12_wholeOf_1 : decode cX12_wholeOf 1 = .ok (.lstore_n 1, 1) := by decide +kernel
theorem dX12_wholeOf_2 : decode cX12_wholeOf 2 = .ok (.iconst 0, 1) := by decide +kernel
theorem dX12_wholeOf_3 : decode cX12_wholeOf 3 = .ok (.istore_n 3, 1) := by decide +kernel
theorem dX12_wholeOf_4 : decode cX12_wholeOf 4 = .ok (.iload_n 3, 1) := by decide +kernel
theorem dX12_wholeOf_5 : decode cX12_wholeOf 5 = .ok (.iload_n 0, 1) := by decide +kernel
theorem dX12_wholeOf_6 : decode cX12_wholeOf 6 = .ok (.if_icmp .ge 15, 3) := by decide +kernel
theorem dX12_wholeOf_9 : decode cX12_wholeOf 9 = .ok (.lload_n 1, 1) := by decide +kernel
theorem dX12_wholeOf_10 : decode cX12_wholeOf 10 = .ok (.ldc2_w 329, 3) := by decide +kernel
theorem dX12_wholeOf_13 : decode cX12_wholeOf 13 = .ok (.lmul, 1) := by decide +kernel
theorem dX12_wholeOf_14 : decode cX12_wholeOf 14 = .ok (.lstore_n 1, 1) := by decide +kernel
theorem dX12_wholeOf_15 : decode cX12_wholeOf 15 = .ok (.iinc 3 1, 3) := by decide +kernel
theorem dX12_wholeOf_18 : decode cX12_wholeOf 18 = .ok (.goto (-14), 3) := by decide +kernel
theorem dX12_wholeOf_21 : decode cX12_wholeOf 21 = .ok (.lload_n 1, 1) := by decide +kernel
theorem dX12_wholeOf_22 : decode cX12_wholeOf 22 = .ok (.lreturn, 1) := by decide +kernel
theorem dX12_likeliestBy_0 : decode cX12_likeliestBy 0 = .ok (.iconst (-1), 1) := by decide +kernel
theorem dX12_likeliestBy_1 : decode cX12_likeliestBy 1 = .ok (.istore_n 2, 1) := by decide +kernel
theorem dX12_likeliestBy_2 : decode cX12_likeliestBy 2 = .ok (.lconst 0, 1) := by decide +kernel
theorem dX12_likeliestBy_3 : decode cX12_likeliestBy 3 = .ok (.lstore_n 3, 1) := by decide +kernel
theorem dX12_likeliestBy_4 : decode cX12_likeliestBy 4 = .ok (.iconst 0, 1) := by decide +kernel
theorem dX12_likeliestBy_5 : decode cX12_likeliestBy 5 = .ok (.istore 5, 2) := by decide +kernel
theorem dX12_likeliestBy_7 : decode cX12_likeliestBy 7 = .ok (.iload 5, 2) := by decide +kernel
theorem dX12_likeliestBy_9 : decode cX12_likeliestBy 9 = .ok (.iconst 5, 1) := by decide +kernel
theorem dX12_likeliestBy_10 : decode cX12_likeliestBy 10 = .ok (.if_icmp .gt 47, 3) := by decide +kernel
theorem dX12_likeliestBy_13 : decode cX12_likeliestBy 13 = .ok (.aload_n 0, 1) := by decide +kernel
theorem dX12_likeliestBy_14 : decode cX12_likeliestBy 14 = .ok (.getfield 76, 3) := by decide +kernel
theorem dX12_likeliestBy_17 : decode cX12_likeliestBy 17 = .ok (.bipush 6, 2) := by decide +kernel
theorem dX12_likeliestBy_19 : decode cX12_likeliestBy 19 = .ok (.iload 5, 2) := by decide +kernel
theorem dX12_likeliestBy_21 : decode cX12_likeliestBy 21 = .ok (.imul, 1) := by decide +kernel
theorem dX12_likeliestBy_22 : decode cX12_likeliestBy 22 = .ok (.iload_n 1, 1) := by decide +kernel
theorem dX12_likeliestBy_23 : decode cX12_likeliestBy 23 = .ok (.iadd, 1) := by decide +kernel
theorem dX12_likeliestBy_24 : decode cX12_likeliestBy 24 = .ok (.laload, 1) := by decide +kernel
theorem dX12_likeliestBy_25 : decode cX12_likeliestBy 25 = .ok (.iconst 5, 1) := by decide +kernel
theorem dX12_likeliestBy_26 : decode cX12_likeliestBy 26 = .ok (.iload 5, 2) := by decide +kernel
theorem dX12_likeliestBy_28 : decode cX12_likeliestBy 28 = .ok (.isub, 1) := by decide +kernel
theorem dX12_likeliestBy_29 : decode cX12_likeliestBy 29 = .ok (.invokestatic 495, 3) := by decide +kernel
theorem dX12_likeliestBy_32 : decode cX12_likeliestBy 32 = .ok (.lmul, 1) := by decide +kernel
theorem dX12_likeliestBy_33 : decode cX12_likeliestBy 33 = .ok (.lstore 6, 2) := by decide +kernel
theorem dX12_likeliestBy_35 : decode cX12_likeliestBy 35 = .ok (.lload 6, 2) := by decide +kernel
theorem dX12_likeliestBy_37 : decode cX12_likeliestBy 37 = .ok (.lload_n 3, 1) := by decide +kernel
theorem dX12_likeliestBy_38 : decode cX12_likeliestBy 38 = .ok (.lcmp, 1) := by decide +kernel
theorem dX12_likeliestBy_39 : decode cX12_likeliestBy 39 = .ok (.ifCond .gt 6, 3) := by decide +kernel
theorem dX12_likeliestBy_42 : decode cX12_likeliestBy 42 = .ok (.goto 9, 3) := by decide +kernel
theorem dX12_likeliestBy_45 : decode cX12_likeliestBy 45 = .ok (.iload 5, 2) := by decide +kernel
theorem dX12_likeliestBy_47 : decode cX12_likeliestBy 47 = .ok (.istore_n 2, 1) := by decide +kernel
theorem dX12_likeliestBy_48 : decode cX12_likeliestBy 48 = .ok (.lload 6, 2) := by decide +kernel
theorem dX12_likeliestBy_50 : decode cX12_likeliestBy 50 = .ok (.lstore_n 3, 1) := by decide +kernel
theorem dX12_likeliestBy_51 : decode cX12_likeliestBy 51 = .ok (.iinc 5 1, 3) := by decide +kernel
theorem dX12_likeliestBy_54 : decode cX12_likeliestBy 54 = .ok (.goto (-47), 3) := by decide +kernel
theorem dX12_likeliestBy_57 : decode cX12_likeliestBy 57 = .ok (.iload_n 2, 1) := by decide +kernel
theorem dX12_likeliestBy_58 : decode cX12_likeliestBy 58 = .ok (.ireturn, 1) := by decide +kernel
theorem dX12_common_0 : decode cX12_common 0 = .ok (.lload_n 2, 1) := by decide +kernel
theorem dX12_common_1 : decode cX12_common 1 = .ok (.lconst 0, 1) := by decide +kernel
theorem dX12_common_2 : decode cX12_common 2 = .ok (.lcmp, 1) := by decide +kernel
theorem dX12_common_3 : decode cX12_common 3 = .ok (.ifCond .ne 7, 3) := by decide +kernel
theorem dX12_common_6 : decode cX12_common 6 = .ok (.lload_n 0, 1) := by decide +kernel
theorem dX12_common_7 : decode cX12_common 7 = .ok (.goto 10, 3) := by decide +kernel
theorem dX12_common_10 : decode cX12_common 10 = .ok (.lload_n 2, 1) := by decide +kernel
theorem dX12_common_11 : decode cX12_common 11 = .ok (.lload_n 0, 1) := by decide +kernel
theorem dX12_common_12 : decode cX12_common 12 = .ok (.lload_n 2, 1) := by decide +kernel
theorem dX12_common_13 : decode cX12_common 13 = .ok (.lrem, 1) := by decide +kernel
theorem dX12_common_14 : decode cX12_common 14 = .ok (.invokestatic 499, 3) := by decide +kernel
theorem dX12_common_17 : decode cX12_common 17 = .ok (.lreturn, 1) := by decide +kernel
theorem dX12_chance_0 : decode cX12_chance 0 = .ok (.aload_n 0, 1) := by decide +kernel
theorem dX12_chance_1 : decode cX12_chance 1 = .ok (.iconst 0, 1) := by decide +kernel
theorem dX12_chance_2 : decode cX12_chance 2 = .ok (.putfield 1, 3) := by decide +kernel
theorem dX12_chance_5 : decode cX12_chance 5 = .ok (.aload_n 0, 1) := by decide +kernel
theorem dX12_chance_6 : decode cX12_chance 6 = .ok (.iload_n 1, 1) := by decide +kernel
theorem dX12_chance_7 : decode cX12_chance 7 = .ok (.iload_n 2, 1) := by decide +kernel
theorem dX12_chance_8 : decode cX12_chance 8 = .ok (.invokevirtual 384, 3) := by decide +kernel
theorem dX12_chance_11 : decode cX12_chance 11 = .ok (.ifCond .ne 13, 3) := by decide +kernel
theorem dX12_chance_14 : decode cX12_chance 14 = .ok (.iload_n 3, 1) := by decide +kernel
theorem dX12_chance_15 : decode cX12_chance 15 = .ok (.i2l, 1) := by decide +kernel
theorem dX12_chance_16 : decode cX12_chance 16 = .ok (.lconst 0, 1) := by decide +kernel
theorem dX12_chance_17 : decode cX12_chance 17 = .ok (.lconst 1, 1) := by decide +kernel
theorem dX12_chance_18 : decode cX12_chance 18 = .ok (.invokestatic 154, 3) := by decide +kernel
theorem dX12_chance_21 : decode cX12_chance 21 = .ok (.ifCond .ne 6, 3) := by decide +kernel
theorem dX12_chance_24 : decode cX12_chance 24 = .ok (.bipush (-2), 2) := by decide +kernel
theorem dX12_chance_26 : decode cX12_chance 26 = .ok (.ireturn, 1) := by decide +kernel
theorem dX12_chance_27 : decode cX12_chance 27 = .ok (.aload_n 0, 1) := by decide +kernel
theorem dX12_chance_28 : decode cX12_chance 28 = .ok (.iload_n 1, 1) := by decide +kernel
theorem dX12_chance_29 : decode cX12_chance 29 = .ok (.invokevirtual 503, 3) := by decide +kernel
theorem dX12_chance_32 : decode cX12_chance 32 = .ok (.aload_n 0, 1) := by decide +kernel
theorem dX12_chance_33 : decode cX12_chance 33 = .ok (.iload_n 2, 1) := by decide +kernel
theorem dX12_chance_34 : decode cX12_chance 34 = .ok (.invokevirtual 506, 3) := by decide +kernel
theorem dX12_chance_37 : decode cX12_chance 37 = .ok (.istore 4, 2) := by decide +kernel
theorem dX12_chance_39 : decode cX12_chance 39 = .ok (.iload 4, 2) := by decide +kernel
theorem dX12_chance_41 : decode cX12_chance 41 = .ok (.iconst (-1), 1) := by decide +kernel
theorem dX12_chance_42 : decode cX12_chance 42 = .ok (.if_icmp .ne 5, 3) := by decide +kernel
theorem dX12_chance_45 : decode cX12_chance 45 = .ok (.iload_n 3, 1) := by decide +kernel
theorem dX12_chance_46 : decode cX12_chance 46 = .ok (.ireturn, 1) := by decide +kernel
theorem dX12_chance_47 : decode cX12_chance 47 = .ok (.aload_n 0, 1) := by decide +kernel
theorem dX12_chance_48 : decode cX12_chance 48 = .ok (.getfield 76, 3) := by decide +kernel
theorem dX12_chance_51 : decode cX12_chance 51 = .ok (.bipush 6, 2) := by decide +kernel
theorem dX12_chance_53 : decode cX12_chance 53 = .ok (.iload 4, 2) := by decide +kernel
theorem dX12_chance_55 : decode cX12_chance 55 = .ok (.imul, 1) := by decide +kernel
theorem dX12_chance_56 : decode cX12_chance 56 = .ok (.iload_n 2, 1) := by decide +kernel
theorem dX12_chance_57 : decode cX12_chance 57 = .ok (.iadd, 1) := by decide +kernel
theorem dX12_chance_58 : decode cX12_chance 58 = .ok (.laload, 1) := by decide +kernel
theorem dX12_chance_59 : decode cX12_chance 59 = .ok (.lstore 5, 2) := by decide +kernel
theorem dX12_chance_61 : decode cX12_chance 61 = .ok (.iload_n 3, 1) := by decide +kernel
theorem dX12_chance_62 : decode cX12_chance 62 = .ok (.ifCond .ne 8, 3) := by decide +kernel
theorem dX12_chance_65 : decode cX12_chance 65 = .ok (.lload 5, 2) := by decide +kernel
theorem dX12_chance_67 : decode cX12_chance 67 = .ok (.goto 8, 3) := by decide +kernel
theorem dX12_chance_70 : decode cX12_chance 70 = .ok (.iload 4, 2) := by decide +kernel
theorem dX12_chance_72 : decode cX12_chance 72 = .ok (.invokestatic 495, 3) := by decide +kernel
theorem dX12_chance_75 : decode cX12_chance 75 = .ok (.lload 5, 2) := by decide +kernel
theorem dX12_chance_77 : decode cX12_chance 77 = .ok (.iload 4, 2) := by decide +kernel
theorem dX12_chance_79 : decode cX12_chance 79 = .ok (.invokestatic 495, 3) := by decide +kernel
theorem dX12_chance_82 : decode cX12_chance 82 = .ok (.invokestatic 499, 3) := by decide +kernel
theorem dX12_chance_85 : decode cX12_chance 85 = .ok (.ldiv, 1) := by decide +kernel
theorem dX12_chance_86 : decode cX12_chance 86 = .ok (.l2i, 1) := by decide +kernel
theorem dX12_chance_87 : decode cX12_chance 87 = .ok (.ireturn, 1) := by decide +kernel
theorem dX12_by_0 : decode cX12_by 0 = .ok (.aload_n 0, 1) := by decide +kernel
theorem dX12_by_1 : decode cX12_by 1 = .ok (.iconst 0, 1) := by decide +kernel
theorem dX12_by_2 : decode cX12_by 2 = .ok (.putfield 1, 3) := by decide +kernel
theorem dX12_by_5 : decode cX12_by 5 = .ok (.aload_n 0, 1) := by decide +kernel
theorem dX12_by_6 : decode cX12_by 6 = .ok (.iload_n 1, 1) := by decide +kernel
theorem dX12_by_7 : decode cX12_by 7 = .ok (.iload_n 2, 1) := by decide +kernel
theorem dX12_by_8 : decode cX12_by 8 = .ok (.invokevirtual 384, 3) := by decide +kernel
theorem dX12_by_11 : decode cX12_by 11 = .ok (.ifCond .eq 6, 3) := by decide +kernel
theorem dX12_by_14 : decode cX12_by 14 = .ok (.bipush (-2), 2) := by decide +kernel
theorem dX12_by_16 : decode cX12_by 16 = .ok (.ireturn, 1) := by decide +kernel
theorem dX12_by_17 : decode cX12_by 17 = .ok (.aload_n 0, 1) := by decide +kernel
theorem dX12_by_18 : decode cX12_by 18 = .ok (.iload_n 1, 1) := by decide +kernel
theorem dX12_by_19 : decode cX12_by 19 = .ok (.invokevirtual 503, 3) := by decide +kernel
theorem dX12_by_22 : decode cX12_by 22 = .ok (.aload_n 0, 1) := by decide +kernel
theorem dX12_by_23 : decode cX12_by 23 = .ok (.iload_n 2, 1) := by decide +kernel
theorem dX12_by_24 : decode cX12_by 24 = .ok (.invokevirtual 506, 3) := by decide +kernel
theorem dX12_by_27 : decode cX12_by 27 = .ok (.ireturn, 1) := by decide +kernel
theorem dX12_cut_0 : decode cX12_cut 0 = .ok (.iload_n 2, 1) := by decide +kernel
theorem dX12_cut_1 : decode cX12_cut 1 = .ok (.ifCond .ne 10, 3) := by decide +kernel
theorem dX12_cut_4 : decode cX12_cut 4 = .ok (.lload_n 0, 1) := by decide +kernel
theorem dX12_cut_5 : decode cX12_cut 5 = .ok (.l2i, 1) := by decide +kernel
theorem dX12_cut_6 : decode cX12_cut 6 = .ok (.i2b, 1) := by decide +kernel
theorem dX12_cut_7 : decode cX12_cut 7 = .ok (.i2l, 1) := by decide +kernel
theorem dX12_cut_8 : decode cX12_cut 8 = .ok (.goto 27, 3) := by decide +kernel
theorem dX12_cut_11 : decode cX12_cut 11 = .ok (.iload_n 2, 1) := by decide +kernel
theorem dX12_cut_12 : decode cX12_cut 12 = .ok (.iconst 1, 1) := by decide +kernel
theorem dX12_cut_13 : decode cX12_cut 13 = .ok (.if_icmp .ne 10, 3) := by decide +kernel
theorem dX12_cut_16 : decode cX12_cut 16 = .ok (.lload_n 0, 1) := by decide +kernel
theorem dX12_cut_17 : decode cX12_cut 17 = .ok (.l2i, 1) := by decide +kernel
theorem dX12_cut_18 : decode cX12_cut 18 = .ok (.i2s, 1) := by decide +kernel
theorem dX12_cut_19 : decode cX12_cut 19 = .ok (.i2l, 1) := by decide +kernel
theorem dX12_cut_20 : decode cX12_cut 20 = .ok (.goto 15, 3) := by decide +kernel
theorem dX12_cut_23 : decode cX12_cut 23 = .ok (.iload_n 2, 1) := by decide +kernel
theorem dX12_cut_24 : decode cX12_cut 24 = .ok (.iconst 2, 1) := by decide +kernel
theorem dX12_cut_25 : decode cX12_cut 25 = .ok (.if_icmp .ne 9, 3) := by decide +kernel
theorem dX12_cut_28 : decode cX12_cut 28 = .ok (.lload_n 0, 1) := by decide +kernel
theorem dX12_cut_29 : decode cX12_cut 29 = .ok (.l2i, 1) := by decide +kernel
theorem dX12_cut_30 : decode cX12_cut 30 = .ok (.i2l, 1) := by decide +kernel
theorem dX12_cut_31 : decode cX12_cut 31 = .ok (.goto 4, 3) := by decide +kernel
theorem dX12_cut_34 : decode cX12_cut 34 = .ok (.lload_n 0, 1) := by decide +kernel
theorem dX12_cut_35 : decode cX12_cut 35 = .ok (.lreturn, 1) := by decide +kernel
theorem dX12_numbers_0 : decode cX12_numbers 0 = .ok (.aload_n 0, 1) := by decide +kernel
theorem dX12_numbers_1 : decode cX12_numbers 1 = .ok (.iconst 0, 1) := by decide +kernel
theorem dX12_numbers_2 : decode cX12_numbers 2 = .ok (.putfield 1, 3) := by decide +kernel
theorem dX12_numbers_5 : decode cX12_numbers 5 = .ok (.iload_n 1, 1) := by decide +kernel
theorem dX12_numbers_6 : decode cX12_numbers 6 = .ok (.i2l, 1) := by decide +kernel
theorem dX12_numbers_7 : decode cX12_numbers 7 = .ok (.lconst 0, 1) := by decide +kernel
theorem dX12_numbers_8 : decode cX12_numbers 8 = .ok (.ldc2_w 354, 3) := by decide +kernel
theorem dX12_numbers_11 : decode cX12_numbers 11 = .ok (.invokestatic 154, 3) := by decide +kernel
theorem dX12_numbers_14 : decode cX12_numbers 14 = .ok (.ifCond .eq 15, 3) := by decide +kernel
theorem dX12_numbers_17 : decode cX12_numbers 17 = .ok (.iload_n 2, 1) := by decide +kernel
theorem dX12_numbers_18 : decode cX12_numbers 18 = .ok (.i2l, 1) := by decide +kernel
theorem dX12_numbers_19 : decode cX12_numbers 19 = .ok (.lconst 0, 1) := by decide +kernel
theorem dX12_numbers_20 : decode cX12_numbers 20 = .ok (.ldc2_w 354, 3) := by decide +kernel
theorem dX12_numbers_23 : decode cX12_numbers 23 = .ok (.invokestatic 154, 3) := by decide +kernel
theorem dX12_numbers_26 : decode cX12_numbers 26 = .ok (.ifCond .ne 6, 3) := by decide +kernel
theorem dX12_numbers_29 : decode cX12_numbers 29 = .ok (.bipush (-2), 2) := by decide +kernel
theorem dX12_numbers_31 : decode cX12_numbers 31 = .ok (.ireturn, 1) := by decide +kernel
theorem dX12_numbers_32 : decode cX12_numbers 32 = .ok (.iload_n 3, 1) := by decide +kernel
theorem dX12_numbers_33 : decode cX12_numbers 33 = .ok (.i2l, 1) := by decide +kernel
theorem dX12_numbers_34 : decode cX12_numbers 34 = .ok (.lconst 0, 1) := by decide +kernel
theorem dX12_numbers_35 : decode cX12_numbers 35 = .ok (.ldc2_w 375, 3) := by decide +kernel
theorem dX12_numbers_38 : decode cX12_numbers 38 = .ok (.invokestatic 154, 3) := by decide +kernel
theorem dX12_numbers_41 : decode cX12_numbers 41 = .ok (.ifCond .ne 6, 3) := by decide +kernel
theorem dX12_numbers_44 : decode cX12_numbers 44 = .ok (.bipush (-3), 2) := by decide +kernel
theorem dX12_numbers_46 : decode cX12_numbers 46 = .ok (.ireturn, 1) := by decide +kernel
theorem dX12_numbers_47 : decode cX12_numbers 47 = .ok (.aload_n 0, 1) := by decide +kernel
theorem dX12_numbers_48 : decode cX12_numbers 48 = .ok (.getfield 79, 3) := by decide +kernel
theorem dX12_numbers_51 : decode cX12_numbers 51 = .ok (.iload_n 1, 1) := by decide +kernel
theorem dX12_numbers_52 : decode cX12_numbers 52 = .ok (.iload_n 2, 1) := by decide +kernel
theorem dX12_numbers_53 : decode cX12_numbers 53 = .ok (.iastore, 1) := by decide +kernel
theorem dX12_numbers_54 : decode cX12_numbers 54 = .ok (.aload_n 0, 1) := by decide +kernel
theorem dX12_numbers_55 : decode cX12_numbers 55 = .ok (.getfield 82, 3) := by decide +kernel
theorem dX12_numbers_58 : decode cX12_numbers 58 = .ok (.iload_n 1, 1) := by decide +kernel
theorem dX12_numbers_59 : decode cX12_numbers 59 = .ok (.iload_n 3, 1) := by decide +kernel
theorem dX12_numbers_60 : decode cX12_numbers 60 = .ok (.iastore, 1) := by decide +kernel
theorem dX12_numbers_61 : decode cX12_numbers 61 = .ok (.iconst 0, 1) := by decide +kernel
theorem dX12_numbers_62 : decode cX12_numbers 62 = .ok (.istore 4, 2) := by decide +kernel
theorem dX12_numbers_64 : decode cX12_numbers 64 = .ok (.iload 4, 2) := by decide +kernel
theorem dX12_numbers_66 : decode cX12_numbers 66 = .ok (.iload_n 3, 1) := by decide +kernel
theorem dX12_numbers_67 : decode cX12_numbers 67 = .ok (.if_icmp .ge 22, 3) := by decide +kernel
theorem dX12_numbers_70 : decode cX12_numbers 70 = .ok (.aload_n 0, 1) := by decide +kernel
theorem dX12_numbers_71 : decode cX12_numbers 71 = .ok (.getfield 85, 3) := by decide +kernel
theorem dX12_numbers_74 : decode cX12_numbers 74 = .ok (.bipush 40, 2) := by decide +kernel
theorem dX12_numbers_76 : decode cX12_numbers 76 = .ok (.iload_n 1, 1) := by decide +kernel
theorem dX12_numbers_77 : decode cX12_numbers 77 = .ok (.imul, 1) := by decide +kernel
theorem dX12_numbers_78 : decode cX12_numbers 78 = .ok (.iload 4, 2) := by decide +kernel
theorem dX12_numbers_80 : decode cX12_numbers 80 = .ok (.iadd, 1) := by decide +kernel
theorem dX12_numbers_81 : decode cX12_numbers 81 = .ok (.lconst 0, 1) := by decide +kernel
theorem dX12_numbers_82 : decode cX12_numbers 82 = .ok (.lastore, 1) := by decide +kernel
theorem dX12_numbers_83 : decode cX12_numbers 83 = .ok (.iinc 4 1, 3) := by decide +kernel
theorem dX12_numbers_86 : decode cX12_numbers 86 = .ok (.goto (-22), 3) := by decide +kernel
theorem dX12_numbers_89 : decode cX12_numbers 89 = .ok (.iconst 0, 1) := by decide +kernel
theorem dX12_numbers_90 : decode cX12_numbers 90 = .ok (.ireturn, 1) := by decide +kernel
theorem dX12_write_0 : decode cX12_write 0 = .ok (.aload_n 0, 1) := by decide +kernel
theorem dX12_write_1 : decode cX12_write 1 = .ok (.iconst 0, 1) := by decide +kernel
theorem dX12_write_2 : decode cX12_write 2 = .ok (.putfield 1, 3) := by decide +kernel
theorem dX12_write_5 : decode cX12_write 5 = .ok (.aload_n 0, 1) := by decide +kernel
theorem dX12_write_6 : decode cX12_write 6 = .ok (.iload_n 1, 1) := by decide +kernel
theorem dX12_write_7 : decode cX12_write 7 = .ok (.invokevirtual 356, 3) := by decide +kernel
theorem dX12_write_10 : decode cX12_write 10 = .ok (.istore 5, 2) := by decide +kernel
theorem dX12_write_12 : decode cX12_write 12 = .ok (.iload 5, 2) := by decide +kernel
theorem dX12_write_14 : decode cX12_write 14 = .ok (.ifCond .eq 7, 3) := by decide +kernel
theorem dX12_write_17 : decode cX12_write 17 = .ok (.iload 5, 2) := by decide +kernel
theorem dX12_write_19 : decode cX12_write 19 = .ok (.i2l, 1) := by decide +kernel
theorem dX12_write_20 : decode cX12_write 20 = .ok (.lreturn, 1) := by decide +kernel
theorem dX12_write_21 : decode cX12_write 21 = .ok (.iload_n 2, 1) := by decide +kernel
theorem dX12_write_22 : decode cX12_write 22 = .ok (.i2l, 1) := by decide +kernel
theorem dX12_write_23 : decode cX12_write 23 = .ok (.lconst 0, 1) := by decide +kernel
theorem dX12_write_24 : decode cX12_write 24 = .ok (.aload_n 0, 1) := by decide +kernel
theorem dX12_write_25 : decode cX12_write 25 = .ok (.getfield 82, 3) := by decide +kernel
theorem dX12_write_28 : decode cX12_write 28 = .ok (.iload_n 1, 1) := by decide +kernel
theorem dX12_write_29 : decode cX12_write 29 = .ok (.iaload, 1) := by decide +kernel
theorem dX12_write_30 : decode cX12_write 30 = .ok (.iconst 1, 1) := by decide +kernel
theorem dX12_write_31 : decode cX12_write 31 = .ok (.isub, 1) := by decide +kernel
theorem dX12_write_32 : decode cX12_write 32 = .ok (.i2l, 1) := by decide +kernel
theorem dX12_write_33 : decode cX12_write 33 = .ok (.invokestatic 154, 3) := by decide +kernel
theorem dX12_write_36 : decode cX12_write 36 = .ok (.ifCond .ne 7, 3) := by decide +kernel
theorem dX12_write_39 : decode cX12_write 39 = .ok (.ldc2_w 509, 3) := by decide +kernel
theorem dX12_write_42 : decode cX12_write 42 = .ok (.lreturn, 1) := by decide +kernel
theorem dX12_write_43 : decode cX12_write 43 = .ok (.aload_n 0, 1) := by decide +kernel
theorem dX12_write_44 : decode cX12_write 44 = .ok (.getfield 85, 3) := by decide +kernel
theorem dX12_write_47 : decode cX12_write 47 = .ok (.bipush 40, 2) := by decide +kernel
theorem dX12_write_49 : decode cX12_write 49 = .ok (.iload_n 1, 1) := by decide +kernel
theorem dX12_write_50 : decode cX12_write 50 = .ok (.imul, 1) := by decide +kernel
theorem dX12_write_51 : decode cX12_write 51 = .ok (.iload_n 2, 1) := by decide +kernel
theorem dX12_write_52 : decode cX12_write 52 = .ok (.iadd, 1) := by decide +kernel
theorem dX12_write_53 : decode cX12_write 53 = .ok (.lload_n 3, 1) := by decide +kernel
theorem dX12_write_54 : decode cX12_write 54 = .ok (.aload_n 0, 1) := by decide +kernel
theorem dX12_write_55 : decode cX12_write 55 = .ok (.getfield 79, 3) := by decide +kernel
theorem dX12_write_58 : decode cX12_write 58 = .ok (.iload_n 1, 1) := by decide +kernel
theorem dX12_write_59 : decode cX12_write 59 = .ok (.iaload, 1) := by decide +kernel
theorem dX12_write_60 : decode cX12_write 60 = .ok (.invokestatic 511, 3) := by decide +kernel
theorem dX12_write_63 : decode cX12_write 63 = .ok (.lastore, 1) := by decide +kernel
theorem dX12_write_64 : decode cX12_write 64 = .ok (.aload_n 0, 1) := by decide +kernel
theorem dX12_write_65 : decode cX12_write 65 = .ok (.getfield 85, 3) := by decide +kernel
theorem dX12_write_68 : decode cX12_write 68 = .ok (.bipush 40, 2) := by decide +kernel
theorem dX12_write_70 : decode cX12_write 70 = .ok (.iload_n 1, 1) := by decide +kernel
theorem dX12_write_71 : decode cX12_write 71 = .ok (.imul, 1) := by decide +kernel
theorem dX12_write_72 : decode cX12_write 72 = .ok (.iload_n 2, 1) := by decide +kernel
theorem dX12_write_73 : decode cX12_write 73 = .ok (.iadd, 1) := by decide +kernel
theorem dX12_write_74 : decode cX12_write 74 = .ok (.laload, 1) := by decide +kernel
theorem dX12_write_75 : decode cX12_write 75 = .ok (.lreturn, 1) := by decide +kernel
theorem dX12_lists_0 : decode cX12_lists 0 = .ok (.aload_n 0, 1) := by decide +kernel
theorem dX12_lists_1 : decode cX12_lists 1 = .ok (.iconst 0, 1) := by decide +kernel
theorem dX12_lists_2 : decode cX12_lists 2 = .ok (.putfield 1, 3) := by decide +kernel
theorem dX12_lists_5 : decode cX12_lists 5 = .ok (.iload_n 1, 1) := by decide +kernel
theorem dX12_lists_6 : decode cX12_lists 6 = .ok (.i2l, 1) := by decide +kernel
theorem dX12_lists_7 : decode cX12_lists 7 = .ok (.lconst 0, 1) := by decide +kernel
theorem dX12_lists_8 : decode cX12_lists 8 = .ok (.ldc2_w 354, 3) := by decide +kernel
theorem dX12_lists_11 : decode cX12_lists 11 = .ok (.invokestatic 154, 3) := by decide +kernel
theorem dX12_lists_14 : decode cX12_lists 14 = .ok (.ifCond .eq 12, 3) := by decide +kernel
theorem dX12_lists_17 : decode cX12_lists 17 = .ok (.aload_n 0, 1) := by decide +kernel
theorem dX12_lists_18 : decode cX12_lists 18 = .ok (.iload_n 2, 1) := by decide +kernel
theorem dX12_lists_19 : decode cX12_lists 19 = .ok (.iload_n 3, 1) := by decide +kernel
theorem dX12_lists_20 : decode cX12_lists 20 = .ok (.invokevirtual 384, 3) := by decide +kernel
theorem dX12_lists_23 : decode cX12_lists 23 = .ok (.ifCond .eq 6, 3) := by decide +kernel
theorem dX12_lists_26 : decode cX12_lists 26 = .ok (.bipush (-2), 2) := by decide +kernel
theorem dX12_lists_28 : decode cX12_lists 28 = .ok (.ireturn, 1) := by decide +kernel
theorem dX12_lists_29 : decode cX12_lists 29 = .ok (.aload_n 0, 1) := by decide +kernel
theorem dX12_lists_30 : decode cX12_lists 30 = .ok (.iload_n 1, 1) := by decide +kernel
theorem dX12_lists_31 : decode cX12_lists 31 = .ok (.invokevirtual 356, 3) := by decide +kernel
theorem dX12_lists_34 : decode cX12_lists 34 = .ok (.istore 4, 2) := by decide +kernel
theorem dX12_lists_36 : decode cX12_lists 36 = .ok (.iload 4, 2) := by decide +kernel
theorem dX12_lists_38 : decode cX12_lists 38 = .ok (.ifCond .eq 6, 3) := by decide +kernel
theorem dX12_lists_41 : decode cX12_lists 41 = .ok (.iload 4, 2) := by decide +kernel
theorem dX12_lists_43 : decode cX12_lists 43 = .ok (.ireturn, 1) := by decide +kernel
theorem dX12_lists_44 : decode cX12_lists 44 = .ok (.aload_n 0, 1) := by decide +kernel
theorem dX12_lists_45 : decode cX12_lists 45 = .ok (.iload_n 2, 1) := by decide +kernel
theorem dX12_lists_46 : decode cX12_lists 46 = .ok (.iload_n 3, 1) := by decide +kernel
theorem dX12_lists_47 : decode cX12_lists 47 = .ok (.invokevirtual 387, 3) := by decide +kernel
theorem dX12_lists_50 : decode cX12_lists 50 = .ok (.istore 5, 2) := by decide +kernel
theorem dX12_lists_52 : decode cX12_lists 52 = .ok (.iload 5, 2) := by decide +kernel
theorem dX12_lists_54 : decode cX12_lists 54 = .ok (.ldc_w 383, 3) := by decide +kernel
theorem dX12_lists_57 : decode cX12_lists 57 = .ok (.if_icmp .ne 6, 3) := by decide +kernel
theorem dX12_lists_60 : decode cX12_lists 60 = .ok (.bipush (-5), 2) := by decide +kernel
theorem dX12_lists_62 : decode cX12_lists 62 = .ok (.ireturn, 1) := by decide +kernel
theorem dX12_lists_63 : decode cX12_lists 63 = .ok (.iload 5, 2) := by decide +kernel
theorem dX12_lists_65 : decode cX12_lists 65 = .ok (.aload_n 0, 1) := by decide +kernel
theorem dX12_lists_66 : decode cX12_lists 66 = .ok (.getfield 82, 3) := by decide +kernel
theorem dX12_lists_69 : decode cX12_lists 69 = .ok (.iload_n 1, 1) := by decide +kernel
theorem dX12_lists_70 : decode cX12_lists 70 = .ok (.iaload, 1) := by decide +kernel
theorem dX12_lists_71 : decode cX12_lists 71 = .ok (.if_icmp .ge 8, 3) := by decide +kernel
theorem dX12_lists_74 : decode cX12_lists 74 = .ok (.iload 5, 2) := by decide +kernel
theorem dX12_lists_76 : decode cX12_lists 76 = .ok (.goto 9, 3) := by decide +kernel
theorem dX12_lists_79 : decode cX12_lists 79 = .ok (.aload_n 0, 1) := by decide +kernel
theorem dX12_lists_80 : decode cX12_lists 80 = .ok (.getfield 82, 3) := by decide +kernel
theorem dX12_lists_83 : decode cX12_lists 83 = .ok (.iload_n 1, 1) := by decide +kernel
theorem dX12_lists_84 : decode cX12_lists 84 = .ok (.iaload, 1) := by decide +kernel
theorem dX12_lists_85 : decode cX12_lists 85 = .ok (.istore 6, 2) := by decide +kernel
theorem dX12_lists_87 : decode cX12_lists 87 = .ok (.iconst 0, 1) := by decide +kernel
theorem dX12_lists_88 : decode cX12_lists 88 = .ok (.istore 7, 2) := by decide +kernel
theorem dX12_lists_90 : decode cX12_lists 90 = .ok (.iload 7, 2) := by decide +kernel
theorem dX12_lists_92 : decode cX12_lists 92 = .ok (.iload 6, 2) := by decide +kernel
theorem dX12_lists_94 : decode cX12_lists 94 = .ok (.if_icmp .ge 38, 3) := by decide +kernel
theorem dX12_lists_97 : decode cX12_lists 97 = .ok (.aload_n 0, 1) := by decide +kernel
theorem dX12_lists_98 : decode cX12_lists 98 = .ok (.getfield 85, 3) := by decide +kernel
theorem dX12_lists_101 : decode cX12_lists 101 = .ok (.bipush 40, 2) := by decide +kernel
theorem dX12_lists_103 : decode cX12_lists 103 = .ok (.iload_n 1, 1) := by decide +kernel
theorem dX12_lists_104 : decode cX12_lists 104 = .ok (.imul, 1) := by decide +kernel
theorem dX12_lists_105 : decode cX12_lists 105 = .ok (.iload 7, 2) := by decide +kernel
theorem dX12_lists_107 : decode cX12_lists 107 = .ok (.iadd, 1) := by decide +kernel
theorem dX12_lists_108 : decode cX12_lists 108 = .ok (.aload_n 0, 1) := by decide +kernel
theorem dX12_lists_109 : decode cX12_lists 109 = .ok (.iload_n 2, 1) := by decide +kernel
theorem dX12_lists_110 : decode cX12_lists 110 = .ok (.iload 7, 2) := by decide +kernel
theorem dX12_lists_112 : decode cX12_lists 112 = .ok (.invokevirtual 399, 3) := by decide +kernel
theorem dX12_lists_115 : decode cX12_lists 115 = .ok (.i2l, 1) := by decide +kernel
theorem dX12_lists_116 : decode cX12_lists 116 = .ok (.aload_n 0, 1) := by decide +kernel
theorem dX12_lists_117 : decode cX12_lists 117 = .ok (.getfield 79, 3) := by decide +kernel
theorem dX12_lists_120 : decode cX12_lists 120 = .ok (.iload_n 1, 1) := by decide +kernel
theorem dX12_lists_121 : decode cX12_lists 121 = .ok (.iaload, 1) := by decide +kernel
theorem dX12_lists_122 : decode cX12_lists 122 = .ok (.invokestatic 511, 3) := by decide +kernel
theorem dX12_lists_125 : decode cX12_lists 125 = .ok (.lastore, 1) := by decide +kernel
theorem dX12_lists_126 : decode cX12_lists 126 = .ok (.iinc 7 1, 3) := by decide +kernel
theorem dX12_lists_129 : decode cX12_lists 129 = .ok (.goto (-39), 3) := by decide +kernel
theorem dX12_lists_132 : decode cX12_lists 132 = .ok (.iload 6, 2) := by decide +kernel
theorem dX12_lists_134 : decode cX12_lists 134 = .ok (.ireturn, 1) := by decide +kernel
theorem dX12_image_0 : decode cX12_image 0 = .ok (.aload_n 0, 1) := by decide +kernel
theorem dX12_image_1 : decode cX12_image 1 = .ok (.iconst 0, 1) := by decide +kernel
theorem dX12_image_2 : decode cX12_image 2 = .ok (.putfield 1, 3) := by decide +kernel
theorem dX12_image_5 : decode cX12_image 5 = .ok (.iload_n 1, 1) := by decide +kernel
theorem dX12_image_6 : decode cX12_image 6 = .ok (.i2l, 1) := by decide +kernel
theorem dX12_image_7 : decode cX12_image 7 = .ok (.lconst 0, 1) := by decide +kernel
theorem dX12_image_8 : decode cX12_image 8 = .ok (.lconst 1, 1) := by decide +kernel
theorem dX12_image_9 : decode cX12_image 9 = .ok (.invokestatic 154, 3) := by decide +kernel
theorem dX12_image_12 : decode cX12_image 12 = .ok (.ifCond .ne 6, 3) := by decide +kernel
theorem dX12_image_15 : decode cX12_image 15 = .ok (.bipush (-2), 2) := by decide +kernel
theorem dX12_image_17 : decode cX12_image 17 = .ok (.ireturn, 1) := by decide +kernel
theorem dX12_image_18 : decode cX12_image 18 = .ok (.iconst 0, 1) := by decide +kernel
theorem dX12_image_19 : decode cX12_image 19 = .ok (.istore_n 2, 1) := by decide +kernel
theorem dX12_image_20 : decode cX12_image 20 = .ok (.iload_n 2, 1) := by decide +kernel
theorem dX12_image_21 : decode cX12_image 21 = .ok (.sipush 1162, 3) := by decide +kernel
theorem dX12_image_24 : decode cX12_image 24 = .ok (.if_icmp .ge 29, 3) := by decide +kernel
theorem dX12_image_27 : decode cX12_image 27 = .ok (.aload_n 0, 1) := by decide +kernel
theorem dX12_image_28 : decode cX12_image 28 = .ok (.getfield 13, 3) := by decide +kernel
theorem dX12_image_31 : decode cX12_image 31 = .ok (.sipush 1162, 3) := by decide +kernel
theorem dX12_image_34 : decode cX12_image 34 = .ok (.iload_n 1, 1) := by decide +kernel
theorem dX12_image_35 : decode cX12_image 35 = .ok (.iconst 1, 1) := by decide +kernel
theorem dX12_image_36 : decode cX12_image 36 = .ok (.iadd, 1) := by decide +kernel
theorem dX12_image_37 : decode cX12_image 37 = .ok (.imul, 1) := by decide +kernel
theorem dX12_image_38 : decode cX12_image 38 = .ok (.iload_n 2, 1) := by decide +kernel
theorem dX12_image_39 : decode cX12_image 39 = .ok (.iadd, 1) := by decide +kernel
theorem dX12_image_40 : decode cX12_image 40 = .ok (.aload_n 0, 1) := by decide +kernel
theorem dX12_image_41 : decode cX12_image 41 = .ok (.getfield 13, 3) := by decide +kernel
theorem dX12_image_44 : decode cX12_image 44 = .ok (.iload_n 2, 1) := by decide +kernel
theorem dX12_image_45 : decode cX12_image 45 = .ok (.iaload, 1) := by decide +kernel
theorem dX12_image_46 : decode cX12_image 46 = .ok (.iastore, 1) := by decide +kernel
theorem dX12_image_47 : decode cX12_image 47 = .ok (.iinc 2 1, 3) := by decide +kernel
theorem dX12_image_50 : decode cX12_image 50 = .ok (.goto (-30), 3) := by decide +kernel
theorem dX12_image_53 : decode cX12_image 53 = .ok (.aload_n 0, 1) := by decide +kernel
theorem dX12_image_54 : decode cX12_image 54 = .ok (.getfield 17, 3) := by decide +kernel
theorem dX12_image_57 : decode cX12_image 57 = .ok (.iload_n 1, 1) := by decide +kernel
theorem dX12_image_58 : decode cX12_image 58 = .ok (.iconst 1, 1) := by decide +kernel
theorem dX12_image_59 : decode cX12_image 59 = .ok (.bastore, 1) := by decide +kernel
theorem dX12_image_60 : decode cX12_image 60 = .ok (.iconst 0, 1) := by decide +kernel
theorem dX12_image_61 : decode cX12_image 61 = .ok (.ireturn, 1) := by decide +kernel
theorem dX12_restore_0 : decode cX12_restore 0 = .ok (.aload_n 0, 1) := by decide +kernel
theorem dX12_restore_1 : decode cX12_restore 1 = .ok (.iconst 0, 1) := by decide +kernel
theorem dX12_restore_2 : decode cX12_restore 2 = .ok (.putfield 1, 3) := by decide +kernel
theorem dX12_restore_5 : decode cX12_restore 5 = .ok (.iload_n 1, 1) := by decide +kernel
theorem dX12_restore_6 : decode cX12_restore 6 = .ok (.i2l, 1) := by decide +kernel
theorem dX12_restore_7 : decode cX12_restore 7 = .ok (.lconst 0, 1) := by decide +kernel
theorem dX12_restore_8 : decode cX12_restore 8 = .ok (.lconst 1, 1) := by decide +kernel
theorem dX12_restore_9 : decode cX12_restore 9 = .ok (.invokestatic 154, 3) := by decide +kernel
theorem dX12_restore_12 : decode cX12_restore 12 = .ok (.ifCond .ne 6, 3) := by decide +kernel
theorem dX12_restore_15 : decode cX12_restore 15 = .ok (.bipush (-2), 2) := by decide +kernel
theorem dX12_restore_17 : decode cX12_restore 17 = .ok (.ireturn, 1) := by decide +kernel
theorem dX12_restore_18 : decode cX12_restore 18 = .ok (.aload_n 0, 1) := by decide +kernel
theorem dX12_restore_19 : decode cX12_restore 19 = .ok (.getfield 17, 3) := by decide +kernel
theorem dX12_restore_22 : decode cX12_restore 22 = .ok (.iload_n 1, 1) := by decide +kernel
theorem dX12_restore_23 : decode cX12_restore 23 = .ok (.baload, 1) := by decide +kernel
theorem dX12_restore_24 : decode cX12_restore 24 = .ok (.ifCond .ne 6, 3) := by decide +kernel
theorem dX12_restore_27 : decode cX12_restore 27 = .ok (.bipush (-5), 2) := by decide +kernel
theorem dX12_restore_29 : decode cX12_restore 29 = .ok (.ireturn, 1) := by decide +kernel
theorem dX12_restore_30 : decode cX12_restore 30 = .ok (.iconst 0, 1) := by decide +kernel
theorem dX12_restore_31 : decode cX12_restore 31 = .ok (.istore_n 2, 1) := by decide +kernel
theorem dX12_restore_32 : decode cX12_restore 32 = .ok (.iload_n 2, 1) := by decide +kernel
theorem dX12_restore_33 : decode cX12_restore 33 = .ok (.sipush 1162, 3) := by decide +kernel
theorem dX12_restore_36 : decode cX12_restore 36 = .ok (.if_icmp .ge 29, 3) := by decide +kernel
theorem dX12_restore_39 : decode cX12_restore 39 = .ok (.aload_n 0, 1) := by decide +kernel
theorem dX12_restore_40 : decode cX12_restore 40 = .ok (.getfield 13, 3) := by decide +kernel
theorem dX12_restore_43 : decode cX12_restore 43 = .ok (.iload_n 2, 1) := by decide +kernel
theorem dX12_restore_44 : decode cX12_restore 44 = .ok (.aload_n 0, 1) := by decide +kernel
theorem dX12_restore_45 : decode cX12_restore 45 = .ok (.getfield 13, 3) := by decide +kernel
theorem dX12_restore_48 : decode cX12_restore 48 = .ok (.sipush 1162, 3) := by decide +kernel
theorem dX12_restore_51 : decode cX12_restore 51 = .ok (.iload_n 1, 1) := by decide +kernel
theorem dX12_restore_52 : decode cX12_restore 52 = .ok (.iconst 1, 1) := by decide +kernel
theorem dX12_restore_53 : decode cX12_restore 53 = .ok (.iadd, 1) := by decide +kernel
theorem dX12_restore_54 : decode cX12_restore 54 = .ok (.imul, 1) := by decide +kernel
theorem dX12_restore_55 : decode cX12_restore 55 = .ok (.iload_n 2, 1) := by decide +kernel
theorem dX12_restore_56 : decode cX12_restore 56 = .ok (.iadd, 1) := by decide +kernel
theorem dX12_restore_57 : decode cX12_restore 57 = .ok (.iaload, 1) := by decide +kernel
theorem dX12_restore_58 : decode cX12_restore 58 = .ok (.iastore, 1) := by decide +kernel
theorem dX12_restore_59 : decode cX12_restore 59 = .ok (.iinc 2 1, 3) := by decide +kernel
theorem dX12_restore_62 : decode cX12_restore 62 = .ok (.goto (-30), 3) := by decide +kernel
theorem dX12_restore_65 : decode cX12_restore 65 = .ok (.aload_n 0, 1) := by decide +kernel
theorem dX12_restore_66 : decode cX12_restore 66 = .ok (.getfield 13, 3) := by decide +kernel
theorem dX12_restore_69 : decode cX12_restore 69 = .ok (.bipush 80, 2) := by decide +kernel
theorem dX12_restore_71 : decode cX12_restore 71 = .ok (.iconst 0, 1) := by decide +kernel
theorem dX12_restore_72 : decode cX12_restore 72 = .ok (.iastore, 1) := by decide +kernel
theorem dX12_restore_73 : decode cX12_restore 73 = .ok (.iconst 0, 1) := by decide +kernel
theorem dX12_restore_74 : decode cX12_restore 74 = .ok (.ireturn, 1) := by decide +kernel
theorem dX12_quarrelMany_0 : decode cX12_quarrelMany 0 = .ok (.iconst 0, 1) := by decide +kernel
theorem dX12_quarrelMany_1 : decode cX12_quarrelMany 1 = .ok (.istore_n 1, 1) := by decide +kernel
theorem dX12_quarrelMany_2 : decode cX12_quarrelMany 2 = .ok (.iconst 0, 1) := by decide +kernel
theorem dX12_quarrelMany_3 : decode cX12_quarrelMany 3 = .ok (.istore_n 2, 1) := by decide +kernel
theorem dX12_quarrelMany_4 : decode cX12_quarrelMany 4 = .ok (.iload_n 2, 1) := by decide +kernel
theorem dX12_quarrelMany_5 : decode cX12_quarrelMany 5 = .ok (.aload_n 0, 1) := by decide +kernel
theorem dX12_quarrelMany_6 : decode cX12_quarrelMany 6 = .ok (.getfield 13, 3) := by decide +kernel
theorem dX12_quarrelMany_9 : decode cX12_quarrelMany 9 = .ok (.iconst 3, 1) := by decide +kernel
theorem dX12_quarrelMany_10 : decode cX12_quarrelMany 10 = .ok (.iaload, 1) := by decide +kernel
theorem dX12_quarrelMany_11 : decode cX12_quarrelMany 11 = .ok (.if_icmp .ge 24, 3) := by decide +kernel
theorem dX12_quarrelMany_14 : decode cX12_quarrelMany 14 = .ok (.iload_n 1, 1) := by decide +kernel
theorem dX12_quarrelMany_15 : decode cX12_quarrelMany 15 = .ok (.aload_n 0, 1) := by decide +kernel
theorem dX12_quarrelMany_16 : decode cX12_quarrelMany 16 = .ok (.getfield 13, 3) := by decide +kernel
theorem dX12_quarrelMany_19 : decode cX12_quarrelMany 19 = .ok (.bipush 70, 2) := by decide +kernel
theorem dX12_quarrelMany_21 : decode cX12_quarrelMany 21 = .ok (.iload_n 2, 1) := by decide +kernel
theorem dX12_quarrelMany_22 : decode cX12_quarrelMany 22 = .ok (.iadd, 1) := by decide +kernel
theorem dX12_quarrelMany_23 : decode cX12_quarrelMany 23 = .ok (.iaload, 1) := by decide +kernel
theorem dX12_quarrelMany_24 : decode cX12_quarrelMany 24 = .ok (.invokestatic 430, 3) := by decide +kernel
theorem dX12_quarrelMany_27 : decode cX12_quarrelMany 27 = .ok (.iadd, 1) := by decide +kernel
theorem dX12_quarrelMany_28 : decode cX12_quarrelMany 28 = .ok (.istore_n 1, 1) := by decide +kernel
theorem dX12_quarrelMany_29 : decode cX12_quarrelMany 29 = .ok (.iinc 2 1, 3) := by decide +kernel
theorem dX12_quarrelMany_32 : decode cX12_quarrelMany 32 = .ok (.goto (-28), 3) := by decide +kernel
theorem dX12_quarrelMany_35 : decode cX12_quarrelMany 35 = .ok (.iload_n 1, 1) := by decide +kernel
theorem dX12_quarrelMany_36 : decode cX12_quarrelMany 36 = .ok (.iconst 2, 1) := by decide +kernel
theorem dX12_quarrelMany_37 : decode cX12_quarrelMany 37 = .ok (.idiv, 1) := by decide +kernel
theorem dX12_quarrelMany_38 : decode cX12_quarrelMany 38 = .ok (.ireturn, 1) := by decide +kernel
theorem dX12_count_0 : decode cX12_count 0 = .ok (.aload_n 0, 1) := by decide +kernel
theorem dX12_count_1 : decode cX12_count 1 = .ok (.iconst 0, 1) := by decide +kernel
theorem dX12_count_2 : decode cX12_count 2 = .ok (.putfield 1, 3) := by decide +kernel
theorem dX12_count_5 : decode cX12_count 5 = .ok (.iload_n 1, 1) := by decide +kernel
theorem dX12_count_6 : decode cX12_count 6 = .ok (.tableswitch 132 0 10 #[58, 65, 72, 79, 86, 94, 99, 107, 112, 120, 125], 58) := by decide +kernel
theorem dX12_count_64 : decode cX12_count 64 = .ok (.aload_n 0, 1) := by decide +kernel
theorem dX12_count_65 : decode cX12_count 65 = .ok (.getfield 13, 3) := by decide +kernel
theorem dX12_count_68 : decode cX12_count 68 = .ok (.iconst 1, 1) := by decide +kernel
theorem dX12_count_69 : decode cX12_count 69 = .ok (.iaload, 1) := by decide +kernel
theorem dX12_count_70 : decode cX12_count 70 = .ok (.ireturn, 1) := by decide +kernel
theorem dX12_count_71 : decode cX12_count 71 = .ok (.aload_n 0, 1) := by decide +kernel
theorem dX12_count_72 : decode cX12_count 72 = .ok (.getfield 13, 3) := by decide +kernel
theorem dX12_count_75 : decode cX12_count 75 = .ok (.iconst 2, 1) := by decide +kernel
theorem dX12_count_76 : decode cX12_count 76 = .ok (.iaload, 1) := by decide +kernel
theorem dX12_count_77 : decode cX12_count 77 = .ok (.ireturn, 1) := by decide +kernel
theorem dX12_count_78 : decode cX12_count 78 = .ok (.aload_n 0, 1) := by decide +kernel
theorem dX12_count_79 : decode cX12_count 79 = .ok (.getfield 13, 3) := by decide +kernel
theorem dX12_count_82 : decode cX12_count 82 = .ok (.iconst 3, 1) := by decide +kernel
theorem dX12_count_83 : decode cX12_count 83 = .ok (.iaload, 1) := by decide +kernel
theorem dX12_count_84 : decode cX12_count 84 = .ok (.ireturn, 1) := by decide +kernel
theorem dX12_count_85 : decode cX12_count 85 = .ok (.aload_n 0, 1) := by decide +kernel
theorem dX12_count_86 : decode cX12_count 86 = .ok (.getfield 13, 3) := by decide +kernel
theorem dX12_count_89 : decode cX12_count 89 = .ok (.iconst 4, 1) := by decide +kernel
theorem dX12_count_90 : decode cX12_count 90 = .ok (.iaload, 1) := by decide +kernel
theorem dX12_count_91 : decode cX12_count 91 = .ok (.ireturn, 1) := by decide +kernel
theorem dX12_count_92 : decode cX12_count 92 = .ok (.aload_n 0, 1) := by decide +kernel
theorem dX12_count_93 : decode cX12_count 93 = .ok (.getfield 13, 3) := by decide +kernel
theorem dX12_count_96 : decode cX12_count 96 = .ok (.bipush 78, 2) := by decide +kernel
theorem dX12_count_98 : decode cX12_count 98 = .ok (.iaload, 1) := by decide +kernel
theorem dX12_count_99 : decode cX12_count 99 = .ok (.ireturn, 1) := by decide +kernel
theorem dX12_count_100 : decode cX12_count 100 = .ok (.aload_n 0, 1) := by decide +kernel
theorem dX12_count_101 : decode cX12_count 101 = .ok (.invokevirtual 515, 3) := by decide +kernel
theorem dX12_count_104 : decode cX12_count 104 = .ok (.ireturn, 1) := by decide +kernel
theorem dX12_count_105 : decode cX12_count 105 = .ok (.aload_n 0, 1) := by decide +kernel
theorem dX12_count_106 : decode cX12_count 106 = .ok (.getfield 13, 3) := by decide +kernel
theorem dX12_count_109 : decode cX12_count 109 = .ok (.bipush 79, 2) := by decide +kernel
theorem dX12_count_111 : decode cX12_count 111 = .ok (.iaload, 1) := by decide +kernel
theorem dX12_count_112 : decode cX12_count 112 = .ok (.ireturn, 1) := by decide +kernel
theorem dX12_count_113 : decode cX12_count 113 = .ok (.aload_n 0, 1) := by decide +kernel
theorem dX12_count_114 : decode cX12_count 114 = .ok (.invokevirtual 362, 3) := by decide +kernel
theorem dX12_count_117 : decode cX12_count 117 = .ok (.ireturn, 1) := by decide +kernel
theorem dX12_count_118 : decode cX12_count 118 = .ok (.aload_n 0, 1) := by decide +kernel
theorem dX12_count_119 : decode cX12_count 119 = .ok (.getfield 13, 3) := by decide +kernel
theorem dX12_count_122 : decode cX12_count 122 = .ok (.bipush 80, 2) := by decide +kernel
theorem dX12_count_124 : decode cX12_count 124 = .ok (.iaload, 1) := by decide +kernel
theorem dX12_count_125 : decode cX12_count 125 = .ok (.ireturn, 1) := by decide +kernel
theorem dX12_count_126 : decode cX12_count 126 = .ok (.aload_n 0, 1) := by decide +kernel
theorem dX12_count_127 : decode cX12_count 127 = .ok (.getfield 92, 3) := by decide +kernel
theorem dX12_count_130 : decode cX12_count 130 = .ok (.ireturn, 1) := by decide +kernel
theorem dX12_count_131 : decode cX12_count 131 = .ok (.aload_n 0, 1) := by decide +kernel
theorem dX12_count_132 : decode cX12_count 132 = .ok (.getfield 13, 3) := by decide +kernel
theorem dX12_count_135 : decode cX12_count 135 = .ok (.iconst 0, 1) := by decide +kernel
theorem dX12_count_136 : decode cX12_count 136 = .ok (.iaload, 1) := by decide +kernel
theorem dX12_count_137 : decode cX12_count 137 = .ok (.ireturn, 1) := by decide +kernel
theorem dX12_count_138 : decode cX12_count 138 = .ok (.iconst (-1), 1) := by decide +kernel
theorem dX12_count_139 : decode cX12_count 139 = .ok (.ireturn, 1) := by decide +kernel
theorem dJ11_isValidCodePoint_9a6ad_0 : decode cJ11_isValidCodePoint_9a6ad 0 = .ok (.iload_n 0, 1) := by decide +kernel
theorem dJ11_isValidCodePoint_9a6ad_1 : decode cJ11_isValidCodePoint_9a6ad 1 = .ok (.bipush 16, 2) := by decide +kernel
theorem dJ11_isValidCodePoint_9a6ad_3 : decode cJ11_isValidCodePoint_9a6ad 3 = .ok (.iushr, 1) := by decide +kernel
theorem dJ11_isValidCodePoint_9a6ad_4 : decode cJ11_isValidCodePoint_9a6ad 4 = .ok (.istore_n 1, 1) := by decide +kernel
theorem dJ11_isValidCodePoint_9a6ad_5 : decode cJ11_isValidCodePoint_9a6ad 5 = .ok (.iload_n 1, 1) := by decide +kernel
theorem dJ11_isValidCodePoint_9a6ad_6 : decode cJ11_isValidCodePoint_9a6ad 6 = .ok (.bipush 17, 2) := by decide +kernel
theorem dJ11_isValidCodePoint_9a6ad_8 : decode cJ11_isValidCodePoint_9a6ad 8 = .ok (.if_icmp .ge 7, 3) := by decide +kernel
theorem dJ11_isValidCodePoint_9a6ad_11 : decode cJ11_isValidCodePoint_9a6ad 11 = .ok (.iconst 1, 1) := by decide +kernel
theorem dJ11_isValidCodePoint_9a6ad_12 : decode cJ11_isValidCodePoint_9a6ad 12 = .ok (.goto 4, 3) := by decide +kernel
theorem dJ11_isValidCodePoint_9a6ad_15 : decode cJ11_isValidCodePoint_9a6ad 15 = .ok (.iconst 0, 1) := by decide +kernel
theorem dJ11_isValidCodePoint_9a6ad_16 : decode cJ11_isValidCodePoint_9a6ad 16 = .ok (.ireturn, 1) := by decide +kernel
theorem dJ11_highSurrogate_5068e_0 : decode cJ11_highSurrogate_5068e 0 = .ok (.iload_n 0, 1) := by decide +kernel
theorem dJ11_highSurrogate_5068e_1 : decode cJ11_highSurrogate_5068e 1 = .ok (.bipush 10, 2) := by decide +kernel
theorem dJ11_highSurrogate_5068e_3 : decode cJ11_highSurrogate_5068e 3 = .ok (.iushr, 1) := by decide +kernel
theorem dJ11_highSurrogate_5068e_4 : decode cJ11_highSurrogate_5068e 4 = .ok (.ldc 110, 2) := by decide +kernel
theorem dJ11_highSurrogate_5068e_6 : decode cJ11_highSurrogate_5068e 6 = .ok (.iadd, 1) := by decide +kernel
theorem dJ11_highSurrogate_5068e_7 : decode cJ11_highSurrogate_5068e 7 = .ok (.i2c, 1) := by decide +kernel
theorem dJ11_highSurrogate_5068e_8 : decode cJ11_highSurrogate_5068e 8 = .ok (.ireturn, 1) := by decide +kernel
theorem dJ11_lowSurrogate_5068e_0 : decode cJ11_lowSurrogate_5068e 0 = .ok (.iload_n 0, 1) := by decide +kernel
theorem dJ11_lowSurrogate_5068e_1 : decode cJ11_lowSurrogate_5068e 1 = .ok (.sipush 1023, 3) := by decide +kernel
theorem dJ11_lowSurrogate_5068e_4 : decode cJ11_lowSurrogate_5068e 4 = .ok (.iand, 1) := by decide +kernel
theorem dJ11_lowSurrogate_5068e_5 : decode cJ11_lowSurrogate_5068e 5 = .ok (.ldc 76, 2) := by decide +kernel
theorem dJ11_lowSurrogate_5068e_7 : decode cJ11_lowSurrogate_5068e 7 = .ok (.iadd, 1) := by decide +kernel
theorem dJ11_lowSurrogate_5068e_8 : decode cJ11_lowSurrogate_5068e 8 = .ok (.i2c, 1) := by decide +kernel
theorem dJ11_lowSurrogate_5068e_9 : decode cJ11_lowSurrogate_5068e 9 = .ok (.ireturn, 1) := by decide +kernel
theorem dJ6_bitCount_0f7a4_0 : decode cJ6_bitCount_0f7a4 0 = .ok (.iload_n 0, 1) := by decide +kernel
theorem dJ6_bitCount_0f7a4_1 : decode cJ6_bitCount_0f7a4 1 = .ok (.iload_n 0, 1) := by decide +kernel
theorem dJ6_bitCount_0f7a4_2 : decode cJ6_bitCount_0f7a4 2 = .ok (.iconst 1, 1) := by decide +kernel
theorem dJ6_bitCount_0f7a4_3 : decode cJ6_bitCount_0f7a4 3 = .ok (.iushr, 1) := by decide +kernel
theorem dJ6_bitCount_0f7a4_4 : decode cJ6_bitCount_0f7a4 4 = .ok (.ldc_w 265, 3) := by decide +kernel
theorem dJ6_bitCount_0f7a4_7 : decode cJ6_bitCount_0f7a4 7 = .ok (.iand, 1) := by decide +kernel
theorem dJ6_bitCount_0f7a4_8 : decode cJ6_bitCount_0f7a4 8 = .ok (.isub, 1) := by decide +kernel
theorem dJ6_bitCount_0f7a4_9 : decode cJ6_bitCount_0f7a4 9 = .ok (.istore_n 0, 1) := by decide +kernel
theorem dJ6_bitCount_0f7a4_10 : decode cJ6_bitCount_0f7a4 10 = .ok (.iload_n 0, 1) := by decide +kernel
theorem dJ6_bitCount_0f7a4_11 : decode cJ6_bitCount_0f7a4 11 = .ok (.ldc_w 266, 3) := by decide +kernel
theorem dJ6_bitCount_0f7a4_14 : decode cJ6_bitCount_0f7a4 14 = .ok (.iand, 1) := by decide +kernel
theorem dJ6_bitCount_0f7a4_15 : decode cJ6_bitCount_0f7a4 15 = .ok (.iload_n 0, 1) := by decide +kernel
theorem dJ6_bitCount_0f7a4_16 : decode cJ6_bitCount_0f7a4 16 = .ok (.iconst 2, 1) := by decide +kernel
theorem dJ6_bitCount_0f7a4_17 : decode cJ6_bitCount_0f7a4 17 = .ok (.iushr, 1) := by decide +kernel
theorem dJ6_bitCount_0f7a4_18 : decode cJ6_bitCount_0f7a4 18 = .ok (.ldc_w 266, 3) := by decide +kernel
theorem dJ6_bitCount_0f7a4_21 : decode cJ6_bitCount_0f7a4 21 = .ok (.iand, 1) := by decide +kernel
theorem dJ6_bitCount_0f7a4_22 : decode cJ6_bitCount_0f7a4 22 = .ok (.iadd, 1) := by decide +kernel
theorem dJ6_bitCount_0f7a4_23 : decode cJ6_bitCount_0f7a4 23 = .ok (.istore_n 0, 1) := by decide +kernel
theorem dJ6_bitCount_0f7a4_24 : decode cJ6_bitCount_0f7a4 24 = .ok (.iload_n 0, 1) := by decide +kernel
theorem dJ6_bitCount_0f7a4_25 : decode cJ6_bitCount_0f7a4 25 = .ok (.iload_n 0, 1) := by decide +kernel
theorem dJ6_bitCount_0f7a4_26 : decode cJ6_bitCount_0f7a4 26 = .ok (.iconst 4, 1) := by decide +kernel
theorem dJ6_bitCount_0f7a4_27 : decode cJ6_bitCount_0f7a4 27 = .ok (.iushr, 1) := by decide +kernel
theorem dJ6_bitCount_0f7a4_28 : decode cJ6_bitCount_0f7a4 28 = .ok (.iadd, 1) := by decide +kernel
theorem dJ6_bitCount_0f7a4_29 : decode cJ6_bitCount_0f7a4 29 = .ok (.ldc_w 267, 3) := by decide +kernel
theorem dJ6_bitCount_0f7a4_32 : decode cJ6_bitCount_0f7a4 32 = .ok (.iand, 1) := by decide +kernel
theorem dJ6_bitCount_0f7a4_33 : decode cJ6_bitCount_0f7a4 33 = .ok (.istore_n 0, 1) := by decide +kernel
theorem dJ6_bitCount_0f7a4_34 : decode cJ6_bitCount_0f7a4 34 = .ok (.iload_n 0, 1) := by decide +kernel
theorem dJ6_bitCount_0f7a4_35 : decode cJ6_bitCount_0f7a4 35 = .ok (.iload_n 0, 1) := by decide +kernel
theorem dJ6_bitCount_0f7a4_36 : decode cJ6_bitCount_0f7a4 36 = .ok (.bipush 8, 2) := by decide +kernel
theorem dJ6_bitCount_0f7a4_38 : decode cJ6_bitCount_0f7a4 38 = .ok (.iushr, 1) := by decide +kernel
theorem dJ6_bitCount_0f7a4_39 : decode cJ6_bitCount_0f7a4 39 = .ok (.iadd, 1) := by decide +kernel
theorem dJ6_bitCount_0f7a4_40 : decode cJ6_bitCount_0f7a4 40 = .ok (.istore_n 0, 1) := by decide +kernel
theorem dJ6_bitCount_0f7a4_41 : decode cJ6_bitCount_0f7a4 41 = .ok (.iload_n 0, 1) := by decide +kernel
theorem dJ6_bitCount_0f7a4_42 : decode cJ6_bitCount_0f7a4 42 = .ok (.iload_n 0, 1) := by decide +kernel
theorem dJ6_bitCount_0f7a4_43 : decode cJ6_bitCount_0f7a4 43 = .ok (.bipush 16, 2) := by decide +kernel
theorem dJ6_bitCount_0f7a4_45 : decode cJ6_bitCount_0f7a4 45 = .ok (.iushr, 1) := by decide +kernel
theorem dJ6_bitCount_0f7a4_46 : decode cJ6_bitCount_0f7a4 46 = .ok (.iadd, 1) := by decide +kernel
theorem dJ6_bitCount_0f7a4_47 : decode cJ6_bitCount_0f7a4 47 = .ok (.istore_n 0, 1) := by decide +kernel
theorem dJ6_bitCount_0f7a4_48 : decode cJ6_bitCount_0f7a4 48 = .ok (.iload_n 0, 1) := by decide +kernel
theorem dJ6_bitCount_0f7a4_49 : decode cJ6_bitCount_0f7a4 49 = .ok (.bipush 63, 2) := by decide +kernel
theorem dJ6_bitCount_0f7a4_51 : decode cJ6_bitCount_0f7a4 51 = .ok (.iand, 1) := by decide +kernel
theorem dJ6_bitCount_0f7a4_52 : decode cJ6_bitCount_0f7a4 52 = .ok (.ireturn, 1) := by decide +kernel
theorem dJ9_floorMod_7cf53_0 : decode cJ9_floorMod_7cf53 0 = .ok (.iload_n 0, 1) := by decide +kernel
theorem dJ9_floorMod_7cf53_1 : decode cJ9_floorMod_7cf53 1 = .ok (.iload_n 1, 1) := by decide +kernel
theorem dJ9_floorMod_7cf53_2 : decode cJ9_floorMod_7cf53 2 = .ok (.irem, 1) := by decide +kernel
theorem dJ9_floorMod_7cf53_3 : decode cJ9_floorMod_7cf53 3 = .ok (.istore_n 2, 1) := by decide +kernel
theorem dJ9_floorMod_7cf53_4 : decode cJ9_floorMod_7cf53 4 = .ok (.iload_n 0, 1) := by decide +kernel
theorem dJ9_floorMod_7cf53_5 : decode cJ9_floorMod_7cf53 5 = .ok (.iload_n 1, 1) := by decide +kernel
theorem dJ9_floorMod_7cf53_6 : decode cJ9_floorMod_7cf53 6 = .ok (.ixor, 1) := by decide +kernel
theorem dJ9_floorMod_7cf53_7 : decode cJ9_floorMod_7cf53 7 = .ok (.ifCond .ge 11, 3) := by decide +kernel
theorem dJ9_floorMod_7cf53_10 : decode cJ9_floorMod_7cf53 10 = .ok (.iload_n 2, 1) := by decide +kernel
theorem dJ9_floorMod_7cf53_11 : decode cJ9_floorMod_7cf53 11 = .ok (.ifCond .eq 7, 3) := by decide +kernel
theorem dJ9_floorMod_7cf53_14 : decode cJ9_floorMod_7cf53 14 = .ok (.iload_n 2, 1) := by decide +kernel
theorem dJ9_floorMod_7cf53_15 : decode cJ9_floorMod_7cf53 15 = .ok (.iload_n 1, 1) := by decide +kernel
theorem dJ9_floorMod_7cf53_16 : decode cJ9_floorMod_7cf53 16 = .ok (.iadd, 1) := by decide +kernel
theorem dJ9_floorMod_7cf53_17 : decode cJ9_floorMod_7cf53 17 = .ok (.ireturn, 1) := by decide +kernel
theorem dJ9_floorMod_7cf53_18 : decode cJ9_floorMod_7cf53 18 = .ok (.iload_n 2, 1) := by decide +kernel
theorem dJ9_floorMod_7cf53_19 : decode cJ9_floorMod_7cf53 19 = .ok (.ireturn, 1) := by decide +kernel
theorem dJ9_max_7cf53_0 : decode cJ9_max_7cf53 0 = .ok (.iload_n 0, 1) := by decide +kernel
theorem dJ9_max_7cf53_1 : decode cJ9_max_7cf53 1 = .ok (.iload_n 1, 1) := by decide +kernel
theorem dJ9_max_7cf53_2 : decode cJ9_max_7cf53 2 = .ok (.if_icmp .lt 7, 3) := by decide +kernel
theorem dJ9_max_7cf53_5 : decode cJ9_max_7cf53 5 = .ok (.iload_n 0, 1) := by decide +kernel
theorem dJ9_max_7cf53_6 : decode cJ9_max_7cf53 6 = .ok (.goto 4, 3) := by decide +kernel
theorem dJ9_max_7cf53_9 : decode cJ9_max_7cf53 9 = .ok (.iload_n 1, 1) := by decide +kernel
theorem dJ9_max_7cf53_10 : decode cJ9_max_7cf53 10 = .ok (.ireturn, 1) := by decide +kernel
theorem dJ9_min_7cf53_0 : decode cJ9_min_7cf53 0 = .ok (.iload_n 0, 1) := by decide +kernel
theorem dJ9_min_7cf53_1 : decode cJ9_min_7cf53 1 = .ok (.iload_n 1, 1) := by decide +kernel
theorem dJ9_min_7cf53_2 : decode cJ9_min_7cf53 2 = .ok (.if_icmp .gt 7, 3) := by decide +kernel
theorem dJ9_min_7cf53_5 : decode cJ9_min_7cf53 5 = .ok (.iload_n 0, 1) := by decide +kernel
theorem dJ9_min_7cf53_6 : decode cJ9_min_7cf53 6 = .ok (.goto 4, 3) := by decide +kernel
theorem dJ9_min_7cf53_9 : decode cJ9_min_7cf53 9 = .ok (.iload_n 1, 1) := by decide +kernel
theorem dJ9_min_7cf53_10 : decode cJ9_min_7cf53 10 = .ok (.ireturn, 1) := by decide +kernel
theorem dJ0_length_8abf5_0 : decode cJ0_length_8abf5 0 = .ok (.aload_n 0, 1) := by decide +kernel
theorem dJ0_length_8abf5_1 : decode cJ0_length_8abf5 1 = .ok (.getfield 9, 3) := by decide +kernel
theorem dJ0_length_8abf5_4 : decode cJ0_length_8abf5 4 = .ok (.arraylength, 1) := by decide +kernel
theorem dJ0_length_8abf5_5 : decode cJ0_length_8abf5 5 = .ok (.aload_n 0, 1) := by decide +kernel
theorem dJ0_length_8abf5_6 : decode cJ0_length_8abf5 6 = .ok (.invokevirtual 335, 3) := by decide +kernel
theorem dJ0_length_8abf5_9 : decode cJ0_length_8abf5 9 = .ok (.ishr, 1) := by decide +kernel
theorem dJ0_length_8abf5_10 : decode cJ0_length_8abf5 10 = .ok (.ireturn, 1) := by decide +kernel
theorem dJ0_charAt_5068e_0 : decode cJ0_charAt_5068e 0 = .ok (.aload_n 0, 1) := by decide +kernel
theorem dJ0_charAt_5068e_1 : decode cJ0_charAt_5068e 1 = .ok (.invokevirtual 492, 3) := by decide +kernel
theorem dJ0_charAt_5068e_4 : decode cJ0_charAt_5068e 4 = .ok (.ifCond .eq 12, 3) := by decide +kernel
theorem dJ0_charAt_5068e_7 : decode cJ0_charAt_5068e 7 = .ok (.aload_n 0, 1) := by decide +kernel
theorem dJ0_charAt_5068e_8 : decode cJ0_charAt_5068e 8 = .ok (.getfield 9, 3) := by decide +kernel
theorem dJ0_charAt_5068e_11 : decode cJ0_charAt_5068e 11 = .ok (.iload_n 1, 1) := by decide +kernel
theorem dJ0_charAt_5068e_12 : decode cJ0_charAt_5068e 12 = .ok (.invokestatic 495, 3) := by decide +kernel
theorem dJ0_charAt_5068e_15 : decode cJ0_charAt_5068e 15 = .ok (.ireturn, 1) := by decide +kernel
theorem dJ0_charAt_5068e_16 : decode cJ0_charAt_5068e 16 = .ok (.aload_n 0, 1) := by decide +kernel
theorem dJ0_charAt_5068e_17 : decode cJ0_charAt_5068e 17 = .ok (.getfield 9, 3) := by decide +kernel
theorem dJ0_charAt_5068e_20 : decode cJ0_charAt_5068e 20 = .ok (.iload_n 1, 1) := by decide +kernel
theorem dJ0_charAt_5068e_21 : decode cJ0_charAt_5068e 21 = .ok (.invokestatic 498, 3) := by decide +kernel
theorem dJ0_charAt_5068e_24 : decode cJ0_charAt_5068e 24 = .ok (.ireturn, 1) := by decide +kernel
theorem dJ0_indexOf_0f7a4_0 : decode cJ0_indexOf_0f7a4 0 = .ok (.aload_n 0, 1) := by decide +kernel
theorem dJ0_indexOf_0f7a4_1 : decode cJ0_indexOf_0f7a4 1 = .ok (.iload_n 1, 1) := by decide +kernel
theorem dJ0_indexOf_0f7a4_2 : decode cJ0_indexOf_0f7a4 2 = .ok (.iconst 0, 1) := by decide +kernel
theorem dJ0_indexOf_0f7a4_3 : decode cJ0_indexOf_0f7a4 3 = .ok (.invokevirtual 633, 3) := by decide +kernel
theorem dJ0_indexOf_0f7a4_6 : decode cJ0_indexOf_0f7a4 6 = .ok (.ireturn, 1) := by decide +kernel
theorem dJ0_indexOf_7cf53_0 : decode cJ0_indexOf_7cf53 0 = .ok (.aload_n 0, 1) := by decide +kernel
theorem dJ0_indexOf_7cf53_1 : decode cJ0_indexOf_7cf53 1 = .ok (.invokevirtual 492, 3) := by decide +kernel
theorem dJ0_indexOf_7cf53_4 : decode cJ0_indexOf_7cf53 4 = .ok (.ifCond .eq 19, 3) := by decide +kernel
theorem dJ0_indexOf_7cf53_7 : decode cJ0_indexOf_7cf53 7 = .ok (.aload_n 0, 1) := by decide +kernel
theorem dJ0_indexOf_7cf53_8 : decode cJ0_indexOf_7cf53 8 = .ok (.getfield 9, 3) := by decide +kernel
theorem dJ0_indexOf_7cf53_11 : decode cJ0_indexOf_7cf53 11 = .ok (.iload_n 1, 1) := by decide +kernel
theorem dJ0_indexOf_7cf53_12 : decode cJ0_indexOf_7cf53 12 = .ok (.iload_n 2, 1) := by decide +kernel
theorem dJ0_indexOf_7cf53_13 : decode cJ0_indexOf_7cf53 13 = .ok (.aload_n 0, 1) := by decide +kernel
theorem dJ0_indexOf_7cf53_14 : decode cJ0_indexOf_7cf53 14 = .ok (.invokevirtual 505, 3) := by decide +kernel
theorem dJ0_indexOf_7cf53_17 : decode cJ0_indexOf_7cf53 17 = .ok (.invokestatic 637, 3) := by decide +kernel
theorem dJ0_indexOf_7cf53_20 : decode cJ0_indexOf_7cf53 20 = .ok (.goto 16, 3) := by decide +kernel
theorem dJ0_indexOf_7cf53_23 : decode cJ0_indexOf_7cf53 23 = .ok (.aload_n 0, 1) := by decide +kernel
theorem dJ0_indexOf_7cf53_24 : decode cJ0_indexOf_7cf53 24 = .ok (.getfield 9, 3) := by decide +kernel
theorem dJ0_indexOf_7cf53_27 : decode cJ0_indexOf_7cf53 27 = .ok (.iload_n 1, 1) := by decide +kernel
theorem dJ0_indexOf_7cf53_28 : decode cJ0_indexOf_7cf53 28 = .ok (.iload_n 2, 1) := by decide +kernel
theorem dJ0_indexOf_7cf53_29 : decode cJ0_indexOf_7cf53 29 = .ok (.aload_n 0, 1) := by decide +kernel
theorem dJ0_indexOf_7cf53_30 : decode cJ0_indexOf_7cf53 30 = .ok (.invokevirtual 505, 3) := by decide +kernel
theorem dJ0_indexOf_7cf53_33 : decode cJ0_indexOf_7cf53 33 = .ok (.invokestatic 640, 3) := by decide +kernel
theorem dJ0_indexOf_7cf53_36 : decode cJ0_indexOf_7cf53 36 = .ok (.ireturn, 1) := by decide +kernel
theorem dJ0_coder_7d493_0 : decode cJ0_coder_7d493 0 = .ok (.getstatic 38, 3) := by decide +kernel
theorem dJ0_coder_7d493_3 : decode cJ0_coder_7d493 3 = .ok (.ifCond .eq 10, 3) := by decide +kernel
theorem dJ0_coder_7d493_6 : decode cJ0_coder_7d493 6 = .ok (.aload_n 0, 1) := by decide +kernel
theorem dJ0_coder_7d493_7 : decode cJ0_coder_7d493 7 = .ok (.getfield 15, 3) := by decide +kernel
theorem dJ0_coder_7d493_10 : decode cJ0_coder_7d493 10 = .ok (.goto 4, 3) := by decide +kernel
theorem dJ0_coder_7d493_13 : decode cJ0_coder_7d493 13 = .ok (.iconst 1, 1) := by decide +kernel
theorem dJ0_coder_7d493_14 : decode cJ0_coder_7d493 14 = .ok (.ireturn, 1) := by decide +kernel
theorem dJ0_isLatin1_aae02_0 : decode cJ0_isLatin1_aae02 0 = .ok (.getstatic 38, 3) := by decide +kernel
theorem dJ0_isLatin1_aae02_3 : decode cJ0_isLatin1_aae02 3 = .ok (.ifCond .eq 14, 3) := by decide +kernel
theorem dJ0_isLatin1_aae02_6 : decode cJ0_isLatin1_aae02 6 = .ok (.aload_n 0, 1) := by decide +kernel
theorem dJ0_isLatin1_aae02_7 : decode cJ0_isLatin1_aae02 7 = .ok (.getfield 15, 3) := by decide +kernel
theorem dJ0_isLatin1_aae02_10 : decode cJ0_isLatin1_aae02 10 = .ok (.ifCond .ne 7, 3) := by decide +kernel
theorem dJ0_isLatin1_aae02_13 : decode cJ0_isLatin1_aae02 13 = .ok (.iconst 1, 1) := by decide +kernel
theorem dJ0_isLatin1_aae02_14 : decode cJ0_isLatin1_aae02 14 = .ok (.goto 4, 3) := by decide +kernel
theorem dJ0_isLatin1_aae02_17 : decode cJ0_isLatin1_aae02 17 = .ok (.iconst 0, 1) := by decide +kernel
theorem dJ0_isLatin1_aae02_18 : decode cJ0_isLatin1_aae02 18 = .ok (.ireturn, 1) := by decide +kernel
theorem dJ0_checkIndex_df160_0 : decode cJ0_checkIndex_df160 0 = .ok (.iload_n 0, 1) := by decide +kernel
theorem dJ0_checkIndex_df160_1 : decode cJ0_checkIndex_df160 1 = .ok (.iload_n 1, 1) := by decide +kernel
theorem dJ0_checkIndex_df160_2 : decode cJ0_checkIndex_df160 2 = .ok (.getstatic 1053, 3) := by decide +kernel
theorem dJ0_checkIndex_df160_5 : decode cJ0_checkIndex_df160 5 = .ok (.invokestatic 1059, 3) := by decide +kernel
theorem dJ0_checkIndex_df160_8 : decode cJ0_checkIndex_df160 8 = .ok (.pop, 1) := by decide +kernel
theorem dJ0_checkIndex_df160_9 : decode cJ0_checkIndex_df160 9 = .ok (.return_, 1) := by decide +kernel
theorem dJ0_checkBoundsBeginEnd_23922_0 : decode cJ0_checkBoundsBeginEnd_23922 0 = .ok (.iload_n 0, 1) := by decide +kernel
theorem dJ0_checkBoundsBeginEnd_23922_1 : decode cJ0_checkBoundsBeginEnd_23922 1 = .ok (.iload_n 1, 1) := by decide +kernel
theorem dJ0_checkBoundsBeginEnd_23922_2 : decode cJ0_checkBoundsBeginEnd_23922 2 = .ok (.iload_n 2, 1) := by decide +kernel
theorem dJ0_checkBoundsBeginEnd_23922_3 : decode cJ0_checkBoundsBeginEnd_23922 3 = .ok (.getstatic 1053, 3) := by decide +kernel
theorem dJ0_checkBoundsBeginEnd_23922_6 : decode cJ0_checkBoundsBeginEnd_23922 6 = .ok (.invokestatic 1062, 3) := by decide +kernel
theorem dJ0_checkBoundsBeginEnd_23922_9 : decode cJ0_checkBoundsBeginEnd_23922 9 = .ok (.pop, 1) := by decide +kernel
theorem dJ0_checkBoundsBeginEnd_23922_10 : decode cJ0_checkBoundsBeginEnd_23922 10 = .ok (.return_, 1) := by decide +kernel
theorem dJ1_charAt_3b067_0 : decode cJ1_charAt_3b067 0 = .ok (.iload_n 1, 1) := by decide +kernel
theorem dJ1_charAt_3b067_1 : decode cJ1_charAt_3b067 1 = .ok (.aload_n 0, 1) := by decide +kernel
theorem dJ1_charAt_3b067_2 : decode cJ1_charAt_3b067 2 = .ok (.arraylength, 1) := by decide +kernel
theorem dJ1_charAt_3b067_3 : decode cJ1_charAt_3b067 3 = .ok (.invokestatic 9, 3) := by decide +kernel
theorem dJ1_charAt_3b067_6 : decode cJ1_charAt_3b067 6 = .ok (.aload_n 0, 1) := by decide +kernel
theorem dJ1_charAt_3b067_7 : decode cJ1_charAt_3b067 7 = .ok (.iload_n 1, 1) := by decide +kernel
theorem dJ1_charAt_3b067_8 : decode cJ1_charAt_3b067 8 = .ok (.baload, 1) := by decide +kernel
theorem dJ1_charAt_3b067_9 : decode cJ1_charAt_3b067 9 = .ok (.sipush 255, 3) := by decide +kernel
theorem dJ1_charAt_3b067_12 : decode cJ1_charAt_3b067 12 = .ok (.iand, 1) := by decide +kernel
theorem dJ1_charAt_3b067_13 : decode cJ1_charAt_3b067 13 = .ok (.i2c, 1) := by decide +kernel
theorem dJ1_charAt_3b067_14 : decode cJ1_charAt_3b067 14 = .ok (.ireturn, 1) := by decide +kernel
theorem dJ1_canEncode_9a6ad_0 : decode cJ1_canEncode_9a6ad 0 = .ok (.iload_n 0, 1) := by decide +kernel
theorem dJ1_canEncode_9a6ad_1 : decode cJ1_canEncode_9a6ad 1 = .ok (.ifCond .lt 14, 3) := by decide +kernel
theorem dJ1_canEncode_9a6ad_4 : decode cJ1_canEncode_9a6ad 4 = .ok (.iload_n 0, 1) := by decide +kernel
theorem dJ1_canEncode_9a6ad_5 : decode cJ1_canEncode_9a6ad 5 = .ok (.sipush 255, 3) := by decide +kernel
theorem dJ1_canEncode_9a6ad_8 : decode cJ1_canEncode_9a6ad 8 = .ok (.if_icmp .gt 7, 3) := by decide +kernel
theorem dJ1_canEncode_9a6ad_11 : decode cJ1_canEncode_9a6ad 11 = .ok (.iconst 1, 1) := by decide +kernel
theorem dJ1_canEncode_9a6ad_12 : decode cJ1_canEncode_9a6ad 12 = .ok (.goto 4, 3) := by decide +kernel
theorem dJ1_canEncode_9a6ad_15 : decode cJ1_canEncode_9a6ad 15 = .ok (.iconst 0, 1) := by decide +kernel
theorem dJ1_canEncode_9a6ad_16 : decode cJ1_canEncode_9a6ad 16 = .ok (.ireturn, 1) := by decide +kernel
theorem dJ1_indexOf_4cfef_0 : decode cJ1_indexOf_4cfef 0 = .ok (.iload_n 1, 1) := by decide +kernel
theorem dJ1_indexOf_4cfef_1 : decode cJ1_indexOf_4cfef 1 = .ok (.invokestatic 88, 3) := by decide +kernel
theorem dJ1_indexOf_4cfef_4 : decode cJ1_indexOf_4cfef 4 = .ok (.ifCond .ne 5, 3) := by decide +kernel
theorem dJ1_indexOf_4cfef_7 : decode cJ1_indexOf_4cfef 7 = .ok (.iconst (-1), 1) := by decide +kernel
theorem dJ1_indexOf_4cfef_8 : decode cJ1_indexOf_4cfef 8 = .ok (.ireturn, 1) := by decide +kernel
theorem dJ1_indexOf_4cfef_9 : decode cJ1_indexOf_4cfef 9 = .ok (.iload_n 2, 1) := by decide +kernel
theorem dJ1_indexOf_4cfef_10 : decode cJ1_indexOf_4cfef 10 = .ok (.iconst 0, 1) := by decide +kernel
theorem dJ1_indexOf_4cfef_11 : decode cJ1_indexOf_4cfef 11 = .ok (.invokestatic 92, 3) := by decide +kernel
theorem dJ1_indexOf_4cfef_14 : decode cJ1_indexOf_4cfef 14 = .ok (.istore_n 2, 1) := by decide +kernel
theorem dJ1_indexOf_4cfef_15 : decode cJ1_indexOf_4cfef 15 = .ok (.iload_n 3, 1) := by decide +kernel
theorem dJ1_indexOf_4cfef_16 : decode cJ1_indexOf_4cfef 16 = .ok (.aload_n 0, 1) := by decide +kernel
theorem dJ1_indexOf_4cfef_17 : decode cJ1_indexOf_4cfef 17 = .ok (.arraylength, 1) := by decide +kernel
theorem dJ1_indexOf_4cfef_18 : decode cJ1_indexOf_4cfef 18 = .ok (.invokestatic 38, 3) := by decide +kernel
theorem dJ1_indexOf_4cfef_21 : decode cJ1_indexOf_4cfef 21 = .ok (.istore_n 3, 1) := by decide +kernel
theorem dJ1_indexOf_4cfef_22 : decode cJ1_indexOf_4cfef 22 = .ok (.iload_n 2, 1) := by decide +kernel
theorem dJ1_indexOf_4cfef_23 : decode cJ1_indexOf_4cfef 23 = .ok (.iload_n 3, 1) := by decide +kernel
theorem dJ1_indexOf_4cfef_24 : decode cJ1_indexOf_4cfef 24 = .ok (.if_icmp .lt 5, 3) := by decide +kernel
theorem dJ1_indexOf_4cfef_27 : decode cJ1_indexOf_4cfef 27 = .ok (.iconst (-1), 1) := by decide +kernel
theorem dJ1_indexOf_4cfef_28 : decode cJ1_indexOf_4cfef 28 = .ok (.ireturn, 1) := by decide +kernel
theorem dJ1_indexOf_4cfef_29 : decode cJ1_indexOf_4cfef 29 = .ok (.aload_n 0, 1) := by decide +kernel
theorem dJ1_indexOf_4cfef_30 : decode cJ1_indexOf_4cfef 30 = .ok (.iload_n 1, 1) := by decide +kernel
theorem dJ1_indexOf_4cfef_31 : decode cJ1_indexOf_4cfef 31 = .ok (.iload_n 2, 1) := by decide +kernel
theorem dJ1_indexOf_4cfef_32 : decode cJ1_indexOf_4cfef 32 = .ok (.iload_n 3, 1) := by decide +kernel
theorem dJ1_indexOf_4cfef_33 : decode cJ1_indexOf_4cfef 33 = .ok (.invokestatic 95, 3) := by decide +kernel
theorem dJ1_indexOf_4cfef_36 : decode cJ1_indexOf_4cfef 36 = .ok (.ireturn, 1) := by decide +kernel
theorem dJ1_indexOfChar_4cfef_0 : decode cJ1_indexOfChar_4cfef 0 = .ok (.iload_n 1, 1) := by decide +kernel
theorem dJ1_indexOfChar_4cfef_1 : decode cJ1_indexOfChar_4cfef 1 = .ok (.i2b, 1) := by decide +kernel
theorem dJ1_indexOfChar_4cfef_2 : decode cJ1_indexOfChar_4cfef 2 = .ok (.istore 4, 2) := by decide +kernel
theorem dJ1_indexOfChar_4cfef_4 : decode cJ1_indexOfChar_4cfef 4 = .ok (.iload_n 2, 1) := by decide +kernel
theorem dJ1_indexOfChar_4cfef_5 : decode cJ1_indexOfChar_4cfef 5 = .ok (.istore 5, 2) := by decide +kernel
theorem dJ1_indexOfChar_4cfef_7 : decode cJ1_indexOfChar_4cfef 7 = .ok (.iload 5, 2) := by decide +kernel
theorem dJ1_indexOfChar_4cfef_9 : decode cJ1_indexOfChar_4cfef 9 = .ok (.iload_n 3, 1) := by decide +kernel
theorem dJ1_indexOfChar_4cfef_10 : decode cJ1_indexOfChar_4cfef 10 = .ok (.if_icmp .ge 21, 3) := by decide +kernel
theorem dJ1_indexOfChar_4cfef_13 : decode cJ1_indexOfChar_4cfef 13 = .ok (.aload_n 0, 1) := by decide +kernel
theorem dJ1_indexOfChar_4cfef_14 : decode cJ1_indexOfChar_4cfef 14 = .ok (.iload 5, 2) := by decide +kernel
theorem dJ1_indexOfChar_4cfef_16 : decode cJ1_indexOfChar_4cfef 16 = .ok (.baload, 1) := by decide +kernel
theorem dJ1_indexOfChar_4cfef_17 : decode cJ1_indexOfChar_4cfef 17 = .ok (.iload 4, 2) := by decide +kernel
theorem dJ1_indexOfChar_4cfef_19 : decode cJ1_indexOfChar_4cfef 19 = .ok (.if_icmp .ne 6, 3) := by decide +kernel
theorem dJ1_indexOfChar_4cfef_22 : decode cJ1_indexOfChar_4cfef 22 = .ok (.iload 5, 2) := by decide +kernel
theorem dJ1_indexOfChar_4cfef_24 : decode cJ1_indexOfChar_4cfef 24 = .ok (.ireturn, 1) := by decide +kernel
theorem dJ1_indexOfChar_4cfef_25 : decode cJ1_indexOfChar_4cfef 25 = .ok (.iinc 5 1, 3) := by decide +kernel
theorem dJ1_indexOfChar_4cfef_28 : decode cJ1_indexOfChar_4cfef 28 = .ok (.goto (-21), 3) := by decide +kernel
theorem dJ1_indexOfChar_4cfef_31 : decode cJ1_indexOfChar_4cfef 31 = .ok (.iconst (-1), 1) := by decide +kernel
theorem dJ1_indexOfChar_4cfef_32 : decode cJ1_indexOfChar_4cfef 32 = .ok (.ireturn, 1) := by decide +kernel
theorem dJ2_getChar_3b067_0 : decode cJ2_getChar_3b067 0 = .ok (.getstatic 44, 3) := by decide +kernel
theorem dJ2_getChar_3b067_3 : decode cJ2_getChar_3b067 3 = .ok (.ifCond .ne 25, 3) := by decide +kernel
theorem dJ2_getChar_3b067_6 : decode cJ2_getChar_3b067 6 = .ok (.iload_n 1, 1) := by decide +kernel
theorem dJ2_getChar_3b067_7 : decode cJ2_getChar_3b067 7 = .ok (.ifCond .lt 11, 3) := by decide +kernel
theorem dJ2_getChar_3b067_10 : decode cJ2_getChar_3b067 10 = .ok (.iload_n 1, 1) := by decide +kernel
theorem dJ2_getChar_3b067_11 : decode cJ2_getChar_3b067 11 = .ok (.aload_n 0, 1) := by decide +kernel
theorem dJ2_getChar_3b067_12 : decode cJ2_getChar_3b067 12 = .ok (.invokestatic 48, 3) := by decide +kernel
theorem dJ2_getChar_3b067_15 : decode cJ2_getChar_3b067 15 = .ok (.if_icmp .lt 13, 3) := by decide +kernel
theorem dJ2_getChar_3b067_18 : decode cJ2_getChar_3b067 18 = .ok (.new 52, 3) := by decide +kernel
theorem dJ2_getChar_3b067_21 : decode cJ2_getChar_3b067 21 = .ok (.dup, 1) := by decide +kernel
theorem dJ2_getChar_3b067_22 : decode cJ2_getChar_3b067 22 = .ok (.ldc 54, 2) := by decide +kernel
theorem dJ2_getChar_3b067_24 : decode cJ2_getChar_3b067 24 = .ok (.invokespecial 56, 3) := by decide +kernel
theorem dJ2_getChar_3b067_27 : decode cJ2_getChar_3b067 27 = .ok (.athrow, 1) := by decide +kernel
theorem dJ2_getChar_3b067_28 : decode cJ2_getChar_3b067 28 = .ok (.iload_n 1, 1) := by decide +kernel
theorem dJ2_getChar_3b067_29 : decode cJ2_getChar_3b067 29 = .ok (.iconst 1, 1) := by decide +kernel
theorem dJ2_getChar_3b067_30 : decode cJ2_getChar_3b067 30 = .ok (.ishl, 1) := by decide +kernel
theorem dJ2_getChar_3b067_31 : decode cJ2_getChar_3b067 31 = .ok (.istore_n 1, 1) := by decide +kernel
theorem dJ2_getChar_3b067_32 : decode cJ2_getChar_3b067 32 = .ok (.aload_n 0, 1) := by decide +kernel
theorem dJ2_getChar_3b067_33 : decode cJ2_getChar_3b067 33 = .ok (.iload_n 1, 1) := by decide +kernel
theorem dJ2_getChar_3b067_34 : decode cJ2_getChar_3b067 34 = .ok (.iinc 1 1, 3) := by decide +kernel
theorem dJ2_getChar_3b067_37 : decode cJ2_getChar_3b067 37 = .ok (.baload, 1) := by decide +kernel
theorem dJ2_getChar_3b067_38 : decode cJ2_getChar_3b067 38 = .ok (.sipush 255, 3) := by decide +kernel
theorem dJ2_getChar_3b067_41 : decode cJ2_getChar_3b067 41 = .ok (.iand, 1) := by decide +kernel
theorem dJ2_getChar_3b067_42 : decode cJ2_getChar_3b067 42 = .ok (.getstatic 59, 3) := by decide +kernel
theorem dJ2_getChar_3b067_45 : decode cJ2_getChar_3b067 45 = .ok (.ishl, 1) := by decide +kernel
theorem dJ2_getChar_3b067_46 : decode cJ2_getChar_3b067 46 = .ok (.aload_n 0, 1) := by decide +kernel
theorem dJ2_getChar_3b067_47 : decode cJ2_getChar_3b067 47 = .ok (.iload_n 1, 1) := by decide +kernel
theorem dJ2_getChar_3b067_48 : decode cJ2_getChar_3b067 48 = .ok (.baload, 1) := by decide +kernel
theorem dJ2_getChar_3b067_49 : decode cJ2_getChar_3b067 49 = .ok (.sipush 255, 3) := by decide +kernel
theorem dJ2_getChar_3b067_52 : decode cJ2_getChar_3b067 52 = .ok (.iand, 1) := by decide +kernel
theorem dJ2_getChar_3b067_53 : decode cJ2_getChar_3b067 53 = .ok (.getstatic 63, 3) := by decide +kernel
theorem dJ2_getChar_3b067_56 : decode cJ2_getChar_3b067 56 = .ok (.ishl, 1) := by decide +kernel
theorem dJ2_getChar_3b067_57 : decode cJ2_getChar_3b067 57 = .ok (.ior, 1) := by decide +kernel
theorem dJ2_getChar_3b067_58 : decode cJ2_getChar_3b067 58 = .ok (.i2c, 1) := by decide +kernel
theorem dJ2_getChar_3b067_59 : decode cJ2_getChar_3b067 59 = .ok (.ireturn, 1) := by decide +kernel
theorem dJ2_length_9d52b_0 : decode cJ2_length_9d52b 0 = .ok (.aload_n 0, 1) := by decide +kernel
theorem dJ2_length_9d52b_1 : decode cJ2_length_9d52b 1 = .ok (.arraylength, 1) := by decide +kernel
theorem dJ2_length_9d52b_2 : decode cJ2_length_9d52b 2 = .ok (.iconst 1, 1) := by decide +kernel
theorem dJ2_length_9d52b_3 : decode cJ2_length_9d52b 3 = .ok (.ishr, 1) := by decide +kernel
theorem dJ2_length_9d52b_4 : decode cJ2_length_9d52b 4 = .ok (.ireturn, 1) := by decide +kernel
theorem dJ2_indexOf_4cfef_0 : decode cJ2_indexOf_4cfef 0 = .ok (.iload_n 2, 1) := by decide +kernel
theorem dJ2_indexOf_4cfef_1 : decode cJ2_indexOf_4cfef 1 = .ok (.iconst 0, 1) := by decide +kernel
theorem dJ2_indexOf_4cfef_2 : decode cJ2_indexOf_4cfef 2 = .ok (.invokestatic 224, 3) := by decide +kernel
theorem dJ2_indexOf_4cfef_5 : decode cJ2_indexOf_4cfef 5 = .ok (.istore_n 2, 1) := by decide +kernel
theorem dJ2_indexOf_4cfef_6 : decode cJ2_indexOf_4cfef 6 = .ok (.iload_n 3, 1) := by decide +kernel
theorem dJ2_indexOf_4cfef_7 : decode cJ2_indexOf_4cfef 7 = .ok (.aload_n 0, 1) := by decide +kernel
theorem dJ2_indexOf_4cfef_8 : decode cJ2_indexOf_4cfef 8 = .ok (.arraylength, 1) := by decide +kernel
theorem dJ2_indexOf_4cfef_9 : decode cJ2_indexOf_4cfef 9 = .ok (.iconst 1, 1) := by decide +kernel
theorem dJ2_indexOf_4cfef_10 : decode cJ2_indexOf_4cfef 10 = .ok (.ishr, 1) := by decide +kernel
theorem dJ2_indexOf_4cfef_11 : decode cJ2_indexOf_4cfef 11 = .ok (.invokestatic 183, 3) := by decide +kernel
theorem dJ2_indexOf_4cfef_14 : decode cJ2_indexOf_4cfef 14 = .ok (.istore_n 3, 1) := by decide +kernel
theorem dJ2_indexOf_4cfef_15 : decode cJ2_indexOf_4cfef 15 = .ok (.iload_n 2, 1) := by decide +kernel
theorem dJ2_indexOf_4cfef_16 : decode cJ2_indexOf_4cfef 16 = .ok (.iload_n 3, 1) := by decide +kernel
theorem dJ2_indexOf_4cfef_17 : decode cJ2_indexOf_4cfef 17 = .ok (.if_icmp .lt 5, 3) := by decide +kernel
theorem dJ2_indexOf_4cfef_20 : decode cJ2_indexOf_4cfef 20 = .ok (.iconst (-1), 1) := by decide +kernel
theorem dJ2_indexOf_4cfef_21 : decode cJ2_indexOf_4cfef 21 = .ok (.ireturn, 1) := by decide +kernel
theorem dJ2_indexOf_4cfef_22 : decode cJ2_indexOf_4cfef 22 = .ok (.iload_n 1, 1) := by decide +kernel
theorem dJ2_indexOf_4cfef_23 : decode cJ2_indexOf_4cfef 23 = .ok (.ldc 227, 2) := by decide +kernel
theorem dJ2_indexOf_4cfef_25 : decode cJ2_indexOf_4cfef 25 = .ok (.if_icmp .ge 11, 3) := by decide +kernel
theorem dJ2_indexOf_4cfef_28 : decode cJ2_indexOf_4cfef 28 = .ok (.aload_n 0, 1) := by decide +kernel
theorem dJ2_indexOf_4cfef_29 : decode cJ2_indexOf_4cfef 29 = .ok (.iload_n 1, 1) := by decide +kernel
theorem dJ2_indexOf_4cfef_30 : decode cJ2_indexOf_4cfef 30 = .ok (.iload_n 2, 1) := by decide +kernel
theorem dJ2_indexOf_4cfef_31 : decode cJ2_indexOf_4cfef 31 = .ok (.iload_n 3, 1) := by decide +kernel
theorem dJ2_indexOf_4cfef_32 : decode cJ2_indexOf_4cfef 32 = .ok (.invokestatic 228, 3) := by decide +kernel
theorem dJ2_indexOf_4cfef_35 : decode cJ2_indexOf_4cfef 35 = .ok (.ireturn, 1) := by decide +kernel
theorem dJ2_indexOf_4cfef_36 : decode cJ2_indexOf_4cfef 36 = .ok (.aload_n 0, 1) := by decide +kernel
theorem dJ2_indexOf_4cfef_37 : decode cJ2_indexOf_4cfef 37 = .ok (.iload_n 1, 1) := by decide +kernel
theorem dJ2_indexOf_4cfef_38 : decode cJ2_indexOf_4cfef 38 = .ok (.iload_n 2, 1) := by decide +kernel
theorem dJ2_indexOf_4cfef_39 : decode cJ2_indexOf_4cfef 39 = .ok (.iload_n 3, 1) := by decide +kernel
theorem dJ2_indexOf_4cfef_40 : decode cJ2_indexOf_4cfef 40 = .ok (.invokestatic 232, 3) := by decide +kernel
theorem dJ2_indexOf_4cfef_43 : decode cJ2_indexOf_4cfef 43 = .ok (.ireturn, 1) := by decide +kernel
theorem dJ2_indexOfChar_4cfef_0 : decode cJ2_indexOfChar_4cfef 0 = .ok (.iload_n 2, 1) := by decide +kernel
theorem dJ2_indexOfChar_4cfef_1 : decode cJ2_indexOfChar_4cfef 1 = .ok (.iload_n 3, 1) := by decide +kernel
theorem dJ2_indexOfChar_4cfef_2 : decode cJ2_indexOfChar_4cfef 2 = .ok (.aload_n 0, 1) := by decide +kernel
theorem dJ2_indexOfChar_4cfef_3 : decode cJ2_indexOfChar_4cfef 3 = .ok (.invokestatic 96, 3) := by decide +kernel
theorem dJ2_indexOfChar_4cfef_6 : decode cJ2_indexOfChar_4cfef 6 = .ok (.aload_n 0, 1) := by decide +kernel
theorem dJ2_indexOfChar_4cfef_7 : decode cJ2_indexOfChar_4cfef 7 = .ok (.iload_n 1, 1) := by decide +kernel
theorem dJ2_indexOfChar_4cfef_8 : decode cJ2_indexOfChar_4cfef 8 = .ok (.iload_n 2, 1) := by decide +kernel
theorem dJ2_indexOfChar_4cfef_9 : decode cJ2_indexOfChar_4cfef 9 = .ok (.iload_n 3, 1) := by decide +kernel
theorem dJ2_indexOfChar_4cfef_10 : decode cJ2_indexOfChar_4cfef 10 = .ok (.invokestatic 244, 3) := by decide +kernel
theorem dJ2_indexOfChar_4cfef_13 : decode cJ2_indexOfChar_4cfef 13 = .ok (.ireturn, 1) := by decide +kernel
theorem dJ2_indexOfCharUnsafe_4cfef_0 : decode cJ2_indexOfCharUnsafe_4cfef 0 = .ok (.iload_n 2, 1) := by decide +kernel
theorem dJ2_indexOfCharUnsafe_4cfef_1 : decode cJ2_indexOfCharUnsafe_4cfef 1 = .ok (.istore 4, 2) := by decide +kernel
theorem dJ2_indexOfCharUnsafe_4cfef_3 : decode cJ2_indexOfCharUnsafe_4cfef 3 = .ok (.iload 4, 2) := by decide +kernel
theorem dJ2_indexOfCharUnsafe_4cfef_5 : decode cJ2_indexOfCharUnsafe_4cfef 5 = .ok (.iload_n 3, 1) := by decide +kernel
theorem dJ2_indexOfCharUnsafe_4cfef_6 : decode cJ2_indexOfCharUnsafe_4cfef 6 = .ok (.if_icmp .ge 22, 3) := by decide +kernel
theorem dJ2_indexOfCharUnsafe_4cfef_9 : decode cJ2_indexOfCharUnsafe_4cfef 9 = .ok (.aload_n 0, 1) := by decide +kernel
theorem dJ2_indexOfCharUnsafe_4cfef_10 : decode cJ2_indexOfCharUnsafe_4cfef 10 = .ok (.iload 4, 2) := by decide +kernel
theorem dJ2_indexOfCharUnsafe_4cfef_12 : decode cJ2_indexOfCharUnsafe_4cfef 12 = .ok (.invokestatic 71, 3) := by decide +kernel
theorem dJ2_indexOfCharUnsafe_4cfef_15 : decode cJ2_indexOfCharUnsafe_4cfef 15 = .ok (.iload_n 1, 1) := by decide +kernel
theorem dJ2_indexOfCharUnsafe_4cfef_16 : decode cJ2_indexOfCharUnsafe_4cfef 16 = .ok (.if_icmp .ne 6, 3) := by decide +kernel
theorem dJ2_indexOfCharUnsafe_4cfef_19 : decode cJ2_indexOfCharUnsafe_4cfef 19 = .ok (.iload 4, 2) := by decide +kernel
theorem dJ2_indexOfCharUnsafe_4cfef_21 : decode cJ2_indexOfCharUnsafe_4cfef 21 = .ok (.ireturn, 1) := by decide +kernel
theorem dJ2_indexOfCharUnsafe_4cfef_22 : decode cJ2_indexOfCharUnsafe_4cfef 22 = .ok (.iinc 4 1, 3) := by decide +kernel
theorem dJ2_indexOfCharUnsafe_4cfef_25 : decode cJ2_indexOfCharUnsafe_4cfef 25 = .ok (.goto (-22), 3) := by decide +kernel
theorem dJ2_indexOfCharUnsafe_4cfef_28 : decode cJ2_indexOfCharUnsafe_4cfef 28 = .ok (.iconst (-1), 1) := by decide +kernel
theorem dJ2_indexOfCharUnsafe_4cfef_29 : decode cJ2_indexOfCharUnsafe_4cfef 29 = .ok (.ireturn, 1) := by decide +kernel
theorem dJ2_indexOfSupplementary_4cfef_0 : decode cJ2_indexOfSupplementary_4cfef 0 = .ok (.iload_n 1, 1) := by decide +kernel
theorem dJ2_indexOfSupplementary_4cfef_1 : decode cJ2_indexOfSupplementary_4cfef 1 = .ok (.invokestatic 164, 3) := by decide +kernel
theorem dJ2_indexOfSupplementary_4cfef_4 : decode cJ2_indexOfSupplementary_4cfef 4 = .ok (.ifCond .eq 65, 3) := by decide +kernel
theorem dJ2_indexOfSupplementary_4cfef_7 : decode cJ2_indexOfSupplementary_4cfef 7 = .ok (.iload_n 1, 1) := by decide +kernel
theorem dJ2_indexOfSupplementary_4cfef_8 : decode cJ2_indexOfSupplementary_4cfef 8 = .ok (.invokestatic 157, 3) := by decide +kernel
theorem dJ2_indexOfSupplementary_4cfef_11 : decode cJ2_indexOfSupplementary_4cfef 11 = .ok (.istore 4, 2) := by decide +kernel
theorem dJ2_indexOfSupplementary_4cfef_13 : decode cJ2_indexOfSupplementary_4cfef 13 = .ok (.iload_n 1, 1) := by decide +kernel
theorem dJ2_indexOfSupplementary_4cfef_14 : decode cJ2_indexOfSupplementary_4cfef 14 = .ok (.invokestatic 161, 3) := by decide +kernel
theorem dJ2_indexOfSupplementary_4cfef_17 : decode cJ2_indexOfSupplementary_4cfef 17 = .ok (.istore 5, 2) := by decide +kernel
theorem dJ2_indexOfSupplementary_4cfef_19 : decode cJ2_indexOfSupplementary_4cfef 19 = .ok (.iload_n 2, 1) := by decide +kernel
theorem dJ2_indexOfSupplementary_4cfef_20 : decode cJ2_indexOfSupplementary_4cfef 20 = .ok (.iload_n 3, 1) := by decide +kernel
theorem dJ2_indexOfSupplementary_4cfef_21 : decode cJ2_indexOfSupplementary_4cfef 21 = .ok (.aload_n 0, 1) := by decide +kernel
theorem dJ2_indexOfSupplementary_4cfef_22 : decode cJ2_indexOfSupplementary_4cfef 22 = .ok (.invokestatic 96, 3) := by decide +kernel
theorem dJ2_indexOfSupplementary_4cfef_25 : decode cJ2_indexOfSupplementary_4cfef 25 = .ok (.iload_n 2, 1) := by decide +kernel
theorem dJ2_indexOfSupplementary_4cfef_26 : decode cJ2_indexOfSupplementary_4cfef 26 = .ok (.istore 6, 2) := by decide +kernel
theorem dJ2_indexOfSupplementary_4cfef_28 : decode cJ2_indexOfSupplementary_4cfef 28 = .ok (.iload 6, 2) := by decide +kernel
theorem dJ2_indexOfSupplementary_4cfef_30 : decode cJ2_indexOfSupplementary_4cfef 30 = .ok (.iload_n 3, 1) := by decide +kernel
theorem dJ2_indexOfSupplementary_4cfef_31 : decode cJ2_indexOfSupplementary_4cfef 31 = .ok (.iconst 1, 1) := by decide +kernel
theorem dJ2_indexOfSupplementary_4cfef_32 : decode cJ2_indexOfSupplementary_4cfef 32 = .ok (.isub, 1) := by decide +kernel
theorem dJ2_indexOfSupplementary_4cfef_33 : decode cJ2_indexOfSupplementary_4cfef 33 = .ok (.if_icmp .ge 36, 3) := by decide +kernel
theorem dJ2_indexOfSupplementary_4cfef_36 : decode cJ2_indexOfSupplementary_4cfef 36 = .ok (.aload_n 0, 1) := by decide +kernel
theorem dJ2_indexOfSupplementary_4cfef_37 : decode cJ2_indexOfSupplementary_4cfef 37 = .ok (.iload 6, 2) := by decide +kernel
theorem dJ2_indexOfSupplementary_4cfef_39 : decode cJ2_indexOfSupplementary_4cfef 39 = .ok (.invokestatic 71, 3) := by decide +kernel
theorem dJ2_indexOfSupplementary_4cfef_42 : decode cJ2_indexOfSupplementary_4cfef 42 = .ok (.iload 4, 2) := by decide +kernel
theorem dJ2_indexOfSupplementary_4cfef_44 : decode cJ2_indexOfSupplementary_4cfef 44 = .ok (.if_icmp .ne 19, 3) := by decide +kernel
theorem dJ2_indexOfSupplementary_4cfef_47 : decode cJ2_indexOfSupplementary_4cfef 47 = .ok (.aload_n 0, 1) := by decide +kernel
theorem dJ2_indexOfSupplementary_4cfef_48 : decode cJ2_indexOfSupplementary_4cfef 48 = .ok (.iload 6, 2) := by decide +kernel
theorem dJ2_indexOfSupplementary_4cfef_50 : decode cJ2_indexOfSupplementary_4cfef 50 = .ok (.iconst 1, 1) := by decide +kernel
theorem dJ2_indexOfSupplementary_4cfef_51 : decode cJ2_indexOfSupplementary_4cfef 51 = .ok (.iadd, 1) := by decide +kernel
theorem dJ2_indexOfSupplementary_4cfef_52 : decode cJ2_indexOfSupplementary_4cfef 52 = .ok (.invokestatic 71, 3) := by decide +kernel
theorem dJ2_indexOfSupplementary_4cfef_55 : decode cJ2_indexOfSupplementary_4cfef 55 = .ok (.iload 5, 2) := by decide +kernel
theorem dJ2_indexOfSupplementary_4cfef_57 : decode cJ2_indexOfSupplementary_4cfef 57 = .ok (.if_icmp .ne 6, 3) := by decide +kernel
theorem dJ2_indexOfSupplementary_4cfef_60 : decode cJ2_indexOfSupplementary_4cfef 60 = .ok (.iload 6, 2) := by decide +kernel
theorem dJ2_indexOfSupplementary_4cfef_62 : decode cJ2_indexOfSupplementary_4cfef 62 = .ok (.ireturn, 1) := by decide +kernel
theorem dJ2_indexOfSupplementary_4cfef_63 : decode cJ2_indexOfSupplementary_4cfef 63 = .ok (.iinc 6 1, 3) := by decide +kernel
theorem dJ2_indexOfSupplementary_4cfef_66 : decode cJ2_indexOfSupplementary_4cfef 66 = .ok (.goto (-38), 3) := by decide +kernel
theorem dJ2_indexOfSupplementary_4cfef_69 : decode cJ2_indexOfSupplementary_4cfef 69 = .ok (.iconst (-1), 1) := by decide +kernel
theorem dJ2_indexOfSupplementary_4cfef_70 : decode cJ2_indexOfSupplementary_4cfef 70 = .ok (.ireturn, 1) := by decide +kernel
theorem dJ2_charAt_3b067_0 : decode cJ2_charAt_3b067 0 = .ok (.iload_n 1, 1) := by decide +kernel
theorem dJ2_charAt_3b067_1 : decode cJ2_charAt_3b067 1 = .ok (.aload_n 0, 1) := by decide +kernel
theorem dJ2_charAt_3b067_2 : decode cJ2_charAt_3b067 2 = .ok (.invokestatic 67, 3) := by decide +kernel
theorem dJ2_charAt_3b067_5 : decode cJ2_charAt_3b067 5 = .ok (.aload_n 0, 1) := by decide +kernel
theorem dJ2_charAt_3b067_6 : decode cJ2_charAt_3b067 6 = .ok (.iload_n 1, 1) := by decide +kernel
theorem dJ2_charAt_3b067_7 : decode cJ2_charAt_3b067 7 = .ok (.invokestatic 71, 3) := by decide +kernel
theorem dJ2_charAt_3b067_10 : decode cJ2_charAt_3b067 10 = .ok (.ireturn, 1) := by decide +kernel
theorem dJ2_checkIndex_2214a_0 : decode cJ2_checkIndex_2214a 0 = .ok (.iload_n 0, 1) := by decide +kernel
theorem dJ2_checkIndex_2214a_1 : decode cJ2_checkIndex_2214a 1 = .ok (.aload_n 1, 1) := by decide +kernel
theorem dJ2_checkIndex_2214a_2 : decode cJ2_checkIndex_2214a 2 = .ok (.invokestatic 48, 3) := by decide +kernel
theorem dJ2_checkIndex_2214a_5 : decode cJ2_checkIndex_2214a 5 = .ok (.invokestatic 414, 3) := by decide +kernel
theorem dJ2_checkIndex_2214a_8 : decode cJ2_checkIndex_2214a 8 = .ok (.return_, 1) := by decide +kernel
theorem dJ2_checkBoundsBeginEnd_d044e_0 : decode cJ2_checkBoundsBeginEnd_d044e 0 = .ok (.iload_n 0, 1) := by decide +kernel
theorem dJ2_checkBoundsBeginEnd_d044e_1 : decode cJ2_checkBoundsBeginEnd_d044e 1 = .ok (.iload_n 1, 1) := by decide +kernel
theorem dJ2_checkBoundsBeginEnd_d044e_2 : decode cJ2_checkBoundsBeginEnd_d044e 2 = .ok (.aload_n 2, 1) := by decide +kernel
theorem dJ2_checkBoundsBeginEnd_d044e_3 : decode cJ2_checkBoundsBeginEnd_d044e 3 = .ok (.invokestatic 48, 3) := by decide +kernel
theorem dJ2_checkBoundsBeginEnd_d044e_6 : decode cJ2_checkBoundsBeginEnd_d044e 6 = .ok (.invokestatic 241, 3) := by decide +kernel
theorem dJ2_checkBoundsBeginEnd_d044e_9 : decode cJ2_checkBoundsBeginEnd_d044e 9 = .ok (.return_, 1) := by decide +kernel
theorem dJ7_fill_d0a16_0 : decode cJ7_fill_d0a16 0 = .ok (.iconst 0, 1) := by decide +kernel
theorem dJ7_fill_d0a16_1 : decode cJ7_fill_d0a16 1 = .ok (.istore_n 3, 1) := by decide +kernel
theorem dJ7_fill_d0a16_2 : decode cJ7_fill_d0a16 2 = .ok (.aload_n 0, 1) := by decide +kernel
theorem dJ7_fill_d0a16_3 : decode cJ7_fill_d0a16 3 = .ok (.arraylength, 1) := by decide +kernel
theorem dJ7_fill_d0a16_4 : decode cJ7_fill_d0a16 4 = .ok (.istore 4, 2) := by decide +kernel
theorem dJ7_fill_d0a16_6 : decode cJ7_fill_d0a16 6 = .ok (.iload_n 3, 1) := by decide +kernel
theorem dJ7_fill_d0a16_7 : decode cJ7_fill_d0a16 7 = .ok (.iload 4, 2) := by decide +kernel
theorem dJ7_fill_d0a16_9 : decode cJ7_fill_d0a16 9 = .ok (.if_icmp .ge 13, 3) := by decide +kernel
theorem dJ7_fill_d0a16_12 : decode cJ7_fill_d0a16 12 = .ok (.aload_n 0, 1) := by decide +kernel
theorem dJ7_fill_d0a16_13 : decode cJ7_fill_d0a16 13 = .ok (.iload_n 3, 1) := by decide +kernel
theorem dJ7_fill_d0a16_14 : decode cJ7_fill_d0a16 14 = .ok (.lload_n 1, 1) := by decide +kernel
theorem dJ7_fill_d0a16_15 : decode cJ7_fill_d0a16 15 = .ok (.lastore, 1) := by decide +kernel
theorem dJ7_fill_d0a16_16 : decode cJ7_fill_d0a16 16 = .ok (.iinc 3 1, 3) := by decide +kernel
theorem dJ7_fill_d0a16_19 : decode cJ7_fill_d0a16 19 = .ok (.goto (-13), 3) := by decide +kernel
theorem dJ7_fill_d0a16_22 : decode cJ7_fill_d0a16 22 = .ok (.return_, 1) := by decide +kernel
theorem dJ7_fill_53178_0 : decode cJ7_fill_53178 0 = .ok (.iconst 0, 1) := by decide +kernel
theorem dJ7_fill_53178_1 : decode cJ7_fill_53178 1 = .ok (.istore_n 2, 1) := by decide +kernel
theorem dJ7_fill_53178_2 : decode cJ7_fill_53178 2 = .ok (.aload_n 0, 1) := by decide +kernel
theorem dJ7_fill_53178_3 : decode cJ7_fill_53178 3 = .ok (.arraylength, 1) := by decide +kernel
theorem dJ7_fill_53178_4 : decode cJ7_fill_53178 4 = .ok (.istore_n 3, 1) := by decide +kernel
theorem dJ7_fill_53178_5 : decode cJ7_fill_53178 5 = .ok (.iload_n 2, 1) := by decide +kernel
theorem dJ7_fill_53178_6 : decode cJ7_fill_53178 6 = .ok (.iload_n 3, 1) := by decide +kernel
theorem dJ7_fill_53178_7 : decode cJ7_fill_53178 7 = .ok (.if_icmp .ge 13, 3) := by decide +kernel
theorem dJ7_fill_53178_10 : decode cJ7_fill_53178 10 = .ok (.aload_n 0, 1) := by decide +kernel
theorem dJ7_fill_53178_11 : decode cJ7_fill_53178 11 = .ok (.iload_n 2, 1) := by decide +kernel
theorem dJ7_fill_53178_12 : decode cJ7_fill_53178 12 = .ok (.iload_n 1, 1) := by decide +kernel
theorem dJ7_fill_53178_13 : decode cJ7_fill_53178 13 = .ok (.iastore, 1) := by decide +kernel
theorem dJ7_fill_53178_14 : decode cJ7_fill_53178 14 = .ok (.iinc 2 1, 3) := by decide +kernel
theorem dJ7_fill_53178_17 : decode cJ7_fill_53178 17 = .ok (.goto (-12), 3) := by decide +kernel
theorem dJ7_fill_53178_20 : decode cJ7_fill_53178 20 = .ok (.return_, 1) := by decide +kernel
theorem dJ3_checkIndex_8e157_0 : decode cJ3_checkIndex_8e157 0 = .ok (.iload_n 0, 1) := by decide +kernel
theorem dJ3_checkIndex_8e157_1 : decode cJ3_checkIndex_8e157 1 = .ok (.ifCond .lt 8, 3) := by decide +kernel
theorem dJ3_checkIndex_8e157_4 : decode cJ3_checkIndex_8e157 4 = .ok (.iload_n 0, 1) := by decide +kernel
theorem dJ3_checkIndex_8e157_5 : decode cJ3_checkIndex_8e157 5 = .ok (.iload_n 1, 1) := by decide +kernel
theorem dJ3_checkIndex_8e157_6 : decode cJ3_checkIndex_8e157 6 = .ok (.if_icmp .lt 10, 3) := by decide +kernel
theorem dJ3_checkIndex_8e157_9 : decode cJ3_checkIndex_8e157 9 = .ok (.aload_n 2, 1) := by decide +kernel
theorem dJ3_checkIndex_8e157_10 : decode cJ3_checkIndex_8e157 10 = .ok (.iload_n 0, 1) := by decide +kernel
theorem dJ3_checkIndex_8e157_11 : decode cJ3_checkIndex_8e157 11 = .ok (.iload_n 1, 1) := by decide +kernel
theorem dJ3_checkIndex_8e157_12 : decode cJ3_checkIndex_8e157 12 = .ok (.invokestatic 95, 3) := by decide +kernel
theorem dJ3_checkIndex_8e157_15 : decode cJ3_checkIndex_8e157 15 = .ok (.athrow, 1) := by decide +kernel
theorem dJ3_checkIndex_8e157_16 : decode cJ3_checkIndex_8e157 16 = .ok (.iload_n 0, 1) := by decide +kernel
theorem dJ3_checkIndex_8e157_17 : decode cJ3_checkIndex_8e157 17 = .ok (.ireturn, 1) := by decide +kernel
theorem dJ3_checkFromToIndex_8c36e_0 : decode cJ3_checkFromToIndex_8c36e 0 = .ok (.iload_n 0, 1) := by decide +kernel
theorem dJ3_checkFromToIndex_8c36e_1 : decode cJ3_checkFromToIndex_8c36e 1 = .ok (.ifCond .lt 13, 3) := by decide +kernel
theorem dJ3_checkFromToIndex_8c36e_4 : decode cJ3_checkFromToIndex_8c36e 4 = .ok (.iload_n 0, 1) := by decide +kernel
theorem dJ3_checkFromToIndex_8c36e_5 : decode cJ3_checkFromToIndex_8c36e 5 = .ok (.iload_n 1, 1) := by decide +kernel
theorem dJ3_checkFromToIndex_8c36e_6 : decode cJ3_checkFromToIndex_8c36e 6 = .ok (.if_icmp .gt 8, 3) := by decide +kernel
theorem dJ3_checkFromToIndex_8c36e_9 : decode cJ3_checkFromToIndex_8c36e 9 = .ok (.iload_n 1, 1) := by decide +kernel
theorem dJ3_checkFromToIndex_8c36e_10 : decode cJ3_checkFromToIndex_8c36e 10 = .ok (.iload_n 2, 1) := by decide +kernel
theorem dJ3_checkFromToIndex_8c36e_11 : decode cJ3_checkFromToIndex_8c36e 11 = .ok (.if_icmp .le 11, 3) := by decide +kernel
theorem dJ3_checkFromToIndex_8c36e_14 : decode cJ3_checkFromToIndex_8c36e 14 = .ok (.aload_n 3, 1) := by decide +kernel
theorem dJ3_checkFromToIndex_8c36e_15 : decode cJ3_checkFromToIndex_8c36e 15 = .ok (.iload_n 0, 1) := by decide +kernel
theorem dJ3_checkFromToIndex_8c36e_16 : decode cJ3_checkFromToIndex_8c36e 16 = .ok (.iload_n 1, 1) := by decide +kernel
theorem dJ3_checkFromToIndex_8c36e_17 : decode cJ3_checkFromToIndex_8c36e 17 = .ok (.iload_n 2, 1) := by decide +kernel
theorem dJ3_checkFromToIndex_8c36e_18 : decode cJ3_checkFromToIndex_8c36e 18 = .ok (.invokestatic 99, 3) := by decide +kernel
theorem dJ3_checkFromToIndex_8c36e_21 : decode cJ3_checkFromToIndex_8c36e 21 = .ok (.athrow, 1) := by decide +kernel
theorem dJ3_checkFromToIndex_8c36e_22 : decode cJ3_checkFromToIndex_8c36e 22 = .ok (.iload_n 0, 1) := by decide +kernel
theorem dJ3_checkFromToIndex_8c36e_23 : decode cJ3_checkFromToIndex_8c36e 23 = .ok (.ireturn, 1) := by decide +kernel
