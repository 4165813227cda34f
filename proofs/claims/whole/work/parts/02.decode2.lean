theorem dX12_readUnit_74 : decode cX12_readUnit 74 = .ok (.iload_n 1, 1) := by decide +kernel
theorem dX12_readUnit_75 : decode cX12_readUnit 75 = .ok (.invokevirtual 170, 3) := by decide +kernel
theorem dX12_readUnit_78 : decode cX12_readUnit 78 = .ok (.aload_n 0, 1) := by decide +kernel
theorem dX12_readUnit_79 : decode cX12_readUnit 79 = .ok (.bipush 39, 2) := by decide +kernel
theorem dX12_readUnit_81 : decode cX12_readUnit 81 = .ok (.invokevirtual 144, 3) := by decide +kernel
theorem dX12_readUnit_84 : decode cX12_readUnit 84 = .ok (.ifCond .eq 9, 3) := by decide +kernel
theorem dX12_readUnit_87 : decode cX12_readUnit 87 = .ok (.sipush 3003, 3) := by decide +kernel
theorem dX12_readUnit_90 : decode cX12_readUnit 90 = .ok (.goto 21, 3) := by decide +kernel
theorem dX12_readUnit_93 : decode cX12_readUnit 93 = .ok (.aload_n 0, 1) := by decide +kernel
theorem dX12_readUnit_94 : decode cX12_readUnit 94 = .ok (.bipush 40, 2) := by decide +kernel
theorem dX12_readUnit_96 : decode cX12_readUnit 96 = .ok (.invokevirtual 144, 3) := by decide +kernel
theorem dX12_readUnit_99 : decode cX12_readUnit 99 = .ok (.ifCond .eq 9, 3) := by decide +kernel
theorem dX12_readUnit_102 : decode cX12_readUnit 102 = .ok (.sipush 3004, 3) := by decide +kernel
theorem dX12_readUnit_105 : decode cX12_readUnit 105 = .ok (.goto 6, 3) := by decide +kernel
theorem dX12_readUnit_108 : decode cX12_readUnit 108 = .ok (.sipush 3005, 3) := by decide +kernel
theorem dX12_readUnit_111 : decode cX12_readUnit 111 = .ok (.istore_n 2, 1) := by decide +kernel
theorem dX12_readUnit_112 : decode cX12_readUnit 112 = .ok (.aload_n 0, 1) := by decide +kernel
theorem dX12_readUnit_113 : decode cX12_readUnit 113 = .ok (.bipush 39, 2) := by decide +kernel
theorem dX12_readUnit_115 : decode cX12_readUnit 115 = .ok (.invokevirtual 144, 3) := by decide +kernel
theorem dX12_readUnit_118 : decode cX12_readUnit 118 = .ok (.ifCond .ne 21, 3) := by decide +kernel
theorem dX12_readUnit_121 : decode cX12_readUnit 121 = .ok (.aload_n 0, 1) := by decide +kernel
theorem dX12_readUnit_122 : decode cX12_readUnit 122 = .ok (.bipush 40, 2) := by decide +kernel
theorem dX12_readUnit_124 : decode cX12_readUnit 124 = .ok (.invokevirtual 144, 3) := by decide +kernel
theorem dX12_readUnit_127 : decode cX12_readUnit 127 = .ok (.ifCond .ne 12, 3) := by decide +kernel
theorem dX12_readUnit_130 : decode cX12_readUnit 130 = .ok (.aload_n 0, 1) := by decide +kernel
theorem dX12_readUnit_131 : decode cX12_readUnit 131 = .ok (.bipush 41, 2) := by decide +kernel
theorem dX12_readUnit_133 : decode cX12_readUnit 133 = .ok (.invokevirtual 144, 3) := by decide +kernel
theorem dX12_readUnit_136 : decode cX12_readUnit 136 = .ok (.ifCond .eq 10, 3) := by decide +kernel
theorem dX12_readUnit_139 : decode cX12_readUnit 139 = .ok (.aload_n 0, 1) := by decide +kernel
theorem dX12_readUnit_140 : decode cX12_readUnit 140 = .ok (.invokevirtual 147, 3) := by decide +kernel
theorem dX12_readUnit_143 : decode cX12_readUnit 143 = .ok (.goto 8, 3) := by decide +kernel
theorem dX12_readUnit_146 : decode cX12_readUnit 146 = .ok (.aload_n 0, 1) := by decide +kernel
theorem dX12_readUnit_147 : decode cX12_readUnit 147 = .ok (.iconst 2, 1) := by decide +kernel
theorem dX12_readUnit_148 : decode cX12_readUnit 148 = .ok (.invokevirtual 150, 3) := by decide +kernel
theorem dX12_readUnit_151 : decode cX12_readUnit 151 = .ok (.aload_n 0, 1) := by decide +kernel
theorem dX12_readUnit_152 : decode cX12_readUnit 152 = .ok (.iload_n 1, 1) := by decide +kernel
theorem dX12_readUnit_153 : decode cX12_readUnit 153 = .ok (.invokevirtual 170, 3) := by decide +kernel
theorem dX12_readUnit_156 : decode cX12_readUnit 156 = .ok (.aload_n 0, 1) := by decide +kernel
theorem dX12_readUnit_157 : decode cX12_readUnit 157 = .ok (.iload_n 2, 1) := by decide +kernel
theorem dX12_readUnit_158 : decode cX12_readUnit 158 = .ok (.invokevirtual 161, 3) := by decide +kernel
theorem dX12_readUnit_161 : decode cX12_readUnit 161 = .ok (.return_, 1) := by decide +kernel
theorem dX12_readBoth_0 : decode cX12_readBoth 0 = .ok (.aload_n 0, 1) := by decide +kernel
theorem dX12_readBoth_1 : decode cX12_readBoth 1 = .ok (.iload_n 1, 1) := by decide +kernel
theorem dX12_readBoth_2 : decode cX12_readBoth 2 = .ok (.invokevirtual 188, 3) := by decide +kernel
theorem dX12_readBoth_5 : decode cX12_readBoth 5 = .ok (.aload_n 0, 1) := by decide +kernel
theorem dX12_readBoth_6 : decode cX12_readBoth 6 = .ok (.bipush 20, 2) := by decide +kernel
theorem dX12_readBoth_8 : decode cX12_readBoth 8 = .ok (.invokevirtual 173, 3) := by decide +kernel
theorem dX12_readBoth_11 : decode cX12_readBoth 11 = .ok (.ifCond .eq 18, 3) := by decide +kernel
theorem dX12_readBoth_14 : decode cX12_readBoth 14 = .ok (.aload_n 0, 1) := by decide +kernel
theorem dX12_readBoth_15 : decode cX12_readBoth 15 = .ok (.iload_n 1, 1) := by decide +kernel
theorem dX12_readBoth_16 : decode cX12_readBoth 16 = .ok (.invokevirtual 188, 3) := by decide +kernel
theorem dX12_readBoth_19 : decode cX12_readBoth 19 = .ok (.aload_n 0, 1) := by decide +kernel
theorem dX12_readBoth_20 : decode cX12_readBoth 20 = .ok (.sipush 3007, 3) := by decide +kernel
theorem dX12_readBoth_23 : decode cX12_readBoth 23 = .ok (.invokevirtual 161, 3) := by decide +kernel
theorem dX12_readBoth_26 : decode cX12_readBoth 26 = .ok (.goto (-21), 3) := by decide +kernel
theorem dX12_readBoth_29 : decode cX12_readBoth 29 = .ok (.return_, 1) := by decide +kernel
theorem dX12_readTruth_0 : decode cX12_readTruth 0 = .ok (.aload_n 0, 1) := by decide +kernel
theorem dX12_readTruth_1 : decode cX12_readTruth 1 = .ok (.iload_n 1, 1) := by decide +kernel
theorem dX12_readTruth_2 : decode cX12_readTruth 2 = .ok (.invokevirtual 191, 3) := by decide +kernel
theorem dX12_readTruth_5 : decode cX12_readTruth 5 = .ok (.aload_n 0, 1) := by decide +kernel
theorem dX12_readTruth_6 : decode cX12_readTruth 6 = .ok (.bipush 21, 2) := by decide +kernel
theorem dX12_readTruth_8 : decode cX12_readTruth 8 = .ok (.invokevirtual 173, 3) := by decide +kernel
theorem dX12_readTruth_11 : decode cX12_readTruth 11 = .ok (.ifCond .eq 18, 3) := by decide +kernel
theorem dX12_readTruth_14 : decode cX12_readTruth 14 = .ok (.aload_n 0, 1) := by decide +kernel
theorem dX12_readTruth_15 : decode cX12_readTruth 15 = .ok (.iload_n 1, 1) := by decide +kernel
theorem dX12_readTruth_16 : decode cX12_readTruth 16 = .ok (.invokevirtual 191, 3) := by decide +kernel
theorem dX12_readTruth_19 : decode cX12_readTruth 19 = .ok (.aload_n 0, 1) := by decide +kernel
theorem dX12_readTruth_20 : decode cX12_readTruth 20 = .ok (.sipush 3008, 3) := by decide +kernel
theorem dX12_readTruth_23 : decode cX12_readTruth 23 = .ok (.invokevirtual 161, 3) := by decide +kernel
theorem dX12_readTruth_26 : decode cX12_readTruth 26 = .ok (.goto (-21), 3) := by decide +kernel
theorem dX12_readTruth_29 : decode cX12_readTruth 29 = .ok (.return_, 1) := by decide +kernel
theorem dX12_named_0 : decode cX12_named 0 = .ok (.aload_n 0, 1) := by decide +kernel
theorem dX12_named_1 : decode cX12_named 1 = .ok (.iload_n 1, 1) := by decide +kernel
theorem dX12_named_2 : decode cX12_named 2 = .ok (.invokevirtual 173, 3) := by decide +kernel
theorem dX12_named_5 : decode cX12_named 5 = .ok (.ifCond .ne 8, 3) := by decide +kernel
theorem dX12_named_8 : decode cX12_named 8 = .ok (.aload_n 0, 1) := by decide +kernel
theorem dX12_named_9 : decode cX12_named 9 = .ok (.iconst 2, 1) := by decide +kernel
theorem dX12_named_10 : decode cX12_named 10 = .ok (.invokevirtual 150, 3) := by decide +kernel
theorem dX12_named_13 : decode cX12_named 13 = .ok (.aload_n 0, 1) := by decide +kernel
theorem dX12_named_14 : decode cX12_named 14 = .ok (.iload_n 2, 1) := by decide +kernel
theorem dX12_named_15 : decode cX12_named 15 = .ok (.iload_n 3, 1) := by decide +kernel
theorem dX12_named_16 : decode cX12_named 16 = .ok (.invokevirtual 194, 3) := by decide +kernel
theorem dX12_named_19 : decode cX12_named 19 = .ok (.ireturn, 1) := by decide +kernel
theorem dX12_takesOther_0 : decode cX12_takesOther 0 = .ok (.aload_n 0, 1) := by decide +kernel
theorem dX12_takesOther_1 : decode cX12_takesOther 1 = .ok (.bipush 25, 2) := by decide +kernel
theorem dX12_takesOther_3 : decode cX12_takesOther 3 = .ok (.invokevirtual 144, 3) := by decide +kernel
theorem dX12_takesOther_6 : decode cX12_takesOther 6 = .ok (.ifCond .eq 16, 3) := by decide +kernel
theorem dX12_takesOther_9 : decode cX12_takesOther 9 = .ok (.aload_n 0, 1) := by decide +kernel
theorem dX12_takesOther_10 : decode cX12_takesOther 10 = .ok (.getfield 133, 3) := by decide +kernel
theorem dX12_takesOther_13 : decode cX12_takesOther 13 = .ok (.iload_n 1, 1) := by decide +kernel
theorem dX12_takesOther_14 : decode cX12_takesOther 14 = .ok (.if_icmp .ne 8, 3) := by decide +kernel
theorem dX12_takesOther_17 : decode cX12_takesOther 17 = .ok (.aload_n 0, 1) := by decide +kernel
theorem dX12_takesOther_18 : decode cX12_takesOther 18 = .ok (.iconst 3, 1) := by decide +kernel
theorem dX12_takesOther_19 : decode cX12_takesOther 19 = .ok (.invokevirtual 150, 3) := by decide +kernel
theorem dX12_takesOther_22 : decode cX12_takesOther 22 = .ok (.aload_n 0, 1) := by decide +kernel
theorem dX12_takesOther_23 : decode cX12_takesOther 23 = .ok (.iconst 0, 1) := by decide +kernel
theorem dX12_takesOther_24 : decode cX12_takesOther 24 = .ok (.iload_n 2, 1) := by decide +kernel
theorem dX12_takesOther_25 : decode cX12_takesOther 25 = .ok (.invokevirtual 194, 3) := by decide +kernel
theorem dX12_takesOther_28 : decode cX12_takesOther 28 = .ok (.ireturn, 1) := by decide +kernel
theorem dX12_readRoad_0 : decode cX12_readRoad 0 = .ok (.bipush 11, 2) := by decide +kernel
theorem dX12_readRoad_2 : decode cX12_readRoad 2 = .ok (.iconst 3, 1) := by decide +kernel
theorem dX12_readRoad_3 : decode cX12_readRoad 3 = .ok (.aload_n 0, 1) := by decide +kernel
theorem dX12_readRoad_4 : decode cX12_readRoad 4 = .ok (.getfield 24, 3) := by decide +kernel
theorem dX12_readRoad_7 : decode cX12_readRoad 7 = .ok (.iconst 2, 1) := by decide +kernel
theorem dX12_readRoad_8 : decode cX12_readRoad 8 = .ok (.iaload, 1) := by decide +kernel
theorem dX12_readRoad_9 : decode cX12_readRoad 9 = .ok (.imul, 1) := by decide +kernel
theorem dX12_readRoad_10 : decode cX12_readRoad 10 = .ok (.iadd, 1) := by decide +kernel
theorem dX12_readRoad_11 : decode cX12_readRoad 11 = .ok (.istore_n 1, 1) := by decide +kernel
theorem dX12_readRoad_12 : decode cX12_readRoad 12 = .ok (.aload_n 0, 1) := by decide +kernel
theorem dX12_readRoad_13 : decode cX12_readRoad 13 = .ok (.getfield 24, 3) := by decide +kernel
theorem dX12_readRoad_16 : decode cX12_readRoad 16 = .ok (.iconst 2, 1) := by decide +kernel
theorem dX12_readRoad_17 : decode cX12_readRoad 17 = .ok (.iaload, 1) := by decide +kernel
theorem dX12_readRoad_18 : decode cX12_readRoad 18 = .ok (.bipush 9, 2) := by decide +kernel
theorem dX12_readRoad_20 : decode cX12_readRoad 20 = .ok (.if_icmp .ne 8, 3) := by decide +kernel
theorem dX12_readRoad_23 : decode cX12_readRoad 23 = .ok (.aload_n 0, 1) := by decide +kernel
theorem dX12_readRoad_24 : decode cX12_readRoad 24 = .ok (.iconst 4, 1) := by decide +kernel
theorem dX12_readRoad_25 : decode cX12_readRoad 25 = .ok (.invokevirtual 150, 3) := by decide +kernel
theorem dX12_readRoad_28 : decode cX12_readRoad 28 = .ok (.aload_n 0, 1) := by decide +kernel
theorem dX12_readRoad_29 : decode cX12_readRoad 29 = .ok (.getfield 138, 3) := by decide +kernel
theorem dX12_readRoad_32 : decode cX12_readRoad 32 = .ok (.ifCond .eq 4, 3) := by decide +kernel
theorem dX12_readRoad_35 : decode cX12_readRoad 35 = .ok (.return_, 1) := by decide +kernel
theorem dX12_readRoad_36 : decode cX12_readRoad 36 = .ok (.aload_n 0, 1) := by decide +kernel
theorem dX12_readRoad_37 : decode cX12_readRoad 37 = .ok (.invokevirtual 147, 3) := by decide +kernel
theorem dX12_readRoad_40 : decode cX12_readRoad 40 = .ok (.aload_n 0, 1) := by decide +kernel
theorem dX12_readRoad_41 : decode cX12_readRoad 41 = .ok (.getfield 24, 3) := by decide +kernel
theorem dX12_readRoad_44 : decode cX12_readRoad 44 = .ok (.iload_n 1, 1) := by decide +kernel
theorem dX12_readRoad_45 : decode cX12_readRoad 45 = .ok (.aload_n 0, 1) := by decide +kernel
theorem dX12_readRoad_46 : decode cX12_readRoad 46 = .ok (.iconst 0, 1) := by decide +kernel
theorem dX12_readRoad_47 : decode cX12_readRoad 47 = .ok (.aload_n 0, 1) := by decide +kernel
theorem dX12_readRoad_48 : decode cX12_readRoad 48 = .ok (.getfield 24, 3) := by decide +kernel
theorem dX12_readRoad_51 : decode cX12_readRoad 51 = .ok (.iconst 1, 1) := by decide +kernel
theorem dX12_readRoad_52 : decode cX12_readRoad 52 = .ok (.iaload, 1) := by decide +kernel
theorem dX12_readRoad_53 : decode cX12_readRoad 53 = .ok (.iconst 1, 1) := by decide +kernel
theorem dX12_readRoad_54 : decode cX12_readRoad 54 = .ok (.isub, 1) := by decide +kernel
theorem dX12_readRoad_55 : decode cX12_readRoad 55 = .ok (.invokevirtual 194, 3) := by decide +kernel
theorem dX12_readRoad_58 : decode cX12_readRoad 58 = .ok (.iastore, 1) := by decide +kernel
theorem dX12_readRoad_59 : decode cX12_readRoad 59 = .ok (.aload_n 0, 1) := by decide +kernel
theorem dX12_readRoad_60 : decode cX12_readRoad 60 = .ok (.getfield 24, 3) := by decide +kernel
theorem dX12_readRoad_63 : decode cX12_readRoad 63 = .ok (.iload_n 1, 1) := by decide +kernel
theorem dX12_readRoad_64 : decode cX12_readRoad 64 = .ok (.iconst 1, 1) := by decide +kernel
theorem dX12_readRoad_65 : decode cX12_readRoad 65 = .ok (.iadd, 1) := by decide +kernel
theorem dX12_readRoad_66 : decode cX12_readRoad 66 = .ok (.aload_n 0, 1) := by decide +kernel
theorem dX12_readRoad_67 : decode cX12_readRoad 67 = .ok (.aload_n 0, 1) := by decide +kernel
theorem dX12_readRoad_68 : decode cX12_readRoad 68 = .ok (.getfield 24, 3) := by decide +kernel
theorem dX12_readRoad_71 : decode cX12_readRoad 71 = .ok (.iload_n 1, 1) := by decide +kernel
theorem dX12_readRoad_72 : decode cX12_readRoad 72 = .ok (.iaload, 1) := by decide +kernel
theorem dX12_readRoad_73 : decode cX12_readRoad 73 = .ok (.aload_n 0, 1) := by decide +kernel
theorem dX12_readRoad_74 : decode cX12_readRoad 74 = .ok (.getfield 24, 3) := by decide +kernel
theorem dX12_readRoad_77 : decode cX12_readRoad 77 = .ok (.iconst 1, 1) := by decide +kernel
theorem dX12_readRoad_78 : decode cX12_readRoad 78 = .ok (.iaload, 1) := by decide +kernel
theorem dX12_readRoad_79 : decode cX12_readRoad 79 = .ok (.iconst 1, 1) := by decide +kernel
theorem dX12_readRoad_80 : decode cX12_readRoad 80 = .ok (.isub, 1) := by decide +kernel
theorem dX12_readRoad_81 : decode cX12_readRoad 81 = .ok (.invokevirtual 198, 3) := by decide +kernel
theorem dX12_readRoad_84 : decode cX12_readRoad 84 = .ok (.iastore, 1) := by decide +kernel
theorem dX12_readRoad_85 : decode cX12_readRoad 85 = .ok (.aload_n 0, 1) := by decide +kernel
theorem dX12_readRoad_86 : decode cX12_readRoad 86 = .ok (.getfield 24, 3) := by decide +kernel
theorem dX12_readRoad_89 : decode cX12_readRoad 89 = .ok (.iload_n 1, 1) := by decide +kernel
theorem dX12_readRoad_90 : decode cX12_readRoad 90 = .ok (.iconst 2, 1) := by decide +kernel
theorem dX12_readRoad_91 : decode cX12_readRoad 91 = .ok (.iadd, 1) := by decide +kernel
theorem dX12_readRoad_92 : decode cX12_readRoad 92 = .ok (.aload_n 0, 1) := by decide +kernel
theorem dX12_readRoad_93 : decode cX12_readRoad 93 = .ok (.iconst 4, 1) := by decide +kernel
theorem dX12_readRoad_94 : decode cX12_readRoad 94 = .ok (.iconst 1, 1) := by decide +kernel
theorem dX12_readRoad_95 : decode cX12_readRoad 95 = .ok (.bipush 9, 2) := by decide +kernel
theorem dX12_readRoad_97 : decode cX12_readRoad 97 = .ok (.invokevirtual 201, 3) := by decide +kernel
theorem dX12_readRoad_100 : decode cX12_readRoad 100 = .ok (.iastore, 1) := by decide +kernel
theorem dX12_readRoad_101 : decode cX12_readRoad 101 = .ok (.aload_n 0, 1) := by decide +kernel
theorem dX12_readRoad_102 : decode cX12_readRoad 102 = .ok (.getfield 138, 3) := by decide +kernel
theorem dX12_readRoad_105 : decode cX12_readRoad 105 = .ok (.ifCond .ne 13, 3) := by decide +kernel
theorem dX12_readRoad_108 : decode cX12_readRoad 108 = .ok (.aload_n 0, 1) := by decide +kernel
theorem dX12_readRoad_109 : decode cX12_readRoad 109 = .ok (.getfield 24, 3) := by decide +kernel
theorem dX12_readRoad_112 : decode cX12_readRoad 112 = .ok (.iconst 2, 1) := by decide +kernel
theorem dX12_readRoad_113 : decode cX12_readRoad 113 = .ok (.dup2, 1) := by decide +kernel
theorem dX12_readRoad_114 : decode cX12_readRoad 114 = .ok (.iaload, 1) := by decide +kernel
theorem dX12_readRoad_115 : decode cX12_readRoad 115 = .ok (.iconst 1, 1) := by decide +kernel
theorem dX12_readRoad_116 : decode cX12_readRoad 116 = .ok (.iadd, 1) := by decide +kernel
theorem dX12_readRoad_117 : decode cX12_readRoad 117 = .ok (.iastore, 1) := by decide +kernel
theorem dX12_readRoad_118 : decode cX12_readRoad 118 = .ok (.return_, 1) := by decide +kernel
theorem dX12_readPerson_0 : decode cX12_readPerson 0 = .ok (.aload_n 0, 1) := by decide +kernel
theorem dX12_readPerson_1 : decode cX12_readPerson 1 = .ok (.getfield 24, 3) := by decide +kernel
theorem dX12_readPerson_4 : decode cX12_readPerson 4 = .ok (.iconst 3, 1) := by decide +kernel
theorem dX12_readPerson_5 : decode cX12_readPerson 5 = .ok (.iaload, 1) := by decide +kernel
theorem dX12_readPerson_6 : decode cX12_readPerson 6 = .ok (.istore_n 1, 1) := by decide +kernel
theorem dX12_readPerson_7 : decode cX12_readPerson 7 = .ok (.iload_n 1, 1) := by decide +kernel
theorem dX12_readPerson_8 : decode cX12_readPerson 8 = .ok (.bipush 8, 2) := by decide +kernel
theorem dX12_readPerson_10 : decode cX12_readPerson 10 = .ok (.if_icmp .ne 8, 3) := by decide +kernel
theorem dX12_readPerson_13 : decode cX12_readPerson 13 = .ok (.aload_n 0, 1) := by decide +kernel
theorem dX12_readPerson_14 : decode cX12_readPerson 14 = .ok (.iconst 4, 1) := by decide +kernel
theorem dX12_readPerson_15 : decode cX12_readPerson 15 = .ok (.invokevirtual 150, 3) := by decide +kernel
theorem dX12_readPerson_18 : decode cX12_readPerson 18 = .ok (.aload_n 0, 1) := by decide +kernel
theorem dX12_readPerson_19 : decode cX12_readPerson 19 = .ok (.getfield 138, 3) := by decide +kernel
theorem dX12_readPerson_22 : decode cX12_readPerson 22 = .ok (.ifCond .eq 4, 3) := by decide +kernel
theorem dX12_readPerson_25 : decode cX12_readPerson 25 = .ok (.return_, 1) := by decide +kernel
theorem dX12_readPerson_26 : decode cX12_readPerson 26 = .ok (.aload_n 0, 1) := by decide +kernel
theorem dX12_readPerson_27 : decode cX12_readPerson 27 = .ok (.invokevirtual 147, 3) := by decide +kernel
theorem dX12_readPerson_30 : decode cX12_readPerson 30 = .ok (.aload_n 0, 1) := by decide +kernel
theorem dX12_readPerson_31 : decode cX12_readPerson 31 = .ok (.getfield 24, 3) := by decide +kernel
theorem dX12_readPerson_34 : decode cX12_readPerson 34 = .ok (.bipush 38, 2) := by decide +kernel
theorem dX12_readPerson_36 : decode cX12_readPerson 36 = .ok (.iload_n 1, 1) := by decide +kernel
theorem dX12_readPerson_37 : decode cX12_readPerson 37 = .ok (.iadd, 1) := by decide +kernel
theorem dX12_readPerson_38 : decode cX12_readPerson 38 = .ok (.aload_n 0, 1) := by decide +kernel
theorem dX12_readPerson_39 : decode cX12_readPerson 39 = .ok (.bipush 6, 2) := by decide +kernel
theorem dX12_readPerson_41 : decode cX12_readPerson 41 = .ok (.iconst 0, 1) := by decide +kernel
theorem dX12_readPerson_42 : decode cX12_readPerson 42 = .ok (.aload_n 0, 1) := by decide +kernel
theorem dX12_readPerson_43 : decode cX12_readPerson 43 = .ok (.getfield 24, 3) := by decide +kernel
theorem dX12_readPerson_46 : decode cX12_readPerson 46 = .ok (.iconst 1, 1) := by decide +kernel
theorem dX12_readPerson_47 : decode cX12_readPerson 47 = .ok (.iaload, 1) := by decide +kernel
theorem dX12_readPerson_48 : decode cX12_readPerson 48 = .ok (.iconst 1, 1) := by decide +kernel
theorem dX12_readPerson_49 : decode cX12_readPerson 49 = .ok (.isub, 1) := by decide +kernel
theorem dX12_readPerson_50 : decode cX12_readPerson 50 = .ok (.invokevirtual 201, 3) := by decide +kernel
theorem dX12_readPerson_53 : decode cX12_readPerson 53 = .ok (.iastore, 1) := by decide +kernel
theorem dX12_readPerson_54 : decode cX12_readPerson 54 = .ok (.aload_n 0, 1) := by decide +kernel
theorem dX12_readPerson_55 : decode cX12_readPerson 55 = .ok (.getfield 24, 3) := by decide +kernel
theorem dX12_readPerson_58 : decode cX12_readPerson 58 = .ok (.bipush 46, 2) := by decide +kernel
theorem dX12_readPerson_60 : decode cX12_readPerson 60 = .ok (.iload_n 1, 1) := by decide +kernel
theorem dX12_readPerson_61 : decode cX12_readPerson 61 = .ok (.iadd, 1) := by decide +kernel
theorem dX12_readPerson_62 : decode cX12_readPerson 62 = .ok (.aload_n 0, 1) := by decide +kernel
theorem dX12_readPerson_63 : decode cX12_readPerson 63 = .ok (.bipush 7, 2) := by decide +kernel
theorem dX12_readPerson_65 : decode cX12_readPerson 65 = .ok (.iconst 0, 1) := by decide +kernel
theorem dX12_readPerson_66 : decode cX12_readPerson 66 = .ok (.bipush 9, 2) := by decide +kernel
theorem dX12_readPerson_68 : decode cX12_readPerson 68 = .ok (.invokevirtual 201, 3) := by decide +kernel
theorem dX12_readPerson_71 : decode cX12_readPerson 71 = .ok (.iastore, 1) := by decide +kernel
theorem dX12_readPerson_72 : decode cX12_readPerson 72 = .ok (.aload_n 0, 1) := by decide +kernel
theorem dX12_readPerson_73 : decode cX12_readPerson 73 = .ok (.getfield 138, 3) := by decide +kernel
theorem dX12_readPerson_76 : decode cX12_readPerson 76 = .ok (.ifCond .ne 13, 3) := by decide +kernel
theorem dX12_readPerson_79 : decode cX12_readPerson 79 = .ok (.aload_n 0, 1) := by decide +kernel
theorem dX12_readPerson_80 : decode cX12_readPerson 80 = .ok (.getfield 24, 3) := by decide +kernel
theorem dX12_readPerson_83 : decode cX12_readPerson 83 = .ok (.iconst 3, 1) := by decide +kernel
theorem dX12_readPerson_84 : decode cX12_readPerson 84 = .ok (.dup2, 1) := by decide +kernel
theorem dX12_readPerson_85 : decode cX12_readPerson 85 = .ok (.iaload, 1) := by decide +kernel
theorem dX12_readPerson_86 : decode cX12_readPerson 86 = .ok (.iconst 1, 1) := by decide +kernel
theorem dX12_readPerson_87 : decode cX12_readPerson 87 = .ok (.iadd, 1) := by decide +kernel
theorem dX12_readPerson_88 : decode cX12_readPerson 88 = .ok (.iastore, 1) := by decide +kernel
theorem dX12_readPerson_89 : decode cX12_readPerson 89 = .ok (.return_, 1) := by decide +kernel
theorem dX12_readQuarrel_0 : decode cX12_readQuarrel 0 = .ok (.aload_n 0, 1) := by decide +kernel
theorem dX12_readQuarrel_1 : decode cX12_readQuarrel 1 = .ok (.invokevirtual 147, 3) := by decide +kernel
theorem dX12_readQuarrel_4 : decode cX12_readQuarrel 4 = .ok (.aload_n 0, 1) := by decide +kernel
theorem dX12_readQuarrel_5 : decode cX12_readQuarrel 5 = .ok (.iconst 0, 1) := by decide +kernel
theorem dX12_readQuarrel_6 : decode cX12_readQuarrel 6 = .ok (.aload_n 0, 1) := by decide +kernel
theorem dX12_readQuarrel_7 : decode cX12_readQuarrel 7 = .ok (.getfield 24, 3) := by decide +kernel
theorem dX12_readQuarrel_10 : decode cX12_readQuarrel 10 = .ok (.iconst 3, 1) := by decide +kernel
theorem dX12_readQuarrel_11 : decode cX12_readQuarrel 11 = .ok (.iaload, 1) := by decide +kernel
theorem dX12_readQuarrel_12 : decode cX12_readQuarrel 12 = .ok (.iconst 1, 1) := by decide +kernel
theorem dX12_readQuarrel_13 : decode cX12_readQuarrel 13 = .ok (.isub, 1) := by decide +kernel
theorem dX12_readQuarrel_14 : decode cX12_readQuarrel 14 = .ok (.invokevirtual 194, 3) := by decide +kernel
theorem dX12_readQuarrel_17 : decode cX12_readQuarrel 17 = .ok (.istore_n 1, 1) := by decide +kernel
theorem dX12_readQuarrel_18 : decode cX12_readQuarrel 18 = .ok (.aload_n 0, 1) := by decide +kernel
theorem dX12_readQuarrel_19 : decode cX12_readQuarrel 19 = .ok (.iload_n 1, 1) := by decide +kernel
theorem dX12_readQuarrel_20 : decode cX12_readQuarrel 20 = .ok (.aload_n 0, 1) := by decide +kernel
theorem dX12_readQuarrel_21 : decode cX12_readQuarrel 21 = .ok (.getfield 24, 3) := by decide +kernel
theorem dX12_readQuarrel_24 : decode cX12_readQuarrel 24 = .ok (.iconst 3, 1) := by decide +kernel
theorem dX12_readQuarrel_25 : decode cX12_readQuarrel 25 = .ok (.iaload, 1) := by decide +kernel
theorem dX12_readQuarrel_26 : decode cX12_readQuarrel 26 = .ok (.iconst 1, 1) := by decide +kernel
theorem dX12_readQuarrel_27 : decode cX12_readQuarrel 27 = .ok (.isub, 1) := by decide +kernel
theorem dX12_readQuarrel_28 : decode cX12_readQuarrel 28 = .ok (.invokevirtual 198, 3) := by decide +kernel
theorem dX12_readQuarrel_31 : decode cX12_readQuarrel 31 = .ok (.istore_n 2, 1) := by decide +kernel
theorem dX12_readQuarrel_32 : decode cX12_readQuarrel 32 = .ok (.aload_n 0, 1) := by decide +kernel
theorem dX12_readQuarrel_33 : decode cX12_readQuarrel 33 = .ok (.getfield 138, 3) := by decide +kernel
theorem dX12_readQuarrel_36 : decode cX12_readQuarrel 36 = .ok (.ifCond .eq 4, 3) := by decide +kernel
theorem dX12_readQuarrel_39 : decode cX12_readQuarrel 39 = .ok (.return_, 1) := by decide +kernel
theorem dX12_readQuarrel_40 : decode cX12_readQuarrel 40 = .ok (.aload_n 0, 1) := by decide +kernel
theorem dX12_readQuarrel_41 : decode cX12_readQuarrel 41 = .ok (.getfield 24, 3) := by decide +kernel
theorem dX12_readQuarrel_44 : decode cX12_readQuarrel 44 = .ok (.bipush 70, 2) := by decide +kernel
theorem dX12_readQuarrel_46 : decode cX12_readQuarrel 46 = .ok (.iload_n 1, 1) := by decide +kernel
theorem dX12_readQuarrel_47 : decode cX12_readQuarrel 47 = .ok (.iadd, 1) := by decide +kernel
theorem dX12_readQuarrel_48 : decode cX12_readQuarrel 48 = .ok (.dup2, 1) := by decide +kernel
theorem dX12_readQuarrel_49 : decode cX12_readQuarrel 49 = .ok (.iaload, 1) := by decide +kernel
theorem dX12_readQuarrel_50 : decode cX12_readQuarrel 50 = .ok (.iconst 1, 1) := by decide +kernel
theorem dX12_readQuarrel_51 : decode cX12_readQuarrel 51 = .ok (.iload_n 2, 1) := by decide +kernel
theorem dX12_readQuarrel_52 : decode cX12_readQuarrel 52 = .ok (.ishl, 1) := by decide +kernel
theorem dX12_readQuarrel_53 : decode cX12_readQuarrel 53 = .ok (.ior, 1) := by decide +kernel
theorem dX12_readQuarrel_54 : decode cX12_readQuarrel 54 = .ok (.iastore, 1) := by decide +kernel
theorem dX12_readQuarrel_55 : decode cX12_readQuarrel 55 = .ok (.aload_n 0, 1) := by decide +kernel
theorem dX12_readQuarrel_56 : decode cX12_readQuarrel 56 = .ok (.getfield 24, 3) := by decide +kernel
theorem dX12_readQuarrel_59 : decode cX12_readQuarrel 59 = .ok (.bipush 70, 2) := by decide +kernel
theorem dX12_readQuarrel_61 : decode cX12_readQuarrel 61 = .ok (.iload_n 2, 1) := by decide +kernel
theorem dX12_readQuarrel_62 : decode cX12_readQuarrel 62 = .ok (.iadd, 1) := by decide +kernel
theorem dX12_readQuarrel_63 : decode cX12_readQuarrel 63 = .ok (.dup2, 1) := by decide +kernel
theorem dX12_readQuarrel_64 : decode cX12_readQuarrel 64 = .ok (.iaload, 1) := by decide +kernel
theorem dX12_readQuarrel_65 : decode cX12_readQuarrel 65 = .ok (.iconst 1, 1) := by decide +kernel
theorem dX12_readQuarrel_66 : decode cX12_readQuarrel 66 = .ok (.iload_n 1, 1) := by decide +kernel
theorem dX12_readQuarrel_67 : decode cX12_readQuarrel 67 = .ok (.ishl, 1) := by decide +kernel
theorem dX12_readQuarrel_68 : decode cX12_readQuarrel 68 = .ok (.ior, 1) := by decide +kernel
theorem dX12_readQuarrel_69 : decode cX12_readQuarrel 69 = .ok (.iastore, 1) := by decide +kernel
theorem dX12_readQuarrel_70 : decode cX12_readQuarrel 70 = .ok (.return_, 1) := by decide +kernel
theorem dX12_readCoin_0 : decode cX12_readCoin 0 = .ok (.aload_n 0, 1) := by decide +kernel
theorem dX12_readCoin_1 : decode cX12_readCoin 1 = .ok (.getfield 24, 3) := by decide +kernel
theorem dX12_readCoin_4 : decode cX12_readCoin 4 = .ok (.iconst 4, 1) := by decide +kernel
theorem dX12_readCoin_5 : decode cX12_readCoin 5 = .ok (.iaload, 1) := by decide +kernel
theorem dX12_readCoin_6 : decode cX12_readCoin 6 = .ok (.istore_n 1, 1) := by decide +kernel
theorem dX12_readCoin_7 : decode cX12_readCoin 7 = .ok (.iload_n 1, 1) := by decide +kernel
theorem dX12_readCoin_8 : decode cX12_readCoin 8 = .ok (.iconst 4, 1) := by decide +kernel
theorem dX12_readCoin_9 : decode cX12_readCoin 9 = .ok (.if_icmp .ne 8, 3) := by decide +kernel
theorem dX12_readCoin_12 : decode cX12_readCoin 12 = .ok (.aload_n 0, 1) := by decide +kernel
theorem dX12_readCoin_13 : decode cX12_readCoin 13 = .ok (.iconst 4, 1) := by decide +kernel
theorem dX12_readCoin_14 : decode cX12_readCoin 14 = .ok (.invokevirtual 150, 3) := by decide +kernel
theorem dX12_readCoin_17 : decode cX12_readCoin 17 = .ok (.aload_n 0, 1) := by decide +kernel
theorem dX12_readCoin_18 : decode cX12_readCoin 18 = .ok (.getfield 138, 3) := by decide +kernel
theorem dX12_readCoin_21 : decode cX12_readCoin 21 = .ok (.ifCond .eq 4, 3) := by decide +kernel
theorem dX12_readCoin_24 : decode cX12_readCoin 24 = .ok (.return_, 1) := by decide +kernel
theorem dX12_readCoin_25 : decode cX12_readCoin 25 = .ok (.aload_n 0, 1) := by decide +kernel
theorem dX12_readCoin_26 : decode cX12_readCoin 26 = .ok (.invokevirtual 147, 3) := by decide +kernel
theorem dX12_readCoin_29 : decode cX12_readCoin 29 = .ok (.aload_n 0, 1) := by decide +kernel
theorem dX12_readCoin_30 : decode cX12_readCoin 30 = .ok (.getfield 24, 3) := by decide +kernel
theorem dX12_readCoin_33 : decode cX12_readCoin 33 = .ok (.bipush 62, 2) := by decide +kernel
theorem dX12_readCoin_35 : decode cX12_readCoin 35 = .ok (.iload_n 1, 1) := by decide +kernel
theorem dX12_readCoin_36 : decode cX12_readCoin 36 = .ok (.iadd, 1) := by decide +kernel
theorem dX12_readCoin_37 : decode cX12_readCoin 37 = .ok (.aload_n 0, 1) := by decide +kernel
theorem dX12_readCoin_38 : decode cX12_readCoin 38 = .ok (.bipush 6, 2) := by decide +kernel
theorem dX12_readCoin_40 : decode cX12_readCoin 40 = .ok (.iconst 0, 1) := by decide +kernel
theorem dX12_readCoin_41 : decode cX12_readCoin 41 = .ok (.aload_n 0, 1) := by decide +kernel
theorem dX12_readCoin_42 : decode cX12_readCoin 42 = .ok (.getfield 24, 3) := by decide +kernel
theorem dX12_readCoin_45 : decode cX12_readCoin 45 = .ok (.iconst 1, 1) := by decide +kernel
theorem dX12_readCoin_46 : decode cX12_readCoin 46 = .ok (.iaload, 1) := by decide +kernel
theorem dX12_readCoin_47 : decode cX12_readCoin 47 = .ok (.iconst 1, 1) := by decide +kernel
theorem dX12_readCoin_48 : decode cX12_readCoin 48 = .ok (.isub, 1) := by decide +kernel
theorem dX12_readCoin_49 : decode cX12_readCoin 49 = .ok (.invokevirtual 201, 3) := by decide +kernel
theorem dX12_readCoin_52 : decode cX12_readCoin 52 = .ok (.iastore, 1) := by decide +kernel
theorem dX12_readCoin_53 : decode cX12_readCoin 53 = .ok (.aload_n 0, 1) := by decide +kernel
theorem dX12_readCoin_54 : decode cX12_readCoin 54 = .ok (.getfield 24, 3) := by decide +kernel
theorem dX12_readCoin_57 : decode cX12_readCoin 57 = .ok (.bipush 54, 2) := by decide +kernel
theorem dX12_readCoin_59 : decode cX12_readCoin 59 = .ok (.iload_n 1, 1) := by decide +kernel
theorem dX12_readCoin_60 : decode cX12_readCoin 60 = .ok (.iadd, 1) := by decide +kernel
theorem dX12_readCoin_61 : decode cX12_readCoin 61 = .ok (.aload_n 0, 1) := by decide +kernel
theorem dX12_readCoin_62 : decode cX12_readCoin 62 = .ok (.bipush 10, 2) := by decide +kernel
theorem dX12_readCoin_64 : decode cX12_readCoin 64 = .ok (.iconst 0, 1) := by decide +kernel
theorem dX12_readCoin_65 : decode cX12_readCoin 65 = .ok (.bipush 99, 2) := by decide +kernel
theorem dX12_readCoin_67 : decode cX12_readCoin 67 = .ok (.invokevirtual 201, 3) := by decide +kernel
theorem dX12_readCoin_70 : decode cX12_readCoin 70 = .ok (.iastore, 1) := by decide +kernel
theorem dX12_readCoin_71 : decode cX12_readCoin 71 = .ok (.aload_n 0, 1) := by decide +kernel
theorem dX12_readCoin_72 : decode cX12_readCoin 72 = .ok (.getfield 24, 3) := by decide +kernel
theorem dX12_readCoin_75 : decode cX12_readCoin 75 = .ok (.bipush 58, 2) := by decide +kernel
theorem dX12_readCoin_77 : decode cX12_readCoin 77 = .ok (.iload_n 1, 1) := by decide +kernel
theorem dX12_readCoin_78 : decode cX12_readCoin 78 = .ok (.iadd, 1) := by decide +kernel
theorem dX12_readCoin_79 : decode cX12_readCoin 79 = .ok (.aload_n 0, 1) := by decide +kernel
theorem dX12_readCoin_80 : decode cX12_readCoin 80 = .ok (.bipush 11, 2) := by decide +kernel
theorem dX12_readCoin_82 : decode cX12_readCoin 82 = .ok (.iconst 0, 1) := by decide +kernel
theorem dX12_readCoin_83 : decode cX12_readCoin 83 = .ok (.bipush 99, 2) := by decide +kernel
theorem dX12_readCoin_85 : decode cX12_readCoin 85 = .ok (.invokevirtual 201, 3) := by decide +kernel
theorem dX12_readCoin_88 : decode cX12_readCoin 88 = .ok (.iastore, 1) := by decide +kernel
theorem dX12_readCoin_89 : decode cX12_readCoin 89 = .ok (.aload_n 0, 1) := by decide +kernel
theorem dX12_readCoin_90 : decode cX12_readCoin 90 = .ok (.getfield 138, 3) := by decide +kernel
theorem dX12_readCoin_93 : decode cX12_readCoin 93 = .ok (.ifCond .ne 13, 3) := by decide +kernel
theorem dX12_readCoin_96 : decode cX12_readCoin 96 = .ok (.aload_n 0, 1) := by decide +kernel
theorem dX12_readCoin_97 : decode cX12_readCoin 97 = .ok (.getfield 24, 3) := by decide +kernel
theorem dX12_readCoin_100 : decode cX12_readCoin 100 = .ok (.iconst 4, 1) := by decide +kernel
theorem dX12_readCoin_101 : decode cX12_readCoin 101 = .ok (.dup2, 1) := by decide +kernel
theorem dX12_readCoin_102 : decode cX12_readCoin 102 = .ok (.iaload, 1) := by decide +kernel
theorem dX12_readCoin_103 : decode cX12_readCoin 103 = .ok (.iconst 1, 1) := by decide +kernel
theorem dX12_readCoin_104 : decode cX12_readCoin 104 = .ok (.iadd, 1) := by decide +kernel
theorem dX12_readCoin_105 : decode cX12_readCoin 105 = .ok (.iastore, 1) := by decide +kernel
theorem dX12_readCoin_106 : decode cX12_readCoin 106 = .ok (.return_, 1) := by decide +kernel
theorem dX12_readLaw_0 : decode cX12_readLaw 0 = .ok (.aload_n 0, 1) := by decide +kernel
theorem dX12_readLaw_1 : decode cX12_readLaw 1 = .ok (.invokevirtual 147, 3) := by decide +kernel
theorem dX12_readLaw_4 : decode cX12_readLaw 4 = .ok (.aload_n 0, 1) := by decide +kernel
theorem dX12_readLaw_5 : decode cX12_readLaw 5 = .ok (.bipush 31, 2) := by decide +kernel
theorem dX12_readLaw_7 : decode cX12_readLaw 7 = .ok (.invokevirtual 173, 3) := by decide +kernel
theorem dX12_readLaw_10 : decode cX12_readLaw 10 = .ok (.ifCond .ne 8, 3) := by decide +kernel
theorem dX12_readLaw_13 : decode cX12_readLaw 13 = .ok (.aload_n 0, 1) := by decide +kernel
theorem dX12_readLaw_14 : decode cX12_readLaw 14 = .ok (.iconst 2, 1) := by decide +kernel
theorem dX12_readLaw_15 : decode cX12_readLaw 15 = .ok (.invokevirtual 150, 3) := by decide +kernel
theorem dX12_readLaw_18 : decode cX12_readLaw 18 = .ok (.aload_n 0, 1) := by decide +kernel
theorem dX12_readLaw_19 : decode cX12_readLaw 19 = .ok (.getfield 24, 3) := by decide +kernel
theorem dX12_readLaw_22 : decode cX12_readLaw 22 = .ok (.sipush 261, 3) := by decide +kernel
theorem dX12_readLaw_25 : decode cX12_readLaw 25 = .ok (.iaload, 1) := by decide +kernel
theorem dX12_readLaw_26 : decode cX12_readLaw 26 = .ok (.istore_n 2, 1) := by decide +kernel
theorem dX12_readLaw_27 : decode cX12_readLaw 27 = .ok (.aload_n 0, 1) := by decide +kernel
theorem dX12_readLaw_28 : decode cX12_readLaw 28 = .ok (.iload_n 1, 1) := by decide +kernel
theorem dX12_readLaw_29 : decode cX12_readLaw 29 = .ok (.putfield 158, 3) := by decide +kernel
theorem dX12_readLaw_32 : decode cX12_readLaw 32 = .ok (.iload_n 1, 1) := by decide +kernel
theorem dX12_readLaw_33 : decode cX12_readLaw 33 = .ok (.iconst 1, 1) := by decide +kernel
theorem dX12_readLaw_34 : decode cX12_readLaw 34 = .ok (.if_icmp .ne 11, 3) := by decide +kernel
theorem dX12_readLaw_37 : decode cX12_readLaw 37 = .ok (.aload_n 0, 1) := by decide +kernel
theorem dX12_readLaw_38 : decode cX12_readLaw 38 = .ok (.iconst 0, 1) := by decide +kernel
theorem dX12_readLaw_39 : decode cX12_readLaw 39 = .ok (.invokevirtual 170, 3) := by decide +kernel
theorem dX12_readLaw_42 : decode cX12_readLaw 42 = .ok (.goto 8, 3) := by decide +kernel
theorem dX12_readLaw_45 : decode cX12_readLaw 45 = .ok (.aload_n 0, 1) := by decide +kernel
theorem dX12_readLaw_46 : decode cX12_readLaw 46 = .ok (.iconst 0, 1) := by decide +kernel
theorem dX12_readLaw_47 : decode cX12_readLaw 47 = .ok (.invokevirtual 179, 3) := by decide +kernel
theorem dX12_readLaw_50 : decode cX12_readLaw 50 = .ok (.aload_n 0, 1) := by decide +kernel
theorem dX12_readLaw_51 : decode cX12_readLaw 51 = .ok (.getfield 138, 3) := by decide +kernel
theorem dX12_readLaw_54 : decode cX12_readLaw 54 = .ok (.ifCond .eq 4, 3) := by decide +kernel
theorem dX12_readLaw_57 : decode cX12_readLaw 57 = .ok (.return_, 1) := by decide +kernel
theorem dX12_readLaw_58 : decode cX12_readLaw 58 = .ok (.aload_n 0, 1) := by decide +kernel
theorem dX12_readLaw_59 : decode cX12_readLaw 59 = .ok (.getfield 24, 3) := by decide +kernel
theorem dX12_readLaw_62 : decode cX12_readLaw 62 = .ok (.iconst 5, 1) := by decide +kernel
theorem dX12_readLaw_63 : decode cX12_readLaw 63 = .ok (.iload_n 1, 1) := by decide +kernel
theorem dX12_readLaw_64 : decode cX12_readLaw 64 = .ok (.iadd, 1) := by decide +kernel
theorem dX12_readLaw_65 : decode cX12_readLaw 65 = .ok (.iconst 1, 1) := by decide +kernel
theorem dX12_readLaw_66 : decode cX12_readLaw 66 = .ok (.iastore, 1) := by decide +kernel
theorem dX12_readLaw_67 : decode cX12_readLaw 67 = .ok (.aload_n 0, 1) := by decide +kernel
theorem dX12_readLaw_68 : decode cX12_readLaw 68 = .ok (.getfield 24, 3) := by decide +kernel
theorem dX12_readLaw_71 : decode cX12_readLaw 71 = .ok (.bipush 7, 2) := by decide +kernel
theorem dX12_readLaw_73 : decode cX12_readLaw 73 = .ok (.iload_n 1, 1) := by decide +kernel
theorem dX12_readLaw_74 : decode cX12_readLaw 74 = .ok (.iadd, 1) := by decide +kernel
theorem dX12_readLaw_75 : decode cX12_readLaw 75 = .ok (.iload_n 2, 1) := by decide +kernel
theorem dX12_readLaw_76 : decode cX12_readLaw 76 = .ok (.iastore, 1) := by decide +kernel
theorem dX12_readLaw_77 : decode cX12_readLaw 77 = .ok (.aload_n 0, 1) := by decide +kernel
theorem dX12_readLaw_78 : decode cX12_readLaw 78 = .ok (.getfield 24, 3) := by decide +kernel
theorem dX12_readLaw_81 : decode cX12_readLaw 81 = .ok (.bipush 9, 2) := by decide +kernel
theorem dX12_readLaw_83 : decode cX12_readLaw 83 = .ok (.iload_n 1, 1) := by decide +kernel
theorem dX12_readLaw_84 : decode cX12_readLaw 84 = .ok (.iadd, 1) := by decide +kernel
theorem dX12_readLaw_85 : decode cX12_readLaw 85 = .ok (.aload_n 0, 1) := by decide +kernel
theorem dX12_readLaw_86 : decode cX12_readLaw 86 = .ok (.getfield 24, 3) := by decide +kernel
theorem dX12_readLaw_89 : decode cX12_readLaw 89 = .ok (.sipush 261, 3) := by decide +kernel
theorem dX12_readLaw_92 : decode cX12_readLaw 92 = .ok (.iaload, 1) := by decide +kernel
theorem dX12_readLaw_93 : decode cX12_readLaw 93 = .ok (.iload_n 2, 1) := by decide +kernel
theorem dX12_readLaw_94 : decode cX12_readLaw 94 = .ok (.isub, 1) := by decide +kernel
theorem dX12_readLaw_95 : decode cX12_readLaw 95 = .ok (.iastore, 1) := by decide +kernel
theorem dX12_readLaw_96 : decode cX12_readLaw 96 = .ok (.return_, 1) := by decide +kernel
theorem dX12_readLine_0 : decode cX12_readLine 0 = .ok (.aload_n 0, 1) := by decide +kernel
theorem dX12_readLine_1 : decode cX12_readLine 1 = .ok (.getfield 138, 3) := by decide +kernel
theorem dX12_readLine_4 : decode cX12_readLine 4 = .ok (.ifCond .eq 4, 3) := by decide +kernel
theorem dX12_readLine_7 : decode cX12_readLine 7 = .ok (.return_, 1) := by decide +kernel
theorem dX12_readLine_8 : decode cX12_readLine 8 = .ok (.aload_n 0, 1) := by decide +kernel
theorem dX12_readLine_9 : decode cX12_readLine 9 = .ok (.iconst 3, 1) := by decide +kernel
theorem dX12_readLine_10 : decode cX12_readLine 10 = .ok (.invokevirtual 144, 3) := by decide +kernel
theorem dX12_readLine_13 : decode cX12_readLine 13 = .ok (.ifCond .eq 10, 3) := by decide +kernel
theorem dX12_readLine_16 : decode cX12_readLine 16 = .ok (.aload_n 0, 1) := by decide +kernel
theorem dX12_readLine_17 : decode cX12_readLine 17 = .ok (.invokevirtual 205, 3) := by decide +kernel
theorem dX12_readLine_20 : decode cX12_readLine 20 = .ok (.goto 87, 3) := by decide +kernel
theorem dX12_readLine_23 : decode cX12_readLine 23 = .ok (.aload_n 0, 1) := by decide +kernel
theorem dX12_readLine_24 : decode cX12_readLine 24 = .ok (.iconst 5, 1) := by decide +kernel
theorem dX12_readLine_25 : decode cX12_readLine 25 = .ok (.invokevirtual 144, 3) := by decide +kernel
theorem dX12_readLine_28 : decode cX12_readLine 28 = .ok (.ifCond .eq 10, 3) := by decide +kernel
theorem dX12_readLine_31 : decode cX12_readLine 31 = .ok (.aload_n 0, 1) := by decide +kernel
theorem dX12_readLine_32 : decode cX12_readLine 32 = .ok (.invokevirtual 208, 3) := by decide +kernel
theorem dX12_readLine_35 : decode cX12_readLine 35 = .ok (.goto 72, 3) := by decide +kernel
theorem dX12_readLine_38 : decode cX12_readLine 38 = .ok (.aload_n 0, 1) := by decide +kernel
theorem dX12_readLine_39 : decode cX12_readLine 39 = .ok (.bipush 8, 2) := by decide +kernel
theorem dX12_readLine_41 : decode cX12_readLine 41 = .ok (.invokevirtual 144, 3) := by decide +kernel
theorem dX12_readLine_44 : decode cX12_readLine 44 = .ok (.ifCond .eq 10, 3) := by decide +kernel
theorem dX12_readLine_47 : decode cX12_readLine 47 = .ok (.aload_n 0, 1) := by decide +kernel
theorem dX12_readLine_48 : decode cX12_readLine 48 = .ok (.invokevirtual 211, 3) := by decide +kernel
theorem dX12_readLine_51 : decode cX12_readLine 51 = .ok (.goto 56, 3) := by decide +kernel
theorem dX12_readLine_54 : decode cX12_readLine 54 = .ok (.aload_n 0, 1) := by decide +kernel
theorem dX12_readLine_55 : decode cX12_readLine 55 = .ok (.bipush 9, 2) := by decide +kernel
theorem dX12_readLine_57 : decode cX12_readLine 57 = .ok (.invokevirtual 144, 3) := by decide +kernel
theorem dX12_readLine_60 : decode cX12_readLine 60 = .ok (.ifCond .eq 10, 3) := by decide +kernel
theorem dX12_readLine_63 : decode cX12_readLine 63 = .ok (.aload_n 0, 1) := by decide +kernel
theorem dX12_readLine_64 : decode cX12_readLine 64 = .ok (.invokevirtual 214, 3) := by decide +kernel
theorem dX12_readLine_67 : decode cX12_readLine 67 = .ok (.goto 40, 3) := by decide +kernel
theorem dX12_readLine_70 : decode cX12_readLine 70 = .ok (.aload_n 0, 1) := by decide +kernel
theorem dX12_readLine_71 : decode cX12_readLine 71 = .ok (.bipush 12, 2) := by decide +kernel
theorem dX12_readLine_73 : decode cX12_readLine 73 = .ok (.invokevirtual 144, 3) := by decide +kernel
theorem dX12_readLine_76 : decode cX12_readLine 76 = .ok (.ifCond .ne 12, 3) := by decide +kernel
theorem dX12_readLine_79 : decode cX12_readLine 79 = .ok (.aload_n 0, 1) := by decide +kernel
theorem dX12_readLine_80 : decode cX12_readLine 80 = .ok (.bipush 13, 2) := by decide +kernel
theorem dX12_readLine_82 : decode cX12_readLine 82 = .ok (.invokevirtual 144, 3) := by decide +kernel
theorem dX12_readLine_85 : decode cX12_readLine 85 = .ok (.ifCond .eq 17, 3) := by decide +kernel
theorem dX12_readLine_88 : decode cX12_readLine 88 = .ok (.aload_n 0, 1) := by decide +kernel
theorem dX12_readLine_89 : decode cX12_readLine 89 = .ok (.aload_n 0, 1) := by decide +kernel
theorem dX12_readLine_90 : decode cX12_readLine 90 = .ok (.getfield 120, 3) := by decide +kernel
theorem dX12_readLine_93 : decode cX12_readLine 93 = .ok (.bipush 12, 2) := by decide +kernel
theorem dX12_readLine_95 : decode cX12_readLine 95 = .ok (.isub, 1) := by decide +kernel
theorem dX12_readLine_96 : decode cX12_readLine 96 = .ok (.invokevirtual 217, 3) := by decide +kernel
theorem dX12_readLine_99 : decode cX12_readLine 99 = .ok (.goto 8, 3) := by decide +kernel
theorem dX12_readLine_102 : decode cX12_readLine 102 = .ok (.aload_n 0, 1) := by decide +kernel
theorem dX12_readLine_103 : decode cX12_readLine 103 = .ok (.iconst 2, 1) := by decide +kernel
theorem dX12_readLine_104 : decode cX12_readLine 104 = .ok (.invokevirtual 150, 3) := by decide +kernel
theorem dX12_readLine_107 : decode cX12_readLine 107 = .ok (.return_, 1) := by decide +kernel
theorem dX12_closes_0 : decode cX12_closes 0 = .ok (.aload_n 0, 1) := by decide +kernel
theorem dX12_closes_1 : decode cX12_closes 1 = .ok (.bipush 30, 2) := by decide +kernel
theorem dX12_closes_3 : decode cX12_closes 3 = .ok (.invokevirtual 173, 3) := by decide +kernel
theorem dX12_closes_6 : decode cX12_closes 6 = .ok (.ifCond .ne 8, 3) := by decide +kernel
theorem dX12_closes_9 : decode cX12_closes 9 = .ok (.aload_n 0, 1) := by decide +kernel
theorem dX12_closes_10 : decode cX12_closes 10 = .ok (.iconst 2, 1) := by decide +kernel
theorem dX12_closes_11 : decode cX12_closes 11 = .ok (.invokevirtual 150, 3) := by decide +kernel
theorem dX12_closes_14 : decode cX12_closes 14 = .ok (.aload_n 0, 1) := by decide +kernel
theorem dX12_closes_15 : decode cX12_closes 15 = .ok (.getfield 24, 3) := by decide +kernel
theorem dX12_closes_18 : decode cX12_closes 18 = .ok (.iconst 0, 1) := by decide +kernel
theorem dX12_closes_19 : decode cX12_closes 19 = .ok (.dup2, 1) := by decide +kernel
theorem dX12_closes_20 : decode cX12_closes 20 = .ok (.iaload, 1) := by decide +kernel
theorem dX12_closes_21 : decode cX12_closes 21 = .ok (.iconst 1, 1) := by decide +kernel
theorem dX12_closes_22 : decode cX12_closes 22 = .ok (.iadd, 1) := by decide +kernel
theorem dX12_closes_23 : decode cX12_closes 23 = .ok (.iastore, 1) := by decide +kernel
theorem dX12_closes_24 : decode cX12_closes 24 = .ok (.return_, 1) := by decide +kernel
theorem dX12_valley_0 : decode cX12_valley 0 = .ok (.aload_n 0, 1) := by decide +kernel
theorem dX12_valley_1 : decode cX12_valley 1 = .ok (.iconst 0, 1) := by decide +kernel
theorem dX12_valley_2 : decode cX12_valley 2 = .ok (.putfield 1, 3) := by decide +kernel
theorem dX12_valley_5 : decode cX12_valley 5 = .ok (.iload_n 1, 1) := by decide +kernel
theorem dX12_valley_6 : decode cX12_valley 6 = .ok (.i2l, 1) := by decide +kernel
theorem dX12_valley_7 : decode cX12_valley 7 = .ok (.lconst 0, 1) := by decide +kernel
theorem dX12_valley_8 : decode cX12_valley 8 = .ok (.aload_n 0, 1) := by decide +kernel
theorem dX12_valley_9 : decode cX12_valley 9 = .ok (.getfield 92, 3) := by decide +kernel
theorem dX12_valley_12 : decode cX12_valley 12 = .ok (.i2l, 1) := by decide +kernel
theorem dX12_valley_13 : decode cX12_valley 13 = .ok (.invokestatic 154, 3) := by decide +kernel
theorem dX12_valley_16 : decode cX12_valley 16 = .ok (.ifCond .ne 6, 3) := by decide +kernel
theorem dX12_valley_19 : decode cX12_valley 19 = .ok (.bipush (-3), 2) := by decide +kernel
theorem dX12_valley_21 : decode cX12_valley 21 = .ok (.ireturn, 1) := by decide +kernel
theorem dX12_valley_22 : decode cX12_valley 22 = .ok (.aload_n 0, 1) := by decide +kernel
theorem dX12_valley_23 : decode cX12_valley 23 = .ok (.iload_n 1, 1) := by decide +kernel
theorem dX12_valley_24 : decode cX12_valley 24 = .ok (.putfield 95, 3) := by decide +kernel
theorem dX12_valley_27 : decode cX12_valley 27 = .ok (.aload_n 0, 1) := by decide +kernel
theorem dX12_valley_28 : decode cX12_valley 28 = .ok (.iconst 0, 1) := by decide +kernel
theorem dX12_valley_29 : decode cX12_valley 29 = .ok (.putfield 92, 3) := by decide +kernel
theorem dX12_valley_32 : decode cX12_valley 32 = .ok (.aload_n 0, 1) := by decide +kernel
theorem dX12_valley_33 : decode cX12_valley 33 = .ok (.iconst 0, 1) := by decide +kernel
theorem dX12_valley_34 : decode cX12_valley 34 = .ok (.putfield 113, 3) := by decide +kernel
theorem dX12_valley_37 : decode cX12_valley 37 = .ok (.aload_n 0, 1) := by decide +kernel
theorem dX12_valley_38 : decode cX12_valley 38 = .ok (.iconst 0, 1) := by decide +kernel
theorem dX12_valley_39 : decode cX12_valley 39 = .ok (.putfield 138, 3) := by decide +kernel
theorem dX12_valley_42 : decode cX12_valley 42 = .ok (.aload_n 0, 1) := by decide +kernel
theorem dX12_valley_43 : decode cX12_valley 43 = .ok (.getfield 24, 3) := by decide +kernel
theorem dX12_valley_46 : decode cX12_valley 46 = .ok (.invokestatic 88, 3) := by decide +kernel
theorem dX12_valley_49 : decode cX12_valley 49 = .ok (.aload_n 0, 1) := by decide +kernel
theorem dX12_valley_50 : decode cX12_valley 50 = .ok (.invokevirtual 147, 3) := by decide +kernel
theorem dX12_valley_53 : decode cX12_valley 53 = .ok (.aload_n 0, 1) := by decide +kernel
theorem dX12_valley_54 : decode cX12_valley 54 = .ok (.iconst 0, 1) := by decide +kernel
theorem dX12_valley_55 : decode cX12_valley 55 = .ok (.invokevirtual 173, 3) := by decide +kernel
theorem dX12_valley_58 : decode cX12_valley 58 = .ok (.ifCond .ne 8, 3) := by decide +kernel
theorem dX12_valley_61 : decode cX12_valley 61 = .ok (.aload_n 0, 1) := by decide +kernel
theorem dX12_valley_62 : decode cX12_valley 62 = .ok (.iconst 2, 1) := by decide +kernel
theorem dX12_valley_63 : decode cX12_valley 63 = .ok (.invokevirtual 150, 3) := by decide +kernel
theorem dX12_valley_66 : decode cX12_valley 66 = .ok (.aload_n 0, 1) := by decide +kernel
theorem dX12_valley_67 : decode cX12_valley 67 = .ok (.getfield 24, 3) := by decide +kernel
theorem dX12_valley_70 : decode cX12_valley 70 = .ok (.iconst 1, 1) := by decide +kernel
theorem dX12_valley_71 : decode cX12_valley 71 = .ok (.aload_n 0, 1) := by decide +kernel
theorem dX12_valley_72 : decode cX12_valley 72 = .ok (.iconst 1, 1) := by decide +kernel
theorem dX12_valley_73 : decode cX12_valley 73 = .ok (.iconst 1, 1) := by decide +kernel
theorem dX12_valley_74 : decode cX12_valley 74 = .ok (.bipush 6, 2) := by decide +kernel
theorem dX12_valley_76 : decode cX12_valley 76 = .ok (.invokevirtual 201, 3) := by decide +kernel
theorem dX12_valley_79 : decode cX12_valley 79 = .ok (.iastore, 1) := by decide +kernel
theorem dX12_valley_80 : decode cX12_valley 80 = .ok (.aload_n 0, 1) := by decide +kernel
theorem dX12_valley_81 : decode cX12_valley 81 = .ok (.getfield 24, 3) := by decide +kernel
theorem dX12_valley_84 : decode cX12_valley 84 = .ok (.bipush 78, 2) := by decide +kernel
theorem dX12_valley_86 : decode cX12_valley 86 = .ok (.aload_n 0, 1) := by decide +kernel
theorem dX12_valley_87 : decode cX12_valley 87 = .ok (.iconst 2, 1) := by decide +kernel
theorem dX12_valley_88 : decode cX12_valley 88 = .ok (.iconst 0, 1) := by decide +kernel
theorem dX12_valley_89 : decode cX12_valley 89 = .ok (.bipush 9, 2) := by decide +kernel
theorem dX12_valley_91 : decode cX12_valley 91 = .ok (.invokevirtual 201, 3) := by decide +kernel
theorem dX12_valley_94 : decode cX12_valley 94 = .ok (.iastore, 1) := by decide +kernel
theorem dX12_valley_95 : decode cX12_valley 95 = .ok (.aload_n 0, 1) := by decide +kernel
theorem dX12_valley_96 : decode cX12_valley 96 = .ok (.invokevirtual 220, 3) := by decide +kernel
theorem dX12_valley_99 : decode cX12_valley 99 = .ok (.aload_n 0, 1) := by decide +kernel
theorem dX12_valley_100 : decode cX12_valley 100 = .ok (.getfield 138, 3) := by decide +kernel
theorem dX12_valley_103 : decode cX12_valley 103 = .ok (.ifCond .ne 23, 3) := by decide +kernel
theorem dX12_valley_106 : decode cX12_valley 106 = .ok (.aload_n 0, 1) := by decide +kernel
theorem dX12_valley_107 : decode cX12_valley 107 = .ok (.getfield 120, 3) := by decide +kernel
theorem dX12_valley_110 : decode cX12_valley 110 = .ok (.bipush 26, 2) := by decide +kernel
theorem dX12_valley_112 : decode cX12_valley 112 = .ok (.if_icmp .eq 14, 3) := by decide +kernel
theorem dX12_valley_115 : decode cX12_valley 115 = .ok (.aload_n 0, 1) := by decide +kernel
theorem dX12_valley_116 : decode cX12_valley 116 = .ok (.invokevirtual 223, 3) := by decide +kernel
theorem dX12_valley_119 : decode cX12_valley 119 = .ok (.aload_n 0, 1) := by decide +kernel
theorem dX12_valley_120 : decode cX12_valley 120 = .ok (.invokevirtual 220, 3) := by decide +kernel
theorem dX12_valley_123 : decode cX12_valley 123 = .ok (.goto (-24), 3) := by decide +kernel
theorem dX12_valley_126 : decode cX12_valley 126 = .ok (.aload_n 0, 1) := by decide +kernel
theorem dX12_valley_127 : decode cX12_valley 127 = .ok (.aload_n 0, 1) := by decide +kernel
theorem dX12_valley_128 : decode cX12_valley 128 = .ok (.getfield 138, 3) := by decide +kernel
theorem dX12_valley_131 : decode cX12_valley 131 = .ok (.putfield 226, 3) := by decide +kernel
theorem dX12_valley_134 : decode cX12_valley 134 = .ok (.aload_n 0, 1) := by decide +kernel
theorem dX12_valley_135 : decode cX12_valley 135 = .ok (.aload_n 0, 1) := by decide +kernel
theorem dX12_valley_136 : decode cX12_valley 136 = .ok (.getfield 138, 3) := by decide +kernel
theorem dX12_valley_139 : decode cX12_valley 139 = .ok (.ifCond .ne 7, 3) := by decide +kernel
theorem dX12_valley_142 : decode cX12_valley 142 = .ok (.iconst (-1), 1) := by decide +kernel
theorem dX12_valley_143 : decode cX12_valley 143 = .ok (.goto 7, 3) := by decide +kernel
theorem dX12_valley_146 : decode cX12_valley 146 = .ok (.aload_n 0, 1) := by decide +kernel
theorem dX12_valley_147 : decode cX12_valley 147 = .ok (.getfield 141, 3) := by decide +kernel
theorem dX12_valley_150 : decode cX12_valley 150 = .ok (.putfield 27, 3) := by decide +kernel
theorem dX12_valley_153 : decode cX12_valley 153 = .ok (.aload_n 0, 1) := by decide +kernel
theorem dX12_valley_154 : decode cX12_valley 154 = .ok (.getfield 138, 3) := by decide +kernel
theorem dX12_valley_157 : decode cX12_valley 157 = .ok (.ifCond .eq 11, 3) := by decide +kernel
theorem dX12_valley_160 : decode cX12_valley 160 = .ok (.bipush (-30), 2) := by decide +kernel
theorem dX12_valley_162 : decode cX12_valley 162 = .ok (.aload_n 0, 1) := by decide +kernel
theorem dX12_valley_163 : decode cX12_valley 163 = .ok (.getfield 138, 3) := by decide +kernel
theorem dX12_valley_166 : decode cX12_valley 166 = .ok (.isub, 1) := by decide +kernel
theorem dX12_valley_167 : decode cX12_valley 167 = .ok (.ireturn, 1) := by decide +kernel
theorem dX12_valley_168 : decode cX12_valley 168 = .ok (.iconst 0, 1) := by decide +kernel
theorem dX12_valley_169 : decode cX12_valley 169 = .ok (.istore_n 2, 1) := by decide +kernel
theorem dX12_valley_170 : decode cX12_valley 170 = .ok (.iload_n 2, 1) := by decide +kernel
theorem dX12_valley_171 : decode cX12_valley 171 = .ok (.sipush 1162, 3) := by decide +kernel
theorem dX12_valley_174 : decode cX12_valley 174 = .ok (.if_icmp .ge 21, 3) := by decide +kernel
theorem dX12_valley_177 : decode cX12_valley 177 = .ok (.aload_n 0, 1) := by decide +kernel
theorem dX12_valley_178 : decode cX12_valley 178 = .ok (.getfield 13, 3) := by decide +kernel
theorem dX12_valley_181 : decode cX12_valley 181 = .ok (.iload_n 2, 1) := by decide +kernel
theorem dX12_valley_182 : decode cX12_valley 182 = .ok (.aload_n 0, 1) := by decide +kernel
theorem dX12_valley_183 : decode cX12_valley 183 = .ok (.getfield 24, 3) := by decide +kernel
theorem dX12_valley_186 : decode cX12_valley 186 = .ok (.iload_n 2, 1) := by decide +kernel
theorem dX12_valley_187 : decode cX12_valley 187 = .ok (.iaload, 1) := by decide +kernel
theorem dX12_valley_188 : decode cX12_valley 188 = .ok (.iastore, 1) := by decide +kernel
theorem dX12_valley_189 : decode cX12_valley 189 = .ok (.iinc 2 1, 3) := by decide +kernel
theorem dX12_valley_192 : decode cX12_valley 192 = .ok (.goto (-22), 3) := by decide +kernel
theorem dX12_valley_195 : decode cX12_valley 195 = .ok (.aload_n 0, 1) := by decide +kernel
theorem dX12_valley_196 : decode cX12_valley 196 = .ok (.getfield 13, 3) := by decide +kernel
theorem dX12_valley_199 : decode cX12_valley 199 = .ok (.iconst 0, 1) := by decide +kernel
theorem dX12_valley_200 : decode cX12_valley 200 = .ok (.iaload, 1) := by decide +kernel
theorem dX12_valley_201 : decode cX12_valley 201 = .ok (.ireturn, 1) := by decide +kernel
theorem dX12_fault_0 : decode cX12_fault 0 = .ok (.aload_n 0, 1) := by decide +kernel
theorem dX12_fault_1 : decode cX12_fault 1 = .ok (.iconst 0, 1) := by decide +kernel
theorem dX12_fault_2 : decode cX12_fault 2 = .ok (.putfield 1, 3) := by decide +kernel
theorem dX12_fault_5 : decode cX12_fault 5 = .ok (.iload_n 1, 1) := by decide +kernel
theorem dX12_fault_6 : decode cX12_fault 6 = .ok (.ifCond .ne 10, 3) := by decide +kernel
theorem dX12_fault_9 : decode cX12_fault 9 = .ok (.aload_n 0, 1) := by decide +kernel
theorem dX12_fault_10 : decode cX12_fault 10 = .ok (.getfield 226, 3) := by decide +kernel
theorem dX12_fault_13 : decode cX12_fault 13 = .ok (.goto 16, 3) := by decide +kernel
theorem dX12_fault_16 : decode cX12_fault 16 = .ok (.iload_n 1, 1) := by decide +kernel
theorem dX12_fault_17 : decode cX12_fault 17 = .ok (.iconst 1, 1) := by decide +kernel
theorem dX12_fault_18 : decode cX12_fault 18 = .ok (.if_icmp .ne 10, 3) := by decide +kernel
theorem dX12_fault_21 : decode cX12_fault 21 = .ok (.aload_n 0, 1) := by decide +kernel
theorem dX12_fault_22 : decode cX12_fault 22 = .ok (.getfield 27, 3) := by decide +kernel
theorem dX12_fault_25 : decode cX12_fault 25 = .ok (.goto 4, 3) := by decide +kernel
theorem dX12_fault_28 : decode cX12_fault 28 = .ok (.iconst (-1), 1) := by decide +kernel
theorem dX12_fault_29 : decode cX12_fault 29 = .ok (.ireturn, 1) := by decide +kernel
theorem dX12_isPlace_0 : decode cX12_isPlace 0 = .ok (.lload_n 1, 1) := by decide +kernel
theorem dX12_isPlace_1 : decode cX12_isPlace 1 = .ok (.lconst 0, 1) := by decide +kernel
theorem dX12_isPlace_2 : decode cX12_isPlace 2 = .ok (.aload_n 0, 1) := by decide +kernel
theorem dX12_isPlace_3 : decode cX12_isPlace 3 = .ok (.getfield 13, 3) := by decide +kernel
theorem dX12_isPlace_6 : decode cX12_isPlace 6 = .ok (.iconst 1, 1) := by decide +kernel
theorem dX12_isPlace_7 : decode cX12_isPlace 7 = .ok (.iaload, 1) := by decide +kernel
theorem dX12_isPlace_8 : decode cX12_isPlace 8 = .ok (.iconst 1, 1) := by decide +kernel
theorem dX12_isPlace_9 : decode cX12_isPlace 9 = .ok (.isub, 1) := by decide +kernel
theorem dX12_isPlace_10 : decode cX12_isPlace 10 = .ok (.i2l, 1) := by decide +kernel
theorem dX12_isPlace_11 : decode cX12_isPlace 11 = .ok (.invokestatic 154, 3) := by decide +kernel
theorem dX12_isPlace_14 : decode cX12_isPlace 14 = .ok (.ireturn, 1) := by decide +kernel
theorem dX12_isPerson_0 : decode cX12_isPerson 0 = .ok (.lload_n 1, 1) := by decide +kernel
theorem dX12_isPerson_1 : decode cX12_isPerson 1 = .ok (.lconst 0, 1) := by decide +kernel
theorem dX12_isPerson_2 : decode cX12_isPerson 2 = .ok (.aload_n 0, 1) := by decide +kernel
theorem dX12_isPerson_3 : decode cX12_isPerson 3 = .ok (.getfield 13, 3) := by decide +kernel
theorem dX12_isPerson_6 : decode cX12_isPerson 6 = .ok (.iconst 3, 1) := by decide +kernel
theorem dX12_isPerson_7 : decode cX12_isPerson 7 = .ok (.iaload, 1) := by decide +kernel
theorem dX12_isPerson_8 : decode cX12_isPerson 8 = .ok (.iconst 1, 1) := by decide +kernel
theorem dX12_isPerson_9 : decode cX12_isPerson 9 = .ok (.isub, 1) := by decide +kernel
theorem dX12_isPerson_10 : decode cX12_isPerson 10 = .ok (.i2l, 1) := by decide +kernel
theorem dX12_isPerson_11 : decode cX12_isPerson 11 = .ok (.invokestatic 154, 3) := by decide +kernel
theorem dX12_isPerson_14 : decode cX12_isPerson 14 = .ok (.ireturn, 1) := by decide +kernel
theorem dX12_isCoin_0 : decode cX12_isCoin 0 = .ok (.lload_n 1, 1) := by decide +kernel
theorem dX12_isCoin_1 : decode cX12_isCoin 1 = .ok (.lconst 0, 1) := by decide +kernel
theorem dX12_isCoin_2 : decode cX12_isCoin 2 = .ok (.aload_n 0, 1) := by decide +kernel
theorem dX12_isCoin_3 : decode cX12_isCoin 3 = .ok (.getfield 13, 3) := by decide +kernel
theorem dX12_isCoin_6 : decode cX12_isCoin 6 = .ok (.iconst 4, 1) := by decide +kernel
theorem dX12_isCoin_7 : decode cX12_isCoin 7 = .ok (.iaload, 1) := by decide +kernel
theorem dX12_isCoin_8 : decode cX12_isCoin 8 = .ok (.iconst 1, 1) := by decide +kernel
theorem dX12_isCoin_9 : decode cX12_isCoin 9 = .ok (.isub, 1) := by decide +kernel
theorem dX12_isCoin_10 : decode cX12_isCoin 10 = .ok (.i2l, 1) := by decide +kernel
theorem dX12_isCoin_11 : decode cX12_isCoin 11 = .ok (.invokestatic 154, 3) := by decide +kernel
theorem dX12_isCoin_14 : decode cX12_isCoin 14 = .ok (.ireturn, 1) := by decide +kernel
theorem dX12_isRoad_0 : decode cX12_isRoad 0 = .ok (.iload_n 1, 1) := by decide +kernel
theorem dX12_isRoad_1 : decode cX12_isRoad 1 = .ok (.i2l, 1) := by decide +kernel
theorem dX12_isRoad_2 : decode cX12_isRoad 2 = .ok (.lconst 0, 1) := by decide +kernel
theorem dX12_isRoad_3 : decode cX12_isRoad 3 = .ok (.aload_n 0, 1) := by decide +kernel
theorem dX12_isRoad_4 : decode cX12_isRoad 4 = .ok (.getfield 13, 3) := by decide +kernel
theorem dX12_isRoad_7 : decode cX12_isRoad 7 = .ok (.iconst 2, 1) := by decide +kernel
theorem dX12_isRoad_8 : decode cX12_isRoad 8 = .ok (.iaload, 1) := by decide +kernel
theorem dX12_isRoad_9 : decode cX12_isRoad 9 = .ok (.iconst 1, 1) := by decide +kernel
theorem dX12_isRoad_10 : decode cX12_isRoad 10 = .ok (.isub, 1) := by decide +kernel
theorem dX12_isRoad_11 : decode cX12_isRoad 11 = .ok (.i2l, 1) := by decide +kernel
theorem dX12_isRoad_12 : decode cX12_isRoad 12 = .ok (.invokestatic 154, 3) := by decide +kernel
theorem dX12_isRoad_15 : decode cX12_isRoad 15 = .ok (.ireturn, 1) := by decide +kernel
theorem dX12_joins_0 : decode cX12_joins 0 = .ok (.aload_n 0, 1) := by decide +kernel
theorem dX12_joins_1 : decode cX12_joins 1 = .ok (.getfield 13, 3) := by decide +kernel
theorem dX12_joins_4 : decode cX12_joins 4 = .ok (.bipush 11, 2) := by decide +kernel
theorem dX12_joins_6 : decode cX12_joins 6 = .ok (.iconst 3, 1) := by decide +kernel
theorem dX12_joins_7 : decode cX12_joins 7 = .ok (.iload_n 1, 1) := by decide +kernel
theorem dX12_joins_8 : decode cX12_joins 8 = .ok (.imul, 1) := by decide +kernel
theorem dX12_joins_9 : decode cX12_joins 9 = .ok (.iadd, 1) := by decide +kernel
theorem dX12_joins_10 : decode cX12_joins 10 = .ok (.iaload, 1) := by decide +kernel
theorem dX12_joins_11 : decode cX12_joins 11 = .ok (.istore 4, 2) := by decide +kernel
theorem dX12_joins_13 : decode cX12_joins 13 = .ok (.aload_n 0, 1) := by decide +kernel
theorem dX12_joins_14 : decode cX12_joins 14 = .ok (.getfield 13, 3) := by decide +kernel
theorem dX12_joins_17 : decode cX12_joins 17 = .ok (.bipush 11, 2) := by decide +kernel
theorem dX12_joins_19 : decode cX12_joins 19 = .ok (.iconst 3, 1) := by decide +kernel
theorem dX12_joins_20 : decode cX12_joins 20 = .ok (.iload_n 1, 1) := by decide +kernel
theorem dX12_joins_21 : decode cX12_joins 21 = .ok (.imul, 1) := by decide +kernel
theorem dX12_joins_22 : decode cX12_joins 22 = .ok (.iadd, 1) := by decide +kernel
theorem dX12_joins_23 : decode cX12_joins 23 = .ok (.iconst 1, 1) := by decide +kernel
theorem dX12_joins_24 : decode cX12_joins 24 = .ok (.iadd, 1) := by decide +kernel
theorem dX12_joins_25 : decode cX12_joins 25 = .ok (.iaload, 1) := by decide +kernel
theorem dX12_joins_26 : decode cX12_joins 26 = .ok (.istore 5, 2) := by decide +kernel
theorem dX12_joins_28 : decode cX12_joins 28 = .ok (.iload 4, 2) := by decide +kernel
theorem dX12_joins_30 : decode cX12_joins 30 = .ok (.iload_n 2, 1) := by decide +kernel
theorem dX12_joins_31 : decode cX12_joins 31 = .ok (.if_icmp .ne 9, 3) := by decide +kernel
theorem dX12_joins_34 : decode cX12_joins 34 = .ok (.iload 5, 2) := by decide +kernel
theorem dX12_joins_36 : decode cX12_joins 36 = .ok (.iload_n 3, 1) := by decide +kernel
theorem dX12_joins_37 : decode cX12_joins 37 = .ok (.if_icmp .eq 15, 3) := by decide +kernel
theorem dX12_joins_40 : decode cX12_joins 40 = .ok (.iload 4, 2) := by decide +kernel
theorem dX12_joins_42 : decode cX12_joins 42 = .ok (.iload_n 3, 1) := by decide +kernel
theorem dX12_joins_43 : decode cX12_joins 43 = .ok (.if_icmp .ne 13, 3) := by decide +kernel
theorem dX12_joins_46 : decode cX12_joins 46 = .ok (.iload 5, 2) := by decide +kernel
theorem dX12_joins_48 : decode cX12_joins 48 = .ok (.iload_n 2, 1) := by decide +kernel
theorem dX12_joins_49 : decode cX12_joins 49 = .ok (.if_icmp .ne 7, 3) := by decide +kernel
theorem dX12_joins_52 : decode cX12_joins 52 = .ok (.iconst 1, 1) := by decide +kernel
theorem dX12_joins_53 : decode cX12_joins 53 = .ok (.goto 4, 3) := by decide +kernel
theorem dX12_joins_56 : decode cX12_joins 56 = .ok (.iconst 0, 1) := by decide +kernel
theorem dX12_joins_57 : decode cX12_joins 57 = .ok (.ireturn, 1) := by decide +kernel
theorem dX12_longOf_0 : decode cX12_longOf 0 = .ok (.aload_n 0, 1) := by decide +kernel
theorem dX12_longOf_1 : decode cX12_longOf 1 = .ok (.getfield 13, 3) := by decide +kernel
theorem dX12_longOf_4 : decode cX12_longOf 4 = .ok (.bipush 11, 2) := by decide +kernel
theorem dX12_longOf_6 : decode cX12_longOf 6 = .ok (.iconst 3, 1) := by decide +kernel
theorem dX12_longOf_7 : decode cX12_longOf 7 = .ok (.iload_n 1, 1) := by decide +kernel
theorem dX12_longOf_8 : decode cX12_longOf 8 = .ok (.imul, 1) := by decide +kernel
theorem dX12_longOf_9 : decode cX12_longOf 9 = .ok (.iadd, 1) := by decide +kernel
theorem dX12_longOf_10 : decode cX12_longOf 10 = .ok (.iconst 2, 1) := by decide +kernel
theorem dX12_longOf_11 : decode cX12_longOf 11 = .ok (.iadd, 1) := by decide +kernel
theorem dX12_longOf_12 : decode cX12_longOf 12 = .ok (.iaload, 1) := by decide +kernel
theorem dX12_longOf_13 : decode cX12_longOf 13 = .ok (.ireturn, 1) := by decide +kernel
theorem dX12_areJoined_0 : decode cX12_areJoined 0 = .ok (.iconst 0, 1) := by decide +kernel
theorem dX12_areJoined_1 : decode cX12_areJoined 1 = .ok (.istore_n 3, 1) := by decide +kernel
theorem dX12_areJoined_2 : decode cX12_areJoined 2 = .ok (.iload_n 3, 1) := by decide +kernel
theorem dX12_areJoined_3 : decode cX12_areJoined 3 = .ok (.aload_n 0, 1) := by decide +kernel
theorem dX12_areJoined_4 : decode cX12_areJoined 4 = .ok (.getfield 13, 3) := by decide +kernel
theorem dX12_areJoined_7 : decode cX12_areJoined 7 = .ok (.iconst 2, 1) := by decide +kernel
theorem dX12_areJoined_8 : decode cX12_areJoined 8 = .ok (.iaload, 1) := by decide +kernel
theorem dX12_areJoined_9 : decode cX12_areJoined 9 = .ok (.if_icmp .ge 21, 3) := by decide +kernel
theorem dX12_areJoined_12 : decode cX12_areJoined 12 = .ok (.aload_n 0, 1) := by decide +kernel
theorem dX12_areJoined_13 : decode cX12_areJoined 13 = .ok (.iload_n 3, 1) := by decide +kernel
theorem dX12_areJoined_14 : decode cX12_areJoined 14 = .ok (.iload_n 1, 1) := by decide +kernel
theorem dX12_areJoined_15 : decode cX12_areJoined 15 = .ok (.iload_n 2, 1) := by decide +kernel
theorem dX12_areJoined_16 : decode cX12_areJoined 16 = .ok (.invokevirtual 229, 3) := by decide +kernel
theorem dX12_areJoined_19 : decode cX12_areJoined 19 = .ok (.ifCond .eq 5, 3) := by decide +kernel
theorem dX12_areJoined_22 : decode cX12_areJoined 22 = .ok (.iconst 1, 1) := by decide +kernel
theorem dX12_areJoined_23 : decode cX12_areJoined 23 = .ok (.ireturn, 1) := by decide +kernel
theorem dX12_areJoined_24 : decode cX12_areJoined 24 = .ok (.iinc 3 1, 3) := by decide +kernel
theorem dX12_areJoined_27 : decode cX12_areJoined 27 = .ok (.goto (-25), 3) := by decide +kernel
theorem dX12_areJoined_30 : decode cX12_areJoined 30 = .ok (.iconst 0, 1) := by decide +kernel
theorem dX12_areJoined_31 : decode cX12_areJoined 31 = .ok (.ireturn, 1) := by decide +kernel
theorem dX12_haveQuarrelled_0 : decode cX12_haveQuarrelled 0 = .ok (.aload_n 0, 1) := by decide +kernel
theorem dX12_haveQuarrelled_1 : decode cX12_haveQuarrelled 1 = .ok (.getfield 13, 3) := by decide +kernel
theorem dX12_haveQuarrelled_4 : decode cX12_haveQuarrelled 4 = .ok (.bipush 70, 2) := by decide +kernel
theorem dX12_haveQuarrelled_6 : decode cX12_haveQuarrelled 6 = .ok (.iload_n 1, 1) := by decide +kernel
theorem dX12_haveQuarrelled_7 : decode cX12_haveQuarrelled 7 = .ok (.iadd, 1) := by decide +kernel
theorem dX12_haveQuarrelled_8 : decode cX12_haveQuarrelled 8 = .ok (.iaload, 1) := by decide +kernel
theorem dX12_haveQuarrelled_9 : decode cX12_haveQuarrelled 9 = .ok (.i2l, 1) := by decide +kernel
theorem dX12_haveQuarrelled_10 : decode cX12_haveQuarrelled 10 = .ok (.iload_n 2, 1) := by decide +kernel
theorem dX12_haveQuarrelled_11 : decode cX12_haveQuarrelled 11 = .ok (.invokestatic 233, 3) := by decide +kernel
theorem dX12_haveQuarrelled_14 : decode cX12_haveQuarrelled 14 = .ok (.ireturn, 1) := by decide +kernel
theorem dX12_bitsOf_0 : decode cX12_bitsOf 0 = .ok (.iconst 0, 1) := by decide +kernel
theorem dX12_bitsOf_1 : decode cX12_bitsOf 1 = .ok (.istore_n 1, 1) := by decide +kernel
theorem dX12_bitsOf_2 : decode cX12_bitsOf 2 = .ok (.iconst 0, 1) := by decide +kernel
theorem dX12_bitsOf_3 : decode cX12_bitsOf 3 = .ok (.istore_n 2, 1) := by decide +kernel
theorem dX12_bitsOf_4 : decode cX12_bitsOf 4 = .ok (.iload_n 2, 1) := by decide +kernel
theorem dX12_bitsOf_5 : decode cX12_bitsOf 5 = .ok (.bipush 8, 2) := by decide +kernel
theorem dX12_bitsOf_7 : decode cX12_bitsOf 7 = .ok (.if_icmp .ge 17, 3) := by decide +kernel
theorem dX12_bitsOf_10 : decode cX12_bitsOf 10 = .ok (.iload_n 1, 1) := by decide +kernel
theorem dX12_bitsOf_11 : decode cX12_bitsOf 11 = .ok (.iload_n 0, 1) := by decide +kernel
theorem dX12_bitsOf_12 : decode cX12_bitsOf 12 = .ok (.iload_n 2, 1) := by decide +kernel
theorem dX12_bitsOf_13 : decode cX12_bitsOf 13 = .ok (.ishr, 1) := by decide +kernel
theorem dX12_bitsOf_14 : decode cX12_bitsOf 14 = .ok (.iconst 1, 1) := by decide +kernel
theorem dX12_bitsOf_15 : decode cX12_bitsOf 15 = .ok (.iand, 1) := by decide +kernel
theorem dX12_bitsOf_16 : decode cX12_bitsOf 16 = .ok (.iadd, 1) := by decide +kernel
theorem dX12_bitsOf_17 : decode cX12_bitsOf 17 = .ok (.istore_n 1, 1) := by decide +kernel
theorem dX12_bitsOf_18 : decode cX12_bitsOf 18 = .ok (.iinc 2 1, 3) := by decide +kernel
theorem dX12_bitsOf_21 : decode cX12_bitsOf 21 = .ok (.goto (-17), 3) := by decide +kernel
theorem dX12_bitsOf_24 : decode cX12_bitsOf 24 = .ok (.iload_n 1, 1) := by decide +kernel
theorem dX12_bitsOf_25 : decode cX12_bitsOf 25 = .ok (.ireturn, 1) := by decide +kernel
theorem dX12_laysFar_0 : decode cX12_laysFar 0 = .ok (.iconst 0, 1) := by decide +kernel
theorem dX12_laysFar_1 : decode cX12_laysFar 1 = .ok (.istore_n 1, 1) := by decide +kernel
theorem dX12_laysFar_2 : decode cX12_laysFar 2 = .ok (.iload_n 1, 1) := by decide +kernel
theorem dX12_laysFar_3 : decode cX12_laysFar 3 = .ok (.bipush 6, 2) := by decide +kernel
theorem dX12_laysFar_5 : decode cX12_laysFar 5 = .ok (.if_icmp .ge 45, 3) := by decide +kernel
theorem dX12_laysFar_8 : decode cX12_laysFar 8 = .ok (.iconst 0, 1) := by decide +kernel
theorem dX12_laysFar_9 : decode cX12_laysFar 9 = .ok (.istore_n 2, 1) := by decide +kernel
theorem dX12_laysFar_10 : decode cX12_laysFar 10 = .ok (.iload_n 2, 1) := by decide +kernel
theorem dX12_laysFar_11 : decode cX12_laysFar 11 = .ok (.bipush 6, 2) := by decide +kernel
theorem dX12_laysFar_13 : decode cX12_laysFar 13 = .ok (.if_icmp .ge 31, 3) := by decide +kernel
theorem dX12_laysFar_16 : decode cX12_laysFar 16 = .ok (.aload_n 0, 1) := by decide +kernel
theorem dX12_laysFar_17 : decode cX12_laysFar 17 = .ok (.getfield 30, 3) := by decide +kernel
theorem dX12_laysFar_20 : decode cX12_laysFar 20 = .ok (.bipush 6, 2) := by decide +kernel
theorem dX12_laysFar_22 : decode cX12_laysFar 22 = .ok (.iload_n 1, 1) := by decide +kernel
theorem dX12_laysFar_23 : decode cX12_laysFar 23 = .ok (.imul, 1) := by decide +kernel
theorem dX12_laysFar_24 : decode cX12_laysFar 24 = .ok (.iload_n 2, 1) := by decide +kernel
theorem dX12_laysFar_25 : decode cX12_laysFar 25 = .ok (.iadd, 1) := by decide +kernel
theorem dX12_laysFar_26 : decode cX12_laysFar 26 = .ok (.iload_n 1, 1) := by decide +kernel
theorem dX12_laysFar_27 : decode cX12_laysFar 27 = .ok (.iload_n 2, 1) := by decide +kernel
theorem dX12_laysFar_28 : decode cX12_laysFar 28 = .ok (.if_icmp .ne 7, 3) := by decide +kernel
theorem dX12_laysFar_31 : decode cX12_laysFar 31 = .ok (.iconst 0, 1) := by decide +kernel
theorem dX12_laysFar_32 : decode cX12_laysFar 32 = .ok (.goto 5, 3) := by decide +kernel
theorem dX12_laysFar_35 : decode cX12_laysFar 35 = .ok (.bipush 99, 2) := by decide +kernel
theorem dX12_laysFar_37 : decode cX12_laysFar 37 = .ok (.iastore, 1) := by decide +kernel
theorem dX12_laysFar_38 : decode cX12_laysFar 38 = .ok (.iinc 2 1, 3) := by decide +kernel
theorem dX12_laysFar_41 : decode cX12_laysFar 41 = .ok (.goto (-31), 3) := by decide +kernel
theorem dX12_laysFar_44 : decode cX12_laysFar 44 = .ok (.iinc 1 1, 3) := by decide +kernel
theorem dX12_laysFar_47 : decode cX12_laysFar 47 = .ok (.goto (-45), 3) := by decide +kernel
theorem dX12_laysFar_50 : decode cX12_laysFar 50 = .ok (.iconst 0, 1) := by decide +kernel
theorem dX12_laysFar_51 : decode cX12_laysFar 51 = .ok (.istore_n 1, 1) := by decide +kernel
theorem dX12_laysFar_52 : decode cX12_laysFar 52 = .ok (.iload_n 1, 1) := by decide +kernel
theorem dX12_laysFar_53 : decode cX12_laysFar 53 = .ok (.aload_n 0, 1) := by decide +kernel
theorem dX12_laysFar_54 : decode cX12_laysFar 54 = .ok (.getfield 13, 3) := by decide +kernel
theorem dX12_laysFar_57 : decode cX12_laysFar 57 = .ok (.iconst 2, 1) := by decide +kernel
theorem dX12_laysFar_58 : decode cX12_laysFar 58 = .ok (.iaload, 1) := by decide +kernel
theorem dX12_laysFar_59 : decode cX12_laysFar 59 = .ok (.if_icmp .ge 75, 3) := by decide +kernel
theorem dX12_laysFar_62 : decode cX12_laysFar 62 = .ok (.aload_n 0, 1) := by decide +kernel
theorem dX12_laysFar_63 : decode cX12_laysFar 63 = .ok (.aload_n 0, 1) := by decide +kernel
theorem dX12_laysFar_64 : decode cX12_laysFar 64 = .ok (.getfield 13, 3) := by decide +kernel
theorem dX12_laysFar_67 : decode cX12_laysFar 67 = .ok (.bipush 11, 2) := by decide +kernel
theorem dX12_laysFar_69 : decode cX12_laysFar 69 = .ok (.iconst 3, 1) := by decide +kernel
theorem dX12_laysFar_70 : decode cX12_laysFar 70 = .ok (.iload_n 1, 1) := by decide +kernel
theorem dX12_laysFar_71 : decode cX12_laysFar 71 = .ok (.imul, 1) := by decide +kernel
theorem dX12_laysFar_72 : decode cX12_laysFar 72 = .ok (.iadd, 1) := by decide +kernel
theorem dX12_laysFar_73 : decode cX12_laysFar 73 = .ok (.iaload, 1) := by decide +kernel
theorem dX12_laysFar_74 : decode cX12_laysFar 74 = .ok (.aload_n 0, 1) := by decide +kernel
theorem dX12_laysFar_75 : decode cX12_laysFar 75 = .ok (.getfield 13, 3) := by decide +kernel
theorem dX12_laysFar_78 : decode cX12_laysFar 78 = .ok (.bipush 11, 2) := by decide +kernel
theorem dX12_laysFar_80 : decode cX12_laysFar 80 = .ok (.iconst 3, 1) := by decide +kernel
theorem dX12_laysFar_81 : decode cX12_laysFar 81 = .ok (.iload_n 1, 1) := by decide +kernel
theorem dX12_laysFar_82 : decode cX12_laysFar 82 = .ok (.imul, 1) := by decide +kernel
theorem dX12_laysFar_83 : decode cX12_laysFar 83 = .ok (.iadd, 1) := by decide +kernel
theorem dX12_laysFar_84 : decode cX12_laysFar 84 = .ok (.iconst 1, 1) := by decide +kernel
theorem dX12_laysFar_85 : decode cX12_laysFar 85 = .ok (.iadd, 1) := by decide +kernel
theorem dX12_laysFar_86 : decode cX12_laysFar 86 = .ok (.iaload, 1) := by decide +kernel
theorem dX12_laysFar_87 : decode cX12_laysFar 87 = .ok (.aload_n 0, 1) := by decide +kernel
theorem dX12_laysFar_88 : decode cX12_laysFar 88 = .ok (.iload_n 1, 1) := by decide +kernel
theorem dX12_laysFar_89 : decode cX12_laysFar 89 = .ok (.invokevirtual 237, 3) := by decide +kernel
theorem dX12_laysFar_92 : decode cX12_laysFar 92 = .ok (.invokevirtual 240, 3) := by decide +kernel
theorem dX12_laysFar_95 : decode cX12_laysFar 95 = .ok (.aload_n 0, 1) := by decide +kernel
theorem dX12_laysFar_96 : decode cX12_laysFar 96 = .ok (.aload_n 0, 1) := by decide +kernel
theorem dX12_laysFar_97 : decode cX12_laysFar 97 = .ok (.getfield 13, 3) := by decide +kernel
theorem dX12_laysFar_100 : decode cX12_laysFar 100 = .ok (.bipush 11, 2) := by decide +kernel
theorem dX12_laysFar_102 : decode cX12_laysFar 102 = .ok (.iconst 3, 1) := by decide +kernel
theorem dX12_laysFar_103 : decode cX12_laysFar 103 = .ok (.iload_n 1, 1) := by decide +kernel
theorem dX12_laysFar_104 : decode cX12_laysFar 104 = .ok (.imul, 1) := by decide +kernel
theorem dX12_laysFar_105 : decode cX12_laysFar 105 = .ok (.iadd, 1) := by decide +kernel
theorem dX12_laysFar_106 : decode cX12_laysFar 106 = .ok (.iconst 1, 1) := by decide +kernel
theorem dX12_laysFar_107 : decode cX12_laysFar 107 = .ok (.iadd, 1) := by decide +kernel
theorem dX12_laysFar_108 : decode cX12_laysFar 108 = .ok (.iaload, 1) := by decide +kernel
theorem dX12_laysFar_109 : decode cX12_laysFar 109 = .ok (.aload_n 0, 1) := by decide +kernel
theorem dX12_laysFar_110 : decode cX12_laysFar 110 = .ok (.getfield 13, 3) := by decide +kernel
theorem dX12_laysFar_113 : decode cX12_laysFar 113 = .ok (.bipush 11, 2) := by decide +kernel
theorem dX12_laysFar_115 : decode cX12_laysFar 115 = .ok (.iconst 3, 1) := by decide +kernel
theorem dX12_laysFar_116 : decode cX12_laysFar 116 = .ok (.iload_n 1, 1) := by decide +kernel
theorem dX12_laysFar_117 : decode cX12_laysFar 117 = .ok (.imul, 1) := by decide +kernel
theorem dX12_laysFar_118 : decode cX12_laysFar 118 = .ok (.iadd, 1) := by decide +kernel
theorem dX12_laysFar_119 : decode cX12_laysFar 119 = .ok (.iaload, 1) := by decide +kernel
theorem dX12_laysFar_120 : decode cX12_laysFar 120 = .ok (.aload_n 0, 1) := by decide +kernel
theorem dX12_laysFar_121 : decode cX12_laysFar 121 = .ok (.iload_n 1, 1) := by decide +kernel
theorem dX12_laysFar_122 : decode cX12_laysFar 122 = .ok (.invokevirtual 237, 3) := by decide +kernel
theorem dX12_laysFar_125 : decode cX12_laysFar 125 = .ok (.invokevirtual 240, 3) := by decide +kernel
theorem dX12_laysFar_128 : decode cX12_laysFar 128 = .ok (.iinc 1 1, 3) := by decide +kernel
theorem dX12_laysFar_131 : decode cX12_laysFar 131 = .ok (.goto (-79), 3) := by decide +kernel
theorem dX12_laysFar_134 : decode cX12_laysFar 134 = .ok (.iconst 0, 1) := by decide +kernel
theorem dX12_laysFar_135 : decode cX12_laysFar 135 = .ok (.istore_n 1, 1) := by decide +kernel
theorem dX12_laysFar_136 : decode cX12_laysFar 136 = .ok (.iload_n 1, 1) := by decide +kernel
theorem dX12_laysFar_137 : decode cX12_laysFar 137 = .ok (.bipush 6, 2) := by decide +kernel
theorem dX12_laysFar_139 : decode cX12_laysFar 139 = .ok (.if_icmp .ge 66, 3) := by decide +kernel
theorem dX12_laysFar_142 : decode cX12_laysFar 142 = .ok (.iconst 0, 1) := by decide +kernel
theorem dX12_laysFar_143 : decode cX12_laysFar 143 = .ok (.istore_n 2, 1) := by decide +kernel
theorem dX12_laysFar_144 : decode cX12_laysFar 144 = .ok (.iload_n 2, 1) := by decide +kernel
theorem dX12_laysFar_145 : decode cX12_laysFar 145 = .ok (.bipush 6, 2) := by decide +kernel
theorem dX12_laysFar_147 : decode cX12_laysFar 147 = .ok (.if_icmp .ge 52, 3) := by decide +kernel
theorem dX12_laysFar_150 : decode cX12_laysFar 150 = .ok (.iconst 0, 1) := by decide +kernel
theorem dX12_laysFar_151 : decode cX12_laysFar 151 = .ok (.istore_n 3, 1) := by decide +kernel
theorem dX12_laysFar_152 : decode cX12_laysFar 152 = .ok (.iload_n 3, 1) := by decide +kernel
theorem dX12_laysFar_153 : decode cX12_laysFar 153 = .ok (.bipush 6, 2) := by decide +kernel
theorem dX12_laysFar_155 : decode cX12_laysFar 155 = .ok (.if_icmp .ge 38, 3) := by decide +kernel
theorem dX12_laysFar_158 : decode cX12_laysFar 158 = .ok (.aload_n 0, 1) := by decide +kernel
theorem dX12_laysFar_159 : decode cX12_laysFar 159 = .ok (.iload_n 2, 1) := by decide +kernel
theorem dX12_laysFar_160 : decode cX12_laysFar 160 = .ok (.iload_n 3, 1) := by decide +kernel
theorem dX12_laysFar_161 : decode cX12_laysFar 161 = .ok (.aload_n 0, 1) := by decide +kernel
theorem dX12_laysFar_162 : decode cX12_laysFar 162 = .ok (.getfield 30, 3) := by decide +kernel
theorem dX12_laysFar_165 : decode cX12_laysFar 165 = .ok (.bipush 6, 2) := by decide +kernel
theorem dX12_laysFar_167 : decode cX12_laysFar 167 = .ok (.iload_n 2, 1) := by decide +kernel
theorem dX12_laysFar_168 : decode cX12_laysFar 168 = .ok (.imul, 1) := by decide +kernel
theorem dX12_laysFar_169 : decode cX12_laysFar 169 = .ok (.iload_n 1, 1) := by decide +kernel
theorem dX12_laysFar_170 : decode cX12_laysFar 170 = .ok (.iadd, 1) := by decide +kernel
theorem dX12_laysFar_171 : decode cX12_laysFar 171 = .ok (.iaload, 1) := by decide +kernel
theorem dX12_laysFar_172 : decode cX12_laysFar 172 = .ok (.aload_n 0, 1) := by decide +kernel
theorem dX12_laysFar_173 : decode cX12_laysFar 173 = .ok (.getfield 30, 3) := by decide +kernel
theorem dX12_laysFar_176 : decode cX12_laysFar 176 = .ok (.bipush 6, 2) := by decide +kernel
theorem dX12_laysFar_178 : decode cX12_laysFar 178 = .ok (.iload_n 1, 1) := by decide +kernel
theorem dX12_laysFar_179 : decode cX12_laysFar 179 = .ok (.imul, 1) := by decide +kernel
theorem dX12_laysFar_180 : decode cX12_laysFar 180 = .ok (.iload_n 3, 1) := by decide +kernel
theorem dX12_laysFar_181 : decode cX12_laysFar 181 = .ok (.iadd, 1) := by decide +kernel
theorem dX12_laysFar_182 : decode cX12_laysFar 182 = .ok (.iaload, 1) := by decide +kernel
theorem dX12_laysFar_183 : decode cX12_laysFar 183 = .ok (.iadd, 1) := by decide +kernel
theorem dX12_laysFar_184 : decode cX12_laysFar 184 = .ok (.invokevirtual 240, 3) := by decide +kernel
theorem dX12_laysFar_187 : decode cX12_laysFar 187 = .ok (.iinc 3 1, 3) := by decide +kernel
theorem dX12_laysFar_190 : decode cX12_laysFar 190 = .ok (.goto (-38), 3) := by decide +kernel
theorem dX12_laysFar_193 : decode cX12_laysFar 193 = .ok (.iinc 2 1, 3) := by decide +kernel
theorem dX12_laysFar_196 : decode cX12_laysFar 196 = .ok (.goto (-52), 3) := by decide +kernel
theorem dX12_laysFar_199 : decode cX12_laysFar 199 = .ok (.iinc 1 1, 3) := by decide +kernel
theorem dX12_laysFar_202 : decode cX12_laysFar 202 = .ok (.goto (-66), 3) := by decide +kernel
theorem dX12_laysFar_205 : decode cX12_laysFar 205 = .ok (.return_, 1) := by decide +kernel
theorem dX12_nearer_0 : decode cX12_nearer 0 = .ok (.iload_n 3, 1) := by decide +kernel
theorem dX12_nearer_1 : decode cX12_nearer 1 = .ok (.aload_n 0, 1) := by decide +kernel
theorem dX12_nearer_2 : decode cX12_nearer 2 = .ok (.getfield 30, 3) := by decide +kernel
theorem dX12_nearer_5 : decode cX12_nearer 5 = .ok (.bipush 6, 2) := by decide +kernel
theorem dX12_nearer_7 : decode cX12_nearer 7 = .ok (.iload_n 1, 1) := by decide +kernel
theorem dX12_nearer_8 : decode cX12_nearer 8 = .ok (.imul, 1) := by decide +kernel
theorem dX12_nearer_9 : decode cX12_nearer 9 = .ok (.iload_n 2, 1) := by decide +kernel
theorem dX12_nearer_10 : decode cX12_nearer 10 = .ok (.iadd, 1) := by decide +kernel
theorem dX12_nearer_11 : decode cX12_nearer 11 = .ok (.iaload, 1) := by decide +kernel
theorem dX12_nearer_12 : decode cX12_nearer 12 = .ok (.if_icmp .ge 15, 3) := by decide +kernel
theorem dX12_nearer_15 : decode cX12_nearer 15 = .ok (.aload_n 0, 1) := by decide +kernel
theorem dX12_nearer_16 : decode cX12_nearer 16 = .ok (.getfield 30, 3) := by decide +kernel
theorem dX12_nearer_19 : decode cX12_nearer 19 = .ok (.bipush 6, 2) := by decide +kernel
theorem dX12_nearer_21 : decode cX12_nearer 21 = .ok (.iload_n 1, 1) := by decide +kernel
theorem dX12_nearer_22 : decode cX12_nearer 22 = .ok (.imul, 1) := by decide +kernel
theorem dX12_nearer_23 : decode cX12_nearer 23 = .ok (.iload_n 2, 1) := by decide +kernel
theorem dX12_nearer_24 : decode cX12_nearer 24 = .ok (.iadd, 1) := by decide +kernel
theorem dX12_nearer_25 : decode cX12_nearer 25 = .ok (.iload_n 3, 1) := by decide +kernel
theorem dX12_nearer_26 : decode cX12_nearer 26 = .ok (.iastore, 1) := by decide +kernel
theorem dX12_nearer_27 : decode cX12_nearer 27 = .ok (.return_, 1) := by decide +kernel
theorem dX12_between_0 : decode cX12_between 0 = .ok (.iload_n 0, 1) := by decide +kernel
theorem dX12_between_1 : decode cX12_between 1 = .ok (.tableswitch 80 3003 3008 #[39, 50, 61, 80, 72, 76], 39) := by decide +kernel
theorem dX12_between_40 : decode cX12_between 40 = .ok (.iload_n 1, 1) := by decide +kernel
theorem dX12_between_41 : decode cX12_between 41 = .ok (.iload_n 2, 1) := by decide +kernel
theorem dX12_between_42 : decode cX12_between 42 = .ok (.if_icmp .ne 7, 3) := by decide +kernel
theorem dX12_between_45 : decode cX12_between 45 = .ok (.iconst 1, 1) := by decide +kernel
theorem dX12_between_46 : decode cX12_between 46 = .ok (.goto 4, 3) := by decide +kernel
theorem dX12_between_49 : decode cX12_between 49 = .ok (.iconst 0, 1) := by decide +kernel
theorem dX12_between_50 : decode cX12_between 50 = .ok (.ireturn, 1) := by decide +kernel
theorem dX12_between_51 : decode cX12_between 51 = .ok (.iload_n 1, 1) := by decide +kernel
theorem dX12_between_52 : decode cX12_between 52 = .ok (.iload_n 2, 1) := by decide +kernel
theorem dX12_between_53 : decode cX12_between 53 = .ok (.if_icmp .ge 7, 3) := by decide +kernel
theorem dX12_between_56 : decode cX12_between 56 = .ok (.iconst 1, 1) := by decide +kernel
theorem dX12_between_57 : decode cX12_between 57 = .ok (.goto 4, 3) := by decide +kernel
theorem dX12_between_60 : decode cX12_between 60 = .ok (.iconst 0, 1) := by decide +kernel
theorem dX12_between_61 : decode cX12_between 61 = .ok (.ireturn, 1) := by decide +kernel
theorem dX12_between_62 : decode cX12_between 62 = .ok (.iload_n 1, 1) := by decide +kernel
theorem dX12_between_63 : decode cX12_between 63 = .ok (.iload_n 2, 1) := by decide +kernel
theorem dX12_between_64 : decode cX12_between 64 = .ok (.if_icmp .le 7, 3) := by decide +kernel
theorem dX12_between_67 : decode cX12_between 67 = .ok (.iconst 1, 1) := by decide +kernel
theorem dX12_between_68 : decode cX12_between 68 = .ok (.goto 4, 3) := by decide +kernel
theorem dX12_between_71 : decode cX12_between 71 = .ok (.iconst 0, 1) := by decide +kernel
theorem dX12_between_72 : decode cX12_between 72 = .ok (.ireturn, 1) := by decide +kernel
theorem dX12_between_73 : decode cX12_between 73 = .ok (.iload_n 1, 1) := by decide +kernel
theorem dX12_between_74 : decode cX12_between 74 = .ok (.iload_n 2, 1) := by decide +kernel
theorem dX12_between_75 : decode cX12_between 75 = .ok (.iand, 1) := by decide +kernel
theorem dX12_between_76 : decode cX12_between 76 = .ok (.ireturn, 1) := by decide +kernel
theorem dX12_between_77 : decode cX12_between 77 = .ok (.iload_n 1, 1) := by decide +kernel
theorem dX12_between_78 : decode cX12_between 78 = .ok (.iload_n 2, 1) := by decide +kernel
theorem dX12_between_79 : decode cX12_between 79 = .ok (.ior, 1) := by decide +kernel
theorem dX12_between_80 : decode cX12_between 80 = .ok (.ireturn, 1) := by decide +kernel
theorem dX12_between_81 : decode cX12_between 81 = .ok (.iload_n 0, 1) := by decide +kernel
theorem dX12_between_82 : decode cX12_between 82 = .ok (.sipush 3000, 3) := by decide +kernel
theorem dX12_between_85 : decode cX12_between 85 = .ok (.if_icmp .ne 11, 3) := by decide +kernel
theorem dX12_between_88 : decode cX12_between 88 = .ok (.iload_n 1, 1) := by decide +kernel
theorem dX12_between_89 : decode cX12_between 89 = .ok (.i2l, 1) := by decide +kernel
theorem dX12_between_90 : decode cX12_between 90 = .ok (.iload_n 2, 1) := by decide +kernel
theorem dX12_between_91 : decode cX12_between 91 = .ok (.i2l, 1) := by decide +kernel
theorem dX12_between_92 : decode cX12_between 92 = .ok (.ladd, 1) := by decide +kernel
theorem dX12_between_93 : decode cX12_between 93 = .ok (.goto 23, 3) := by decide +kernel
theorem dX12_between_96 : decode cX12_between 96 = .ok (.iload_n 0, 1) := by decide +kernel
theorem dX12_between_97 : decode cX12_between 97 = .ok (.sipush 3001, 3) := by decide +kernel
theorem dX12_between_100 : decode cX12_between 100 = .ok (.if_icmp .ne 11, 3) := by decide +kernel
theorem dX12_between_103 : decode cX12_between 103 = .ok (.iload_n 1, 1) := by decide +kernel
theorem dX12_between_104 : decode cX12_between 104 = .ok (.i2l, 1) := by decide +kernel
theorem dX12_between_105 : decode cX12_between 105 = .ok (.iload_n 2, 1) := by decide +kernel
theorem dX12_between_106 : decode cX12_between 106 = .ok (.i2l, 1) := by decide +kernel
theorem dX12_between_107 : decode cX12_between 107 = .ok (.lsub, 1) := by decide +kernel
theorem dX12_between_108 : decode cX12_between 108 = .ok (.goto 8, 3) := by decide +kernel
theorem dX12_between_111 : decode cX12_between 111 = .ok (.iload_n 1, 1) := by decide +kernel
theorem dX12_between_112 : decode cX12_between 112 = .ok (.i2l, 1) := by decide +kernel
theorem dX12_between_113 : decode cX12_between 113 = .ok (.iload_n 2, 1) := by decide +kernel
theorem dX12_between_114 : decode cX12_between 114 = .ok (.i2l, 1) := by decide +kernel
theorem dX12_between_115 : decode cX12_between 115 = .ok (.lmul, 1) := by decide +kernel
theorem dX12_between_116 : decode cX12_between 116 = .ok (.lstore_n 3, 1) := by decide +kernel
theorem dX12_between_117 : decode cX12_between 117 = .ok (.lload_n 3, 1) := by decide +kernel
theorem dX12_between_118 : decode cX12_between 118 = .ok (.ldc2_w 244, 3) := by decide +kernel
theorem dX12_between_121 : decode cX12_between 121 = .ok (.lcmp, 1) := by decide +kernel
theorem dX12_between_122 : decode cX12_between 122 = .ok (.ifCond .le 9, 3) := by decide +kernel
theorem dX12_between_125 : decode cX12_between 125 = .ok (.ldc2_w 244, 3) := by decide +kernel
theorem dX12_between_128 : decode cX12_between 128 = .ok (.goto 18, 3) := by decide +kernel
theorem dX12_between_131 : decode cX12_between 131 = .ok (.lload_n 3, 1) := by decide +kernel
theorem dX12_between_132 : decode cX12_between 132 = .ok (.ldc2_w 246, 3) := by decide +kernel
theorem dX12_between_135 : decode cX12_between 135 = .ok (.lcmp, 1) := by decide +kernel
theorem dX12_between_136 : decode cX12_between 136 = .ok (.ifCond .ge 9, 3) := by decide +kernel
theorem dX12_between_139 : decode cX12_between 139 = .ok (.ldc2_w 246, 3) := by decide +kernel
theorem dX12_between_142 : decode cX12_between 142 = .ok (.goto 4, 3) := by decide +kernel
theorem dX12_between_145 : decode cX12_between 145 = .ok (.lload_n 3, 1) := by decide +kernel
theorem dX12_between_146 : decode cX12_between 146 = .ok (.l2i, 1) := by decide +kernel
theorem dX12_between_147 : decode cX12_between 147 = .ok (.ireturn, 1) := by decide +kernel
theorem dX12_reckons_0 : decode cX12_reckons 0 = .ok (.iconst 0, 1) := by decide +kernel
theorem dX12_reckons_1 : decode cX12_reckons 1 = .ok (.istore_n 2, 1) := by decide +kernel
theorem dX12_reckons_2 : decode cX12_reckons 2 = .ok (.iconst 0, 1) := by decide +kernel
theorem dX12_reckons_3 : decode cX12_reckons 3 = .ok (.istore_n 3, 1) := by decide +kernel
theorem dX12_reckons_4 : decode cX12_reckons 4 = .ok (.iload_n 3, 1) := by decide +kernel
theorem dX12_reckons_5 : decode cX12_reckons 5 = .ok (.aload_n 0, 1) := by decide +kernel
theorem dX12_reckons_6 : decode cX12_reckons 6 = .ok (.getfield 13, 3) := by decide +kernel
theorem dX12_reckons_9 : decode cX12_reckons 9 = .ok (.bipush 9, 2) := by decide +kernel
theorem dX12_reckons_11 : decode cX12_reckons 11 = .ok (.iload_n 1, 1) := by decide +kernel
theorem dX12_reckons_12 : decode cX12_reckons 12 = .ok (.iadd, 1) := by decide +kernel
theorem dX12_reckons_13 : decode cX12_reckons 13 = .ok (.iaload, 1) := by decide +kernel
theorem dX12_reckons_14 : decode cX12_reckons 14 = .ok (.if_icmp .ge 185, 3) := by decide +kernel
theorem dX12_reckons_17 : decode cX12_reckons 17 = .ok (.aload_n 0, 1) := by decide +kernel
theorem dX12_reckons_18 : decode cX12_reckons 18 = .ok (.getfield 13, 3) := by decide +kernel
theorem dX12_reckons_21 : decode cX12_reckons 21 = .ok (.sipush 262, 3) := by decide +kernel
theorem dX12_reckons_24 : decode cX12_reckons 24 = .ok (.aload_n 0, 1) := by decide +kernel
theorem dX12_reckons_25 : decode cX12_reckons 25 = .ok (.getfield 13, 3) := by decide +kernel
theorem dX12_reckons_28 : decode cX12_reckons 28 = .ok (.bipush 7, 2) := by decide +kernel
theorem dX12_reckons_30 : decode cX12_reckons 30 = .ok (.iload_n 1, 1) := by decide +kernel
theorem dX12_reckons_31 : decode cX12_reckons 31 = .ok (.iadd, 1) := by decide +kernel
theorem dX12_reckons_32 : decode cX12_reckons 32 = .ok (.iaload, 1) := by decide +kernel
theorem dX12_reckons_33 : decode cX12_reckons 33 = .ok (.iadd, 1) := by decide +kernel
theorem dX12_reckons_34 : decode cX12_reckons 34 = .ok (.iload_n 3, 1) := by decide +kernel
theorem dX12_reckons_35 : decode cX12_reckons 35 = .ok (.iadd, 1) := by decide +kernel
theorem dX12_reckons_36 : decode cX12_reckons 36 = .ok (.iaload, 1) := by decide +kernel
theorem dX12_reckons_37 : decode cX12_reckons 37 = .ok (.istore 4, 2) := by decide +kernel
theorem dX12_reckons_39 : decode cX12_reckons 39 = .ok (.iload 4, 2) := by decide +kernel
theorem dX12_reckons_41 : decode cX12_reckons 41 = .ok (.sipush 3000, 3) := by decide +kernel
theorem dX12_reckons_44 : decode cX12_reckons 44 = .ok (.if_icmp .ge 39, 3) := by decide +kernel
theorem dX12_reckons_47 : decode cX12_reckons 47 = .ok (.aload_n 0, 1) := by decide +kernel
theorem dX12_reckons_48 : decode cX12_reckons 48 = .ok (.getfield 33, 3) := by decide +kernel
theorem dX12_reckons_51 : decode cX12_reckons 51 = .ok (.iload_n 2, 1) := by decide +kernel
theorem dX12_reckons_52 : decode cX12_reckons 52 = .ok (.iload 4, 2) := by decide +kernel
theorem dX12_reckons_54 : decode cX12_reckons 54 = .ok (.sipush 1000, 3) := by decide +kernel
theorem dX12_reckons_57 : decode cX12_reckons 57 = .ok (.if_icmp .ge 8, 3) := by decide +kernel
theorem dX12_reckons_60 : decode cX12_reckons 60 = .ok (.iload 4, 2) := by decide +kernel
theorem dX12_reckons_62 : decode cX12_reckons 62 = .ok (.goto 14, 3) := by decide +kernel
theorem dX12_reckons_65 : decode cX12_reckons 65 = .ok (.aload_n 0, 1) := by decide +kernel
theorem dX12_reckons_66 : decode cX12_reckons 66 = .ok (.getfield 36, 3) := by decide +kernel
theorem dX12_reckons_69 : decode cX12_reckons 69 = .ok (.iload 4, 2) := by decide +kernel
theorem dX12_reckons_71 : decode cX12_reckons 71 = .ok (.sipush 1000, 3) := by decide +kernel
theorem dX12_reckons_74 : decode cX12_reckons 74 = .ok (.isub, 1) := by decide +kernel
theorem dX12_reckons_75 : decode cX12_reckons 75 = .ok (.iaload, 1) := by decide +kernel
theorem dX12_reckons_76 : decode cX12_reckons 76 = .ok (.iastore, 1) := by decide +kernel
theorem dX12_reckons_77 : decode cX12_reckons 77 = .ok (.iinc 2 1, 3) := by decide +kernel
theorem dX12_reckons_80 : decode cX12_reckons 80 = .ok (.goto 113, 3) := by decide +kernel
theorem dX12_reckons_83 : decode cX12_reckons 83 = .ok (.iload 4, 2) := by decide +kernel
theorem dX12_reckons_85 : decode cX12_reckons 85 = .ok (.sipush 3006, 3) := by decide +kernel
theorem dX12_reckons_88 : decode cX12_reckons 88 = .ok (.if_icmp .ne 24, 3) := by decide +kernel
theorem dX12_reckons_91 : decode cX12_reckons 91 = .ok (.aload_n 0, 1) := by decide +kernel
theorem dX12_reckons_92 : decode cX12_reckons 92 = .ok (.getfield 33, 3) := by decide +kernel
theorem dX12_reckons_95 : decode cX12_reckons 95 = .ok (.iload_n 2, 1) := by decide +kernel
theorem dX12_reckons_96 : decode cX12_reckons 96 = .ok (.iconst 1, 1) := by decide +kernel
theorem dX12_reckons_97 : decode cX12_reckons 97 = .ok (.isub, 1) := by decide +kernel
theorem dX12_reckons_98 : decode cX12_reckons 98 = .ok (.iconst 1, 1) := by decide +kernel
theorem dX12_reckons_99 : decode cX12_reckons 99 = .ok (.aload_n 0, 1) := by decide +kernel
theorem dX12_reckons_100 : decode cX12_reckons 100 = .ok (.getfield 33, 3) := by decide +kernel
theorem dX12_reckons_103 : decode cX12_reckons 103 = .ok (.iload_n 2, 1) := by decide +kernel
theorem dX12_reckons_104 : decode cX12_reckons 104 = .ok (.iconst 1, 1) := by decide +kernel
theorem dX12_reckons_105 : decode cX12_reckons 105 = .ok (.isub, 1) := by decide +kernel
theorem dX12_reckons_106 : decode cX12_reckons 106 = .ok (.iaload, 1) := by decide +kernel
theorem dX12_reckons_107 : decode cX12_reckons 107 = .ok (.isub, 1) := by decide +kernel
theorem dX12_reckons_108 : decode cX12_reckons 108 = .ok (.iastore, 1) := by decide +kernel
theorem dX12_reckons_109 : decode cX12_reckons 109 = .ok (.goto 84, 3) := by decide +kernel
theorem dX12_reckons_112 : decode cX12_reckons 112 = .ok (.iload 4, 2) := by decide +kernel
theorem dX12_reckons_114 : decode cX12_reckons 114 = .ok (.sipush 3009, 3) := by decide +kernel
theorem dX12_reckons_117 : decode cX12_reckons 117 = .ok (.if_icmp .ne 46, 3) := by decide +kernel
theorem dX12_reckons_120 : decode cX12_reckons 120 = .ok (.iinc 2 (-2), 3) := by decide +kernel
theorem dX12_reckons_123 : decode cX12_reckons 123 = .ok (.aload_n 0, 1) := by decide +kernel
theorem dX12_reckons_124 : decode cX12_reckons 124 = .ok (.getfield 33, 3) := by decide +kernel
theorem dX12_reckons_127 : decode cX12_reckons 127 = .ok (.iload_n 2, 1) := by decide +kernel
theorem dX12_reckons_128 : decode cX12_reckons 128 = .ok (.iconst 1, 1) := by decide +kernel
theorem dX12_reckons_129 : decode cX12_reckons 129 = .ok (.isub, 1) := by decide +kernel
theorem dX12_reckons_130 : decode cX12_reckons 130 = .ok (.aload_n 0, 1) := by decide +kernel
theorem dX12_reckons_131 : decode cX12_reckons 131 = .ok (.getfield 33, 3) := by decide +kernel
theorem dX12_reckons_134 : decode cX12_reckons 134 = .ok (.iload_n 2, 1) := by decide +kernel
theorem dX12_reckons_135 : decode cX12_reckons 135 = .ok (.iconst 1, 1) := by decide +kernel
theorem dX12_reckons_136 : decode cX12_reckons 136 = .ok (.isub, 1) := by decide +kernel
theorem dX12_reckons_137 : decode cX12_reckons 137 = .ok (.iaload, 1) := by decide +kernel
theorem dX12_reckons_138 : decode cX12_reckons 138 = .ok (.iconst 1, 1) := by decide +kernel
theorem dX12_reckons_139 : decode cX12_reckons 139 = .ok (.if_icmp .ne 12, 3) := by decide +kernel
theorem dX12_reckons_142 : decode cX12_reckons 142 = .ok (.aload_n 0, 1) := by decide +kernel
theorem dX12_reckons_143 : decode cX12_reckons 143 = .ok (.getfield 33, 3) := by decide +kernel
theorem dX12_reckons_146 : decode cX12_reckons 146 = .ok (.iload_n 2, 1) := by decide +kernel
theorem dX12_reckons_147 : decode cX12_reckons 147 = .ok (.iaload, 1) := by decide +kernel
theorem dX12_reckons_148 : decode cX12_reckons 148 = .ok (.goto 11, 3) := by decide +kernel
theorem dX12_reckons_151 : decode cX12_reckons 151 = .ok (.aload_n 0, 1) := by decide +kernel
theorem dX12_reckons_152 : decode cX12_reckons 152 = .ok (.getfield 33, 3) := by decide +kernel
theorem dX12_reckons_155 : decode cX12_reckons 155 = .ok (.iload_n 2, 1) := by decide +kernel
theorem dX12_reckons_156 : decode cX12_reckons 156 = .ok (.iconst 1, 1) := by decide +kernel
theorem dX12_reckons_157 : decode cX12_reckons 157 = .ok (.iadd, 1) := by decide +kernel
theorem dX12_reckons_158 : decode cX12_reckons 158 = .ok (.iaload, 1) := by decide +kernel
theorem dX12_reckons_159 : decode cX12_reckons 159 = .ok (.iastore, 1) := by decide +kernel
theorem dX12_reckons_160 : decode cX12_reckons 160 = .ok (.goto 33, 3) := by decide +kernel
theorem dX12_reckons_163 : decode cX12_reckons 163 = .ok (.iinc 2 (-1), 3) := by decide +kernel
theorem dX12_reckons_166 : decode cX12_reckons 166 = .ok (.aload_n 0, 1) := by decide +kernel
theorem dX12_reckons_167 : decode cX12_reckons 167 = .ok (.getfield 33, 3) := by decide +kernel
theorem dX12_reckons_170 : decode cX12_reckons 170 = .ok (.iload_n 2, 1) := by decide +kernel
theorem dX12_reckons_171 : decode cX12_reckons 171 = .ok (.iconst 1, 1) := by decide +kernel
theorem dX12_reckons_172 : decode cX12_reckons 172 = .ok (.isub, 1) := by decide +kernel
theorem dX12_reckons_173 : decode cX12_reckons 173 = .ok (.iload 4, 2) := by decide +kernel
theorem dX12_reckons_175 : decode cX12_reckons 175 = .ok (.aload_n 0, 1) := by decide +kernel
theorem dX12_reckons_176 : decode cX12_reckons 176 = .ok (.getfield 33, 3) := by decide +kernel
theorem dX12_reckons_179 : decode cX12_reckons 179 = .ok (.iload_n 2, 1) := by decide +kernel
theorem dX12_reckons_180 : decode cX12_reckons 180 = .ok (.iconst 1, 1) := by decide +kernel
theorem dX12_reckons_181 : decode cX12_reckons 181 = .ok (.isub, 1) := by decide +kernel
theorem dX12_reckons_182 : decode cX12_reckons 182 = .ok (.iaload, 1) := by decide +kernel
theorem dX12_reckons_183 : decode cX12_reckons 183 = .ok (.aload_n 0, 1) := by decide +kernel
theorem dX12_reckons_184 : decode cX12_reckons 184 = .ok (.getfield 33, 3) := by decide +kernel
theorem dX12_reckons_187 : decode cX12_reckons 187 = .ok (.iload_n 2, 1) := by decide +kernel
theorem dX12_reckons_188 : decode cX12_reckons 188 = .ok (.iaload, 1) := by decide +kernel
theorem dX12_reckons_189 : decode cX12_reckons 189 = .ok (.invokestatic 248, 3) := by decide +kernel
theorem dX12_reckons_192 : decode cX12_reckons 192 = .ok (.iastore, 1) := by decide +kernel
theorem dX12_reckons_193 : decode cX12_reckons 193 = .ok (.iinc 3 1, 3) := by decide +kernel
theorem dX12_reckons_196 : decode cX12_reckons 196 = .ok (.goto (-192), 3) := by decide +kernel
theorem dX12_reckons_199 : decode cX12_reckons 199 = .ok (.aload_n 0, 1) := by decide +kernel
theorem dX12_reckons_200 : decode cX12_reckons 200 = .ok (.getfield 33, 3) := by decide +kernel
theorem dX12_reckons_203 : decode cX12_reckons 203 = .ok (.iconst 0, 1) := by decide +kernel
theorem dX12_reckons_204 : decode cX12_reckons 204 = .ok (.iaload, 1) := by decide +kernel
theorem dX12_reckons_205 : decode cX12_reckons 205 = .ok (.ireturn, 1) := by decide +kernel
theorem dX12_laysNow_0 : decode cX12_laysNow 0 = .ok (.aload_n 0, 1) := by decide +kernel
theorem dX12_laysNow_1 : decode cX12_laysNow 1 = .ok (.invokevirtual 251, 3) := by decide +kernel
theorem dX12_laysNow_4 : decode cX12_laysNow 4 = .ok (.aload_n 0, 1) := by decide +kernel
theorem dX12_laysNow_5 : decode cX12_laysNow 5 = .ok (.iload_n 1, 1) := by decide +kernel
theorem dX12_laysNow_6 : decode cX12_laysNow 6 = .ok (.putfield 254, 3) := by decide +kernel
theorem dX12_laysNow_9 : decode cX12_laysNow 9 = .ok (.return_, 1) := by decide +kernel
theorem dX12_laysWords_0 : decode cX12_laysWords 0 = .ok (.aload_n 0, 1) := by decide +kernel
theorem dX12_laysWords_1 : decode cX12_laysWords 1 = .ok (.getfield 13, 3) := by decide +kernel
theorem dX12_laysWords_4 : decode cX12_laysWords 4 = .ok (.bipush 46, 2) := by decide +kernel
theorem dX12_laysWords_6 : decode cX12_laysWords 6 = .ok (.iload_n 1, 1) := by decide +kernel
theorem dX12_laysWords_7 : decode cX12_laysWords 7 = .ok (.iadd, 1) := by decide +kernel
theorem dX12_laysWords_8 : decode cX12_laysWords 8 = .ok (.iaload, 1) := by decide +kernel
theorem dX12_laysWords_9 : decode cX12_laysWords 9 = .ok (.istore 6, 2) := by decide +kernel
theorem dX12_laysWords_11 : decode cX12_laysWords 11 = .ok (.aload_n 0, 1) := by decide +kernel
theorem dX12_laysWords_12 : decode cX12_laysWords 12 = .ok (.getfield 13, 3) := by decide +kernel
theorem dX12_laysWords_15 : decode cX12_laysWords 15 = .ok (.bipush 46, 2) := by decide +kernel
theorem dX12_laysWords_17 : decode cX12_laysWords 17 = .ok (.iload_n 2, 1) := by decide +kernel
theorem dX12_laysWords_18 : decode cX12_laysWords 18 = .ok (.iadd, 1) := by decide +kernel
theorem dX12_laysWords_19 : decode cX12_laysWords 19 = .ok (.iaload, 1) := by decide +kernel
theorem dX12_laysWords_20 : decode cX12_laysWords 20 = .ok (.istore 7, 2) := by decide +kernel
theorem dX12_laysWords_22 : decode cX12_laysWords 22 = .ok (.aload_n 0, 1) := by decide +kernel
theorem dX12_laysWords_23 : decode cX12_laysWords 23 = .ok (.getfield 36, 3) := by decide +kernel
theorem dX12_laysWords_26 : decode cX12_laysWords 26 = .ok (.iconst 0, 1) := by decide +kernel
theorem dX12_laysWords_27 : decode cX12_laysWords 27 = .ok (.iload 6, 2) := by decide +kernel
theorem dX12_laysWords_29 : decode cX12_laysWords 29 = .ok (.iload 7, 2) := by decide +kernel
theorem dX12_laysWords_31 : decode cX12_laysWords 31 = .ok (.iadd, 1) := by decide +kernel
theorem dX12_laysWords_32 : decode cX12_laysWords 32 = .ok (.iastore, 1) := by decide +kernel
theorem dX12_laysWords_33 : decode cX12_laysWords 33 = .ok (.aload_n 0, 1) := by decide +kernel
theorem dX12_laysWords_34 : decode cX12_laysWords 34 = .ok (.getfield 36, 3) := by decide +kernel
theorem dX12_laysWords_37 : decode cX12_laysWords 37 = .ok (.iconst 1, 1) := by decide +kernel
theorem dX12_laysWords_38 : decode cX12_laysWords 38 = .ok (.aload_n 0, 1) := by decide +kernel
theorem dX12_laysWords_39 : decode cX12_laysWords 39 = .ok (.getfield 13, 3) := by decide +kernel
theorem dX12_laysWords_42 : decode cX12_laysWords 42 = .ok (.bipush 54, 2) := by decide +kernel
theorem dX12_laysWords_44 : decode cX12_laysWords 44 = .ok (.iload_n 3, 1) := by decide +kernel
theorem dX12_laysWords_45 : decode cX12_laysWords 45 = .ok (.iadd, 1) := by decide +kernel
theorem dX12_laysWords_46 : decode cX12_laysWords 46 = .ok (.iaload, 1) := by decide +kernel
theorem dX12_laysWords_47 : decode cX12_laysWords 47 = .ok (.iastore, 1) := by decide +kernel
theorem dX12_laysWords_48 : decode cX12_laysWords 48 = .ok (.aload_n 0, 1) := by decide +kernel
theorem dX12_laysWords_49 : decode cX12_laysWords 49 = .ok (.getfield 36, 3) := by decide +kernel
theorem dX12_laysWords_52 : decode cX12_laysWords 52 = .ok (.iconst 2, 1) := by decide +kernel
theorem dX12_laysWords_53 : decode cX12_laysWords 53 = .ok (.aload_n 0, 1) := by decide +kernel
theorem dX12_laysWords_54 : decode cX12_laysWords 54 = .ok (.getfield 30, 3) := by decide +kernel
theorem dX12_laysWords_57 : decode cX12_laysWords 57 = .ok (.bipush 6, 2) := by decide +kernel
theorem dX12_laysWords_59 : decode cX12_laysWords 59 = .ok (.iload 4, 2) := by decide +kernel
theorem dX12_laysWords_61 : decode cX12_laysWords 61 = .ok (.imul, 1) := by decide +kernel
theorem dX12_laysWords_62 : decode cX12_laysWords 62 = .ok (.aload_n 0, 1) := by decide +kernel
theorem dX12_laysWords_63 : decode cX12_laysWords 63 = .ok (.getfield 13, 3) := by decide +kernel
theorem dX12_laysWords_66 : decode cX12_laysWords 66 = .ok (.bipush 38, 2) := by decide +kernel
theorem dX12_laysWords_68 : decode cX12_laysWords 68 = .ok (.iload_n 1, 1) := by decide +kernel
theorem dX12_laysWords_69 : decode cX12_laysWords 69 = .ok (.iadd, 1) := by decide +kernel
theorem dX12_laysWords_70 : decode cX12_laysWords 70 = .ok (.iaload, 1) := by decide +kernel
theorem dX12_laysWords_71 : decode cX12_laysWords 71 = .ok (.iadd, 1) := by decide +kernel
theorem dX12_laysWords_72 : decode cX12_laysWords 72 = .ok (.iaload, 1) := by decide +kernel
theorem dX12_laysWords_73 : decode cX12_laysWords 73 = .ok (.aload_n 0, 1) := by decide +kernel
theorem dX12_laysWords_74 : decode cX12_laysWords 74 = .ok (.getfield 30, 3) := by decide +kernel
theorem dX12_laysWords_77 : decode cX12_laysWords 77 = .ok (.bipush 6, 2) := by decide +kernel
theorem dX12_laysWords_79 : decode cX12_laysWords 79 = .ok (.iload 4, 2) := by decide +kernel
theorem dX12_laysWords_81 : decode cX12_laysWords 81 = .ok (.imul, 1) := by decide +kernel
theorem dX12_laysWords_82 : decode cX12_laysWords 82 = .ok (.aload_n 0, 1) := by decide +kernel
theorem dX12_laysWords_83 : decode cX12_laysWords 83 = .ok (.getfield 13, 3) := by decide +kernel
theorem dX12_laysWords_86 : decode cX12_laysWords 86 = .ok (.bipush 38, 2) := by decide +kernel
theorem dX12_laysWords_88 : decode cX12_laysWords 88 = .ok (.iload_n 2, 1) := by decide +kernel
theorem dX12_laysWords_89 : decode cX12_laysWords 89 = .ok (.iadd, 1) := by decide +kernel
theorem dX12_laysWords_90 : decode cX12_laysWords 90 = .ok (.iaload, 1) := by decide +kernel
theorem dX12_laysWords_91 : decode cX12_laysWords 91 = .ok (.iadd, 1) := by decide +kernel
theorem dX12_laysWords_92 : decode cX12_laysWords 92 = .ok (.iaload, 1) := by decide +kernel
theorem dX12_laysWords_93 : decode cX12_laysWords 93 = .ok (.iadd, 1) := by decide +kernel
theorem dX12_laysWords_94 : decode cX12_laysWords 94 = .ok (.iastore, 1) := by decide +kernel
theorem dX12_laysWords_95 : decode cX12_laysWords 95 = .ok (.aload_n 0, 1) := by decide +kernel
theorem dX12_laysWords_96 : decode cX12_laysWords 96 = .ok (.getfield 36, 3) := by decide +kernel
theorem dX12_laysWords_99 : decode cX12_laysWords 99 = .ok (.iconst 3, 1) := by decide +kernel
theorem dX12_laysWords_100 : decode cX12_laysWords 100 = .ok (.aload_n 0, 1) := by decide +kernel
theorem dX12_laysWords_101 : decode cX12_laysWords 101 = .ok (.iload 5, 2) := by decide +kernel
theorem dX12_laysWords_103 : decode cX12_laysWords 103 = .ok (.invokevirtual 237, 3) := by decide +kernel
theorem dX12_laysWords_106 : decode cX12_laysWords 106 = .ok (.iastore, 1) := by decide +kernel
theorem dX12_laysWords_107 : decode cX12_laysWords 107 = .ok (.aload_n 0, 1) := by decide +kernel
theorem dX12_laysWords_108 : decode cX12_laysWords 108 = .ok (.getfield 36, 3) := by decide +kernel
theorem dX12_laysWords_111 : decode cX12_laysWords 111 = .ok (.iconst 4, 1) := by decide +kernel
theorem dX12_laysWords_112 : decode cX12_laysWords 112 = .ok (.aload_n 0, 1) := by decide +kernel
theorem dX12_laysWords_113 : decode cX12_laysWords 113 = .ok (.getfield 254, 3) := by decide +kernel
theorem dX12_laysWords_116 : decode cX12_laysWords 116 = .ok (.iastore, 1) := by decide +kernel
theorem dX12_laysWords_117 : decode cX12_laysWords 117 = .ok (.aload_n 0, 1) := by decide +kernel
theorem dX12_laysWords_118 : decode cX12_laysWords 118 = .ok (.getfield 36, 3) := by decide +kernel
theorem dX12_laysWords_121 : decode cX12_laysWords 121 = .ok (.iconst 5, 1) := by decide +kernel
theorem dX12_laysWords_122 : decode cX12_laysWords 122 = .ok (.iload 6, 2) := by decide +kernel
theorem dX12_laysWords_124 : decode cX12_laysWords 124 = .ok (.iload 7, 2) := by decide +kernel
theorem dX12_laysWords_126 : decode cX12_laysWords 126 = .ok (.if_icmp .ge 8, 3) := by decide +kernel
theorem dX12_laysWords_129 : decode cX12_laysWords 129 = .ok (.iload 6, 2) := by decide +kernel
theorem dX12_laysWords_131 : decode cX12_laysWords 131 = .ok (.goto 5, 3) := by decide +kernel
theorem dX12_laysWords_134 : decode cX12_laysWords 134 = .ok (.iload 7, 2) := by decide +kernel
theorem dX12_laysWords_136 : decode cX12_laysWords 136 = .ok (.iastore, 1) := by decide +kernel
theorem dX12_laysWords_137 : decode cX12_laysWords 137 = .ok (.return_, 1) := by decide +kernel
theorem dX12_mayBy_0 : decode cX12_mayBy 0 = .ok (.aload_n 0, 1) := by decide +kernel
theorem dX12_mayBy_1 : decode cX12_mayBy 1 = .ok (.iload_n 1, 1) := by decide +kernel
theorem dX12_mayBy_2 : decode cX12_mayBy 2 = .ok (.iload_n 2, 1) := by decide +kernel
theorem dX12_mayBy_3 : decode cX12_mayBy 3 = .ok (.iload_n 3, 1) := by decide +kernel
theorem dX12_mayBy_4 : decode cX12_mayBy 4 = .ok (.iload 4, 2) := by decide +kernel
theorem dX12_mayBy_6 : decode cX12_mayBy 6 = .ok (.iload 5, 2) := by decide +kernel
theorem dX12_mayBy_8 : decode cX12_mayBy 8 = .ok (.invokevirtual 257, 3) := by decide +kernel
theorem dX12_mayBy_11 : decode cX12_mayBy 11 = .ok (.aload_n 0, 1) := by decide +kernel
theorem dX12_mayBy_12 : decode cX12_mayBy 12 = .ok (.getfield 13, 3) := by decide +kernel
theorem dX12_mayBy_15 : decode cX12_mayBy 15 = .ok (.iconst 5, 1) := by decide +kernel
theorem dX12_mayBy_16 : decode cX12_mayBy 16 = .ok (.iaload, 1) := by decide +kernel
theorem dX12_mayBy_17 : decode cX12_mayBy 17 = .ok (.iconst 1, 1) := by decide +kernel
theorem dX12_mayBy_18 : decode cX12_mayBy 18 = .ok (.if_icmp .ne 20, 3) := by decide +kernel
theorem dX12_mayBy_21 : decode cX12_mayBy 21 = .ok (.aload_n 0, 1) := by decide +kernel
theorem dX12_mayBy_22 : decode cX12_mayBy 22 = .ok (.iconst 0, 1) := by decide +kernel
theorem dX12_mayBy_23 : decode cX12_mayBy 23 = .ok (.invokevirtual 261, 3) := by decide +kernel
theorem dX12_mayBy_26 : decode cX12_mayBy 26 = .ok (.iconst 1, 1) := by decide +kernel
theorem dX12_mayBy_27 : decode cX12_mayBy 27 = .ok (.if_icmp .ne 7, 3) := by decide +kernel
theorem dX12_mayBy_30 : decode cX12_mayBy 30 = .ok (.iconst 1, 1) := by decide +kernel
theorem dX12_mayBy_31 : decode cX12_mayBy 31 = .ok (.goto 27, 3) := by decide +kernel
theorem dX12_mayBy_34 : decode cX12_mayBy 34 = .ok (.iconst 0, 1) := by decide +kernel
theorem dX12_mayBy_35 : decode cX12_mayBy 35 = .ok (.goto 23, 3) := by decide +kernel
theorem dX12_mayBy_38 : decode cX12_mayBy 38 = .ok (.aload_n 0, 1) := by decide +kernel
theorem dX12_mayBy_39 : decode cX12_mayBy 39 = .ok (.getfield 36, 3) := by decide +kernel
theorem dX12_mayBy_42 : decode cX12_mayBy 42 = .ok (.iconst 0, 1) := by decide +kernel
theorem dX12_mayBy_43 : decode cX12_mayBy 43 = .ok (.iaload, 1) := by decide +kernel
theorem dX12_mayBy_44 : decode cX12_mayBy 44 = .ok (.aload_n 0, 1) := by decide +kernel
theorem dX12_mayBy_45 : decode cX12_mayBy 45 = .ok (.getfield 36, 3) := by decide +kernel
theorem dX12_mayBy_48 : decode cX12_mayBy 48 = .ok (.iconst 1, 1) := by decide +kernel
theorem dX12_mayBy_49 : decode cX12_mayBy 49 = .ok (.iaload, 1) := by decide +kernel
theorem dX12_mayBy_50 : decode cX12_mayBy 50 = .ok (.if_icmp .lt 7, 3) := by decide +kernel
theorem dX12_mayBy_53 : decode cX12_mayBy 53 = .ok (.iconst 1, 1) := by decide +kernel
theorem dX12_mayBy_54 : decode cX12_mayBy 54 = .ok (.goto 4, 3) := by decide +kernel
theorem dX12_mayBy_57 : decode cX12_mayBy 57 = .ok (.iconst 0, 1) := by decide +kernel
theorem dX12_mayBy_58 : decode cX12_mayBy 58 = .ok (.ireturn, 1) := by decide +kernel
theorem dX12_roadFor_0 : decode cX12_roadFor 0 = .ok (.aload_n 0, 1) := by decide +kernel
theorem dX12_roadFor_1 : decode cX12_roadFor 1 = .ok (.iload_n 1, 1) := by decide +kernel
theorem dX12_roadFor_2 : decode cX12_roadFor 2 = .ok (.iload_n 2, 1) := by decide +kernel
theorem dX12_roadFor_3 : decode cX12_roadFor 3 = .ok (.invokevirtual 264, 3) := by decide +kernel
theorem dX12_roadFor_6 : decode cX12_roadFor 6 = .ok (.ifCond .eq 5, 3) := by decide +kernel
theorem dX12_roadFor_9 : decode cX12_roadFor 9 = .ok (.iconst (-1), 1) := by decide +kernel
theorem dX12_roadFor_10 : decode cX12_roadFor 10 = .ok (.ireturn, 1) := by decide +kernel
theorem dX12_roadFor_11 : decode cX12_roadFor 11 = .ok (.iconst 0, 1) := by decide +kernel
theorem dX12_roadFor_12 : decode cX12_roadFor 12 = .ok (.istore 6, 2) := by decide +kernel
theorem dX12_roadFor_14 : decode cX12_roadFor 14 = .ok (.iload 6, 2) := by decide +kernel
theorem dX12_roadFor_16 : decode cX12_roadFor 16 = .ok (.aload_n 0, 1) := by decide +kernel
theorem dX12_roadFor_17 : decode cX12_roadFor 17 = .ok (.getfield 13, 3) := by decide +kernel
theorem dX12_roadFor_20 : decode cX12_roadFor 20 = .ok (.iconst 2, 1) := by decide +kernel
theorem dX12_roadFor_21 : decode cX12_roadFor 21 = .ok (.iaload, 1) := by decide +kernel
theorem dX12_roadFor_22 : decode cX12_roadFor 22 = .ok (.if_icmp .ge 39, 3) := by decide +kernel
theorem dX12_roadFor_25 : decode cX12_roadFor 25 = .ok (.aload_n 0, 1) := by decide +kernel
theorem dX12_roadFor_26 : decode cX12_roadFor 26 = .ok (.iload 6, 2) := by decide +kernel
theorem dX12_roadFor_28 : decode cX12_roadFor 28 = .ok (.iload 4, 2) := by decide +kernel
theorem dX12_roadFor_30 : decode cX12_roadFor 30 = .ok (.iload 5, 2) := by decide +kernel
theorem dX12_roadFor_32 : decode cX12_roadFor 32 = .ok (.invokevirtual 229, 3) := by decide +kernel
theorem dX12_roadFor_35 : decode cX12_roadFor 35 = .ok (.ifCond .eq 20, 3) := by decide +kernel
theorem dX12_roadFor_38 : decode cX12_roadFor 38 = .ok (.aload_n 0, 1) := by decide +kernel
theorem dX12_roadFor_39 : decode cX12_roadFor 39 = .ok (.iload_n 1, 1) := by decide +kernel
theorem dX12_roadFor_40 : decode cX12_roadFor 40 = .ok (.iload_n 2, 1) := by decide +kernel
theorem dX12_roadFor_41 : decode cX12_roadFor 41 = .ok (.iload_n 3, 1) := by decide +kernel
theorem dX12_roadFor_42 : decode cX12_roadFor 42 = .ok (.iload 4, 2) := by decide +kernel
theorem dX12_roadFor_44 : decode cX12_roadFor 44 = .ok (.iload 6, 2) := by decide +kernel
theorem dX12_roadFor_46 : decode cX12_roadFor 46 = .ok (.invokevirtual 268, 3) := by decide +kernel
theorem dX12_roadFor_49 : decode cX12_roadFor 49 = .ok (.ifCond .eq 6, 3) := by decide +kernel
theorem dX12_roadFor_52 : decode cX12_roadFor 52 = .ok (.iload 6, 2) := by decide +kernel
theorem dX12_roadFor_54 : decode cX12_roadFor 54 = .ok (.ireturn, 1) := by decide +kernel
theorem dX12_roadFor_55 : decode cX12_roadFor 55 = .ok (.iinc 6 1, 3) := by decide +kernel
theorem dX12_roadFor_58 : decode cX12_roadFor 58 = .ok (.goto (-44), 3) := by decide +kernel
theorem dX12_roadFor_61 : decode cX12_roadFor 61 = .ok (.iconst (-1), 1) := by decide +kernel
theorem dX12_roadFor_62 : decode cX12_roadFor 62 = .ok (.ireturn, 1) := by decide +kernel
theorem dX12_wearsBy_0 : decode cX12_wearsBy 0 = .ok (.aload_n 0, 1) := by decide +kernel
theorem dX12_wearsBy_1 : decode cX12_wearsBy 1 = .ok (.iload_n 1, 1) := by decide +kernel
theorem dX12_wearsBy_2 : decode cX12_wearsBy 2 = .ok (.iload_n 2, 1) := by decide +kernel
theorem dX12_wearsBy_3 : decode cX12_wearsBy 3 = .ok (.iload_n 3, 1) := by decide +kernel
theorem dX12_wearsBy_4 : decode cX12_wearsBy 4 = .ok (.iload 4, 2) := by decide +kernel
theorem dX12_wearsBy_6 : decode cX12_wearsBy 6 = .ok (.iload 5, 2) := by decide +kernel
theorem dX12_wearsBy_8 : decode cX12_wearsBy 8 = .ok (.invokevirtual 257, 3) := by decide +kernel
theorem dX12_wearsBy_11 : decode cX12_wearsBy 11 = .ok (.aload_n 0, 1) := by decide +kernel
theorem dX12_wearsBy_12 : decode cX12_wearsBy 12 = .ok (.getfield 13, 3) := by decide +kernel
theorem dX12_wearsBy_15 : decode cX12_wearsBy 15 = .ok (.bipush 6, 2) := by decide +kernel
theorem dX12_wearsBy_17 : decode cX12_wearsBy 17 = .ok (.iaload, 1) := by decide +kernel
theorem dX12_wearsBy_18 : decode cX12_wearsBy 18 = .ok (.iconst 1, 1) := by decide +kernel
theorem dX12_wearsBy_19 : decode cX12_wearsBy 19 = .ok (.if_icmp .ne 11, 3) := by decide +kernel
theorem dX12_wearsBy_22 : decode cX12_wearsBy 22 = .ok (.aload_n 0, 1) := by decide +kernel
theorem dX12_wearsBy_23 : decode cX12_wearsBy 23 = .ok (.iconst 1, 1) := by decide +kernel
theorem dX12_wearsBy_24 : decode cX12_wearsBy 24 = .ok (.invokevirtual 261, 3) := by decide +kernel
theorem dX12_wearsBy_27 : decode cX12_wearsBy 27 = .ok (.goto 9, 3) := by decide +kernel
theorem dX12_wearsBy_30 : decode cX12_wearsBy 30 = .ok (.aload_n 0, 1) := by decide +kernel
theorem dX12_wearsBy_31 : decode cX12_wearsBy 31 = .ok (.getfield 36, 3) := by decide +kernel
theorem dX12_wearsBy_34 : decode cX12_wearsBy 34 = .ok (.iconst 3, 1) := by decide +kernel
theorem dX12_wearsBy_35 : decode cX12_wearsBy 35 = .ok (.iaload, 1) := by decide +kernel
theorem dX12_wearsBy_36 : decode cX12_wearsBy 36 = .ok (.istore 6, 2) := by decide +kernel
theorem dX12_wearsBy_38 : decode cX12_wearsBy 38 = .ok (.iload 6, 2) := by decide +kernel
theorem dX12_wearsBy_40 : decode cX12_wearsBy 40 = .ok (.ifCond .ge 7, 3) := by decide +kernel
theorem dX12_wearsBy_43 : decode cX12_wearsBy 43 = .ok (.iconst 0, 1) := by decide +kernel
theorem dX12_wearsBy_44 : decode cX12_wearsBy 44 = .ok (.goto 17, 3) := by decide +kernel
theorem dX12_wearsBy_47 : decode cX12_wearsBy 47 = .ok (.iload 6, 2) := by decide +kernel
theorem dX12_wearsBy_49 : decode cX12_wearsBy 49 = .ok (.bipush 9, 2) := by decide +kernel
theorem dX12_wearsBy_51 : decode cX12_wearsBy 51 = .ok (.if_icmp .le 8, 3) := by decide +kernel
theorem dX12_wearsBy_54 : decode cX12_wearsBy 54 = .ok (.bipush 9, 2) := by decide +kernel
theorem dX12_wearsBy_56 : decode cX12_wearsBy 56 = .ok (.goto 5, 3) := by decide +kernel
theorem dX12_wearsBy_59 : decode cX12_wearsBy 59 = .ok (.iload 6, 2) := by decide +kernel
theorem dX12_wearsBy_61 : decode cX12_wearsBy 61 = .ok (.ireturn, 1) := by decide +kernel
theorem dX12_whyCarry_0 : decode cX12_whyCarry 0 = .ok (.aload_n 0, 1) := by decide +kernel
theorem dX12_whyCarry_1 : decode cX12_whyCarry 1 = .ok (.iload_n 1, 1) := by decide +kernel
theorem dX12_whyCarry_2 : decode cX12_whyCarry 2 = .ok (.i2l, 1) := by decide +kernel
theorem dX12_whyCarry_3 : decode cX12_whyCarry 3 = .ok (.invokevirtual 272, 3) := by decide +kernel
theorem dX12_whyCarry_6 : decode cX12_whyCarry 6 = .ok (.ifCond .eq 36, 3) := by decide +kernel
theorem dX12_whyCarry_9 : decode cX12_whyCarry 9 = .ok (.aload_n 0, 1) := by decide +kernel
theorem dX12_whyCarry_10 : decode cX12_whyCarry 10 = .ok (.iload_n 2, 1) := by decide +kernel
theorem dX12_whyCarry_11 : decode cX12_whyCarry 11 = .ok (.i2l, 1) := by decide +kernel
theorem dX12_whyCarry_12 : decode cX12_whyCarry 12 = .ok (.invokevirtual 272, 3) := by decide +kernel
theorem dX12_whyCarry_15 : decode cX12_whyCarry 15 = .ok (.ifCond .eq 27, 3) := by decide +kernel
theorem dX12_whyCarry_18 : decode cX12_whyCarry 18 = .ok (.iload_n 1, 1) := by decide +kernel
theorem dX12_whyCarry_19 : decode cX12_whyCarry 19 = .ok (.iload_n 2, 1) := by decide +kernel
theorem dX12_whyCarry_20 : decode cX12_whyCarry 20 = .ok (.if_icmp .eq 22, 3) := by decide +kernel
theorem dX12_whyCarry_23 : decode cX12_whyCarry 23 = .ok (.aload_n 0, 1) := by decide +kernel
theorem dX12_whyCarry_24 : decode cX12_whyCarry 24 = .ok (.iload_n 3, 1) := by decide +kernel
theorem dX12_whyCarry_25 : decode cX12_whyCarry 25 = .ok (.i2l, 1) := by decide +kernel
theorem dX12_whyCarry_26 : decode cX12_whyCarry 26 = .ok (.invokevirtual 276, 3) := by decide +kernel
theorem dX12_whyCarry_29 : decode cX12_whyCarry 29 = .ok (.ifCond .eq 13, 3) := by decide +kernel
theorem dX12_whyCarry_32 : decode cX12_whyCarry 32 = .ok (.aload_n 0, 1) := by decide +kernel
theorem dX12_whyCarry_33 : decode cX12_whyCarry 33 = .ok (.iload 4, 2) := by decide +kernel
theorem dX12_whyCarry_35 : decode cX12_whyCarry 35 = .ok (.i2l, 1) := by decide +kernel
theorem dX12_whyCarry_36 : decode cX12_whyCarry 36 = .ok (.invokevirtual 279, 3) := by decide +kernel
theorem dX12_whyCarry_39 : decode cX12_whyCarry 39 = .ok (.ifCond .ne 5, 3) := by decide +kernel
theorem dX12_whyCarry_42 : decode cX12_whyCarry 42 = .ok (.iconst 1, 1) := by decide +kernel
theorem dX12_whyCarry_43 : decode cX12_whyCarry 43 = .ok (.ireturn, 1) := by decide +kernel
theorem dX12_whyCarry_44 : decode cX12_whyCarry 44 = .ok (.aload_n 0, 1) := by decide +kernel
theorem dX12_whyCarry_45 : decode cX12_whyCarry 45 = .ok (.aload_n 0, 1) := by decide +kernel
theorem dX12_whyCarry_46 : decode cX12_whyCarry 46 = .ok (.getfield 13, 3) := by decide +kernel
theorem dX12_whyCarry_49 : decode cX12_whyCarry 49 = .ok (.bipush 62, 2) := by decide +kernel
theorem dX12_whyCarry_51 : decode cX12_whyCarry 51 = .ok (.iload_n 3, 1) := by decide +kernel
theorem dX12_whyCarry_52 : decode cX12_whyCarry 52 = .ok (.iadd, 1) := by decide +kernel
theorem dX12_whyCarry_53 : decode cX12_whyCarry 53 = .ok (.iaload, 1) := by decide +kernel
theorem dX12_whyCarry_54 : decode cX12_whyCarry 54 = .ok (.iload 4, 2) := by decide +kernel
theorem dX12_whyCarry_56 : decode cX12_whyCarry 56 = .ok (.invokevirtual 282, 3) := by decide +kernel
theorem dX12_whyCarry_59 : decode cX12_whyCarry 59 = .ok (.ifCond .ne 5, 3) := by decide +kernel
theorem dX12_whyCarry_62 : decode cX12_whyCarry 62 = .ok (.iconst 2, 1) := by decide +kernel
theorem dX12_whyCarry_63 : decode cX12_whyCarry 63 = .ok (.ireturn, 1) := by decide +kernel
theorem dX12_whyCarry_64 : decode cX12_whyCarry 64 = .ok (.aload_n 0, 1) := by decide +kernel
theorem dX12_whyCarry_65 : decode cX12_whyCarry 65 = .ok (.iload_n 1, 1) := by decide +kernel
theorem dX12_whyCarry_66 : decode cX12_whyCarry 66 = .ok (.iload_n 2, 1) := by decide +kernel
theorem dX12_whyCarry_67 : decode cX12_whyCarry 67 = .ok (.invokevirtual 264, 3) := by decide +kernel
theorem dX12_whyCarry_70 : decode cX12_whyCarry 70 = .ok (.ifCond .eq 5, 3) := by decide +kernel
theorem dX12_whyCarry_73 : decode cX12_whyCarry 73 = .ok (.iconst 3, 1) := by decide +kernel
theorem dX12_whyCarry_74 : decode cX12_whyCarry 74 = .ok (.ireturn, 1) := by decide +kernel
theorem dX12_whyCarry_75 : decode cX12_whyCarry 75 = .ok (.aload_n 0, 1) := by decide +kernel
theorem dX12_whyCarry_76 : decode cX12_whyCarry 76 = .ok (.iload 5, 2) := by decide +kernel
theorem dX12_whyCarry_78 : decode cX12_whyCarry 78 = .ok (.invokevirtual 285, 3) := by decide +kernel
theorem dX12_whyCarry_81 : decode cX12_whyCarry 81 = .ok (.aload_n 0, 1) := by decide +kernel
theorem dX12_whyCarry_82 : decode cX12_whyCarry 82 = .ok (.iload_n 1, 1) := by decide +kernel
theorem dX12_whyCarry_83 : decode cX12_whyCarry 83 = .ok (.iload_n 2, 1) := by decide +kernel
theorem dX12_whyCarry_84 : decode cX12_whyCarry 84 = .ok (.iload_n 3, 1) := by decide +kernel
theorem dX12_whyCarry_85 : decode cX12_whyCarry 85 = .ok (.aload_n 0, 1) := by decide +kernel
theorem dX12_whyCarry_86 : decode cX12_whyCarry 86 = .ok (.getfield 13, 3) := by decide +kernel
theorem dX12_whyCarry_89 : decode cX12_whyCarry 89 = .ok (.bipush 62, 2) := by decide +kernel
theorem dX12_whyCarry_91 : decode cX12_whyCarry 91 = .ok (.iload_n 3, 1) := by decide +kernel
theorem dX12_whyCarry_92 : decode cX12_whyCarry 92 = .ok (.iadd, 1) := by decide +kernel
theorem dX12_whyCarry_93 : decode cX12_whyCarry 93 = .ok (.iaload, 1) := by decide +kernel
theorem dX12_whyCarry_94 : decode cX12_whyCarry 94 = .ok (.iload 4, 2) := by decide +kernel
theorem dX12_whyCarry_96 : decode cX12_whyCarry 96 = .ok (.invokevirtual 288, 3) := by decide +kernel
theorem dX12_whyCarry_99 : decode cX12_whyCarry 99 = .ok (.iconst (-1), 1) := by decide +kernel
theorem dX12_whyCarry_100 : decode cX12_whyCarry 100 = .ok (.if_icmp .ne 7, 3) := by decide +kernel
theorem dX12_whyCarry_103 : decode cX12_whyCarry 103 = .ok (.iconst 4, 1) := by decide +kernel
theorem dX12_whyCarry_104 : decode cX12_whyCarry 104 = .ok (.goto 4, 3) := by decide +kernel
theorem dX12_whyCarry_107 : decode cX12_whyCarry 107 = .ok (.iconst 0, 1) := by decide +kernel
theorem dX12_whyCarry_108 : decode cX12_whyCarry 108 = .ok (.ireturn, 1) := by decide +kernel
theorem dX12_wornTo_0 : decode cX12_wornTo 0 = .ok (.aload_n 0, 1) := by decide +kernel
theorem dX12_wornTo_1 : decode cX12_wornTo 1 = .ok (.iload 5, 2) := by decide +kernel
theorem dX12_wornTo_3 : decode cX12_wornTo 3 = .ok (.invokevirtual 285, 3) := by decide +kernel
theorem dX12_wornTo_6 : decode cX12_wornTo 6 = .ok (.aload_n 0, 1) := by decide +kernel
theorem dX12_wornTo_7 : decode cX12_wornTo 7 = .ok (.getfield 13, 3) := by decide +kernel
theorem dX12_wornTo_10 : decode cX12_wornTo 10 = .ok (.bipush 62, 2) := by decide +kernel
theorem dX12_wornTo_12 : decode cX12_wornTo 12 = .ok (.iload_n 3, 1) := by decide +kernel
theorem dX12_wornTo_13 : decode cX12_wornTo 13 = .ok (.iadd, 1) := by decide +kernel
theorem dX12_wornTo_14 : decode cX12_wornTo 14 = .ok (.iaload, 1) := by decide +kernel
theorem dX12_wornTo_15 : decode cX12_wornTo 15 = .ok (.istore 6, 2) := by decide +kernel
theorem dX12_wornTo_17 : decode cX12_wornTo 17 = .ok (.aload_n 0, 1) := by decide +kernel
theorem dX12_wornTo_18 : decode cX12_wornTo 18 = .ok (.iload_n 1, 1) := by decide +kernel
theorem dX12_wornTo_19 : decode cX12_wornTo 19 = .ok (.iload_n 2, 1) := by decide +kernel
theorem dX12_wornTo_20 : decode cX12_wornTo 20 = .ok (.iload_n 3, 1) := by decide +kernel
theorem dX12_wornTo_21 : decode cX12_wornTo 21 = .ok (.iload 6, 2) := by decide +kernel
theorem dX12_wornTo_23 : decode cX12_wornTo 23 = .ok (.aload_n 0, 1) := by decide +kernel
theorem dX12_wornTo_24 : decode cX12_wornTo 24 = .ok (.iload_n 1, 1) := by decide +kernel
theorem dX12_wornTo_25 : decode cX12_wornTo 25 = .ok (.iload_n 2, 1) := by decide +kernel
theorem dX12_wornTo_26 : decode cX12_wornTo 26 = .ok (.iload_n 3, 1) := by decide +kernel
theorem dX12_wornTo_27 : decode cX12_wornTo 27 = .ok (.iload 6, 2) := by decide +kernel
theorem dX12_wornTo_29 : decode cX12_wornTo 29 = .ok (.iload 4, 2) := by decide +kernel
theorem dX12_wornTo_31 : decode cX12_wornTo 31 = .ok (.invokevirtual 288, 3) := by decide +kernel
theorem dX12_wornTo_34 : decode cX12_wornTo 34 = .ok (.invokevirtual 292, 3) := by decide +kernel
theorem dX12_wornTo_37 : decode cX12_wornTo 37 = .ok (.ireturn, 1) := by decide +kernel
theorem dX12_person_0 : decode cX12_person 0 = .ok (.aload_n 0, 1) := by decide +kernel
theorem dX12_person_1 : decode cX12_person 1 = .ok (.iconst 0, 1) := by decide +kernel
theorem dX12_person_2 : decode cX12_person 2 = .ok (.putfield 1, 3) := by decide +kernel
theorem dX12_person_5 : decode cX12_person 5 = .ok (.aload_n 0, 1) := by decide +kernel
theorem dX12_person_6 : decode cX12_person 6 = .ok (.iload_n 1, 1) := by decide +kernel
theorem dX12_person_7 : decode cX12_person 7 = .ok (.i2l, 1) := by decide +kernel
theorem dX12_person_8 : decode cX12_person 8 = .ok (.invokevirtual 272, 3) := by decide +kernel
theorem dX12_person_11 : decode cX12_person 11 = .ok (.ifCond .ne 6, 3) := by decide +kernel
theorem dX12_person_14 : decode cX12_person 14 = .ok (.bipush (-2), 2) := by decide +kernel
theorem dX12_person_16 : decode cX12_person 16 = .ok (.ireturn, 1) := by decide +kernel
theorem dX12_person_17 : decode cX12_person 17 = .ok (.iload_n 2, 1) := by decide +kernel
theorem dX12_person_18 : decode cX12_person 18 = .ok (.ifCond .ne 15, 3) := by decide +kernel
theorem dX12_person_21 : decode cX12_person 21 = .ok (.aload_n 0, 1) := by decide +kernel
theorem dX12_person_22 : decode cX12_person 22 = .ok (.getfield 13, 3) := by decide +kernel
theorem dX12_person_25 : decode cX12_person 25 = .ok (.bipush 38, 2) := by decide +kernel
theorem dX12_person_27 : decode cX12_person 27 = .ok (.iload_n 1, 1) := by decide +kernel
theorem dX12_person_28 : decode cX12_person 28 = .ok (.iadd, 1) := by decide +kernel
theorem dX12_person_29 : decode cX12_person 29 = .ok (.iaload, 1) := by decide +kernel
theorem dX12_person_30 : decode cX12_person 30 = .ok (.goto 39, 3) := by decide +kernel
theorem dX12_person_33 : decode cX12_person 33 = .ok (.iload_n 2, 1) := by decide +kernel
theorem dX12_person_34 : decode cX12_person 34 = .ok (.iconst 1, 1) := by decide +kernel
theorem dX12_person_35 : decode cX12_person 35 = .ok (.if_icmp .ne 15, 3) := by decide +kernel
theorem dX12_person_38 : decode cX12_person 38 = .ok (.aload_n 0, 1) := by decide +kernel
theorem dX12_person_39 : decode cX12_person 39 = .ok (.getfield 13, 3) := by decide +kernel
theorem dX12_person_42 : decode cX12_person 42 = .ok (.bipush 46, 2) := by decide +kernel
theorem dX12_person_44 : decode cX12_person 44 = .ok (.iload_n 1, 1) := by decide +kernel
theorem dX12_person_45 : decode cX12_person 45 = .ok (.iadd, 1) := by decide +kernel
theorem dX12_person_46 : decode cX12_person 46 = .ok (.iaload, 1) := by decide +kernel
theorem dX12_person_47 : decode cX12_person 47 = .ok (.goto 22, 3) := by decide +kernel
theorem dX12_person_50 : decode cX12_person 50 = .ok (.iload_n 2, 1) := by decide +kernel
theorem dX12_person_51 : decode cX12_person 51 = .ok (.iconst 2, 1) := by decide +kernel
theorem dX12_person_52 : decode cX12_person 52 = .ok (.if_icmp .ne 15, 3) := by decide +kernel
theorem dX12_person_55 : decode cX12_person 55 = .ok (.aload_n 0, 1) := by decide +kernel
theorem dX12_person_56 : decode cX12_person 56 = .ok (.getfield 13, 3) := by decide +kernel
theorem dX12_person_59 : decode cX12_person 59 = .ok (.bipush 70, 2) := by decide +kernel
theorem dX12_person_61 : decode cX12_person 61 = .ok (.iload_n 1, 1) := by decide +kernel
theorem dX12_person_62 : decode cX12_person 62 = .ok (.iadd, 1) := by decide +kernel
theorem dX12_person_63 : decode cX12_person 63 = .ok (.iaload, 1) := by decide +kernel
theorem dX12_person_64 : decode cX12_person 64 = .ok (.goto 5, 3) := by decide +kernel
theorem dX12_person_67 : decode cX12_person 67 = .ok (.bipush (-2), 2) := by decide +kernel
theorem dX12_person_69 : decode cX12_person 69 = .ok (.ireturn, 1) := by decide +kernel
theorem dX12_coin_0 : decode cX12_coin 0 = .ok (.aload_n 0, 1) := by decide +kernel
theorem dX12_coin_1 : decode cX12_coin 1 = .ok (.iconst 0, 1) := by decide +kernel
theorem dX12_coin_2 : decode cX12_coin 2 = .ok (.putfield 1, 3) := by decide +kernel
theorem dX12_coin_5 : decode cX12_coin 5 = .ok (.aload_n 0, 1) := by decide +kernel
theorem dX12_coin_6 : decode cX12_coin 6 = .ok (.iload_n 1, 1) := by decide +kernel
theorem dX12_coin_7 : decode cX12_coin 7 = .ok (.i2l, 1) := by decide +kernel
theorem dX12_coin_8 : decode cX12_coin 8 = .ok (.invokevirtual 276, 3) := by decide +kernel
theorem dX12_coin_11 : decode cX12_coin 11 = .ok (.ifCond .ne 6, 3) := by decide +kernel
theorem dX12_coin_14 : decode cX12_coin 14 = .ok (.bipush (-2), 2) := by decide +kernel
theorem dX12_coin_16 : decode cX12_coin 16 = .ok (.ireturn, 1) := by decide +kernel
theorem dX12_coin_17 : decode cX12_coin 17 = .ok (.iload_n 2, 1) := by decide +kernel
theorem dX12_coin_18 : decode cX12_coin 18 = .ok (.tableswitch 70 0 3 #[30, 40, 50, 60], 30) := by decide +kernel
theorem dX12_coin_48 : decode cX12_coin 48 = .ok (.aload_n 0, 1) := by decide +kernel
theorem dX12_coin_49 : decode cX12_coin 49 = .ok (.getfield 13, 3) := by decide +kernel
theorem dX12_coin_52 : decode cX12_coin 52 = .ok (.bipush 62, 2) := by decide +kernel
theorem dX12_coin_54 : decode cX12_coin 54 = .ok (.iload_n 1, 1) := by decide +kernel
theorem dX12_coin_55 : decode cX12_coin 55 = .ok (.iadd, 1) := by decide +kernel
theorem dX12_coin_56 : decode cX12_coin 56 = .ok (.iaload, 1) := by decide +kernel
theorem dX12_coin_57 : decode cX12_coin 57 = .ok (.ireturn, 1) := by decide +kernel
theorem dX12_coin_58 : decode cX12_coin 58 = .ok (.aload_n 0, 1) := by decide +kernel
theorem dX12_coin_59 : decode cX12_coin 59 = .ok (.getfield 13, 3) := by decide +kernel
theorem dX12_coin_62 : decode cX12_coin 62 = .ok (.bipush 54, 2) := by decide +kernel
theorem dX12_coin_64 : decode cX12_coin 64 = .ok (.iload_n 1, 1) := by decide +kernel
theorem dX12_coin_65 : decode cX12_coin 65 = .ok (.iadd, 1) := by decide +kernel
theorem dX12_coin_66 : decode cX12_coin 66 = .ok (.iaload, 1) := by decide +kernel
theorem dX12_coin_67 : decode cX12_coin 67 = .ok (.ireturn, 1) := by decide +kernel
theorem dX12_coin_68 : decode cX12_coin 68 = .ok (.aload_n 0, 1) := by decide +kernel
theorem dX12_coin_69 : decode cX12_coin 69 = .ok (.getfield 13, 3) := by decide +kernel
theorem dX12_coin_72 : decode cX12_coin 72 = .ok (.bipush 58, 2) := by decide +kernel
theorem dX12_coin_74 : decode cX12_coin 74 = .ok (.iload_n 1, 1) := by decide +kernel
theorem dX12_coin_75 : decode cX12_coin 75 = .ok (.iadd, 1) := by decide +kernel
theorem dX12_coin_76 : decode cX12_coin 76 = .ok (.iaload, 1) := by decide +kernel
theorem dX12_coin_77 : decode cX12_coin 77 = .ok (.ireturn, 1) := by decide +kernel
theorem dX12_coin_78 : decode cX12_coin 78 = .ok (.aload_n 0, 1) := by decide +kernel
theorem dX12_coin_79 : decode cX12_coin 79 = .ok (.getfield 13, 3) := by decide +kernel
theorem dX12_coin_82 : decode cX12_coin 82 = .ok (.bipush 66, 2) := by decide +kernel
theorem dX12_coin_84 : decode cX12_coin 84 = .ok (.iload_n 1, 1) := by decide +kernel
theorem dX12_coin_85 : decode cX12_coin 85 = .ok (.iadd, 1) := by decide +kernel
theorem dX12_coin_86 : decode cX12_coin 86 = .ok (.iaload, 1) := by decide +kernel
theorem dX12_coin_87 : decode cX12_coin 87 = .ok (.ireturn, 1) := by decide +kernel
theorem dX12_coin_88 : decode cX12_coin 88 = .ok (.bipush (-2), 2) := by decide +kernel
theorem dX12_coin_90 : decode cX12_coin 90 = .ok (.ireturn, 1) := by decide +kernel
theorem dX12_road_0 : decode cX12_road 0 = .ok (.aload_n 0, 1) := by decide +kernel
theorem dX12_road_1 : decode cX12_road 1 = .ok (.iconst 0, 1) := by decide +kernel
theorem dX12_road_2 : decode cX12_road 2 = .ok (.putfield 1, 3) := by decide +kernel
theorem dX12_road_5 : decode cX12_road 5 = .ok (.aload_n 0, 1) := by decide +kernel
theorem dX12_road_6 : decode cX12_road 6 = .ok (.iload_n 1, 1) := by decide +kernel
theorem dX12_road_7 : decode cX12_road 7 = .ok (.invokevirtual 295, 3) := by decide +kernel
theorem dX12_road_10 : decode cX12_road 10 = .ok (.ifCond .eq 31, 3) := by decide +kernel
theorem dX12_road_13 : decode cX12_road 13 = .ok (.iload_n 2, 1) := by decide +kernel
theorem dX12_road_14 : decode cX12_road 14 = .ok (.i2l, 1) := by decide +kernel
theorem dX12_road_15 : decode cX12_road 15 = .ok (.lconst 0, 1) := by decide +kernel
theorem dX12_road_16 : decode cX12_road 16 = .ok (.ldc2_w 298, 3) := by decide +kernel
theorem dX12_road_19 : decode cX12_road 19 = .ok (.invokestatic 154, 3) := by decide +kernel
theorem dX12_road_22 : decode cX12_road 22 = .ok (.ifCond .eq 19, 3) := by decide +kernel
theorem dX12_road_25 : decode cX12_road 25 = .ok (.aload_n 0, 1) := by decide +kernel
theorem dX12_road_26 : decode cX12_road 26 = .ok (.getfield 13, 3) := by decide +kernel
theorem dX12_road_29 : decode cX12_road 29 = .ok (.bipush 11, 2) := by decide +kernel
theorem dX12_road_31 : decode cX12_road 31 = .ok (.iconst 3, 1) := by decide +kernel
theorem dX12_road_32 : decode cX12_road 32 = .ok (.iload_n 1, 1) := by decide +kernel
theorem dX12_road_33 : decode cX12_road 33 = .ok (.imul, 1) := by decide +kernel
theorem dX12_road_34 : decode cX12_road 34 = .ok (.iadd, 1) := by decide +kernel
theorem dX12_road_35 : decode cX12_road 35 = .ok (.iload_n 2, 1) := by decide +kernel
theorem dX12_road_36 : decode cX12_road 36 = .ok (.iadd, 1) := by decide +kernel
theorem dX12_road_37 : decode cX12_road 37 = .ok (.iaload, 1) := by decide +kernel
theorem dX12_road_38 : decode cX12_road 38 = .ok (.goto 5, 3) := by decide +kernel
theorem dX12_road_41 : decode cX12_road 41 = .ok (.bipush (-2), 2) := by decide +kernel
theorem dX12_road_43 : decode cX12_road 43 = .ok (.ireturn, 1) := by decide +kernel
theorem dX12_far_0 : decode cX12_far 0 = .ok (.aload_n 0, 1) := by decide +kernel
theorem dX12_far_1 : decode cX12_far 1 = .ok (.iconst 0, 1) := by decide +kernel
theorem dX12_far_2 : decode cX12_far 2 = .ok (.putfield 1, 3) := by decide +kernel
theorem dX12_far_5 : decode cX12_far 5 = .ok (.aload_n 0, 1) := by decide +kernel
theorem dX12_far_6 : decode cX12_far 6 = .ok (.iload_n 1, 1) := by decide +kernel
theorem dX12_far_7 : decode cX12_far 7 = .ok (.i2l, 1) := by decide +kernel
theorem dX12_far_8 : decode cX12_far 8 = .ok (.invokevirtual 279, 3) := by decide +kernel
theorem dX12_far_11 : decode cX12_far 11 = .ok (.ifCond .eq 12, 3) := by decide +kernel
theorem dX12_far_14 : decode cX12_far 14 = .ok (.aload_n 0, 1) := by decide +kernel
theorem dX12_far_15 : decode cX12_far 15 = .ok (.iload_n 2, 1) := by decide +kernel
theorem dX12_far_16 : decode cX12_far 16 = .ok (.i2l, 1) := by decide +kernel
theorem dX12_far_17 : decode cX12_far 17 = .ok (.invokevirtual 279, 3) := by decide +kernel
theorem dX12_far_20 : decode cX12_far 20 = .ok (.ifCond .ne 6, 3) := by decide +kernel
theorem dX12_far_23 : decode cX12_far 23 = .ok (.bipush (-2), 2) := by decide +kernel
theorem dX12_far_25 : decode cX12_far 25 = .ok (.ireturn, 1) := by decide +kernel
theorem dX12_far_26 : decode cX12_far 26 = .ok (.aload_n 0, 1) := by decide +kernel
theorem dX12_far_27 : decode cX12_far 27 = .ok (.invokevirtual 251, 3) := by decide +kernel
theorem dX12_far_30 : decode cX12_far 30 = .ok (.aload_n 0, 1) := by decide +kernel
theorem dX12_far_31 : decode cX12_far 31 = .ok (.getfield 30, 3) := by decide +kernel
theorem dX12_far_34 : decode cX12_far 34 = .ok (.bipush 6, 2) := by decide +kernel
theorem dX12_far_36 : decode cX12_far 36 = .ok (.iload_n 1, 1) := by decide +kernel
theorem dX12_far_37 : decode cX12_far 37 = .ok (.imul, 1) := by decide +kernel
theorem dX12_far_38 : decode cX12_far 38 = .ok (.iload_n 2, 1) := by decide +kernel
theorem dX12_far_39 : decode cX12_far 39 = .ok (.iadd, 1) := by decide +kernel
theorem dX12_far_40 : decode cX12_far 40 = .ok (.iaload, 1) := by decide +kernel
theorem dX12_far_41 : decode cX12_far 41 = .ok (.ireturn, 1) := by decide +kernel
theorem dX12_why_0 : decode cX12_why 0 = .ok (.aload_n 0, 1) := by decide +kernel
theorem dX12_why_1 : decode cX12_why 1 = .ok (.iconst 0, 1) := by decide +kernel
theorem dX12_why_2 : decode cX12_why 2 = .ok (.putfield 1, 3) := by decide +kernel
theorem dX12_why_5 : decode cX12_why 5 = .ok (.aload_n 0, 1) := by decide +kernel
theorem dX12_why_6 : decode cX12_why 6 = .ok (.iload_n 1, 1) := by decide +kernel
theorem dX12_why_7 : decode cX12_why 7 = .ok (.iload_n 2, 1) := by decide +kernel
theorem dX12_why_8 : decode cX12_why 8 = .ok (.iload_n 3, 1) := by decide +kernel
theorem dX12_why_9 : decode cX12_why 9 = .ok (.iload 4, 2) := by decide +kernel
theorem dX12_why_11 : decode cX12_why 11 = .ok (.aload_n 0, 1) := by decide +kernel
theorem dX12_why_12 : decode cX12_why 12 = .ok (.getfield 13, 3) := by decide +kernel
theorem dX12_why_15 : decode cX12_why 15 = .ok (.bipush 78, 2) := by decide +kernel
theorem dX12_why_17 : decode cX12_why 17 = .ok (.iaload, 1) := by decide +kernel
theorem dX12_why_18 : decode cX12_why 18 = .ok (.invokevirtual 300, 3) := by decide +kernel
theorem dX12_why_21 : decode cX12_why 21 = .ok (.ireturn, 1) := by decide +kernel
theorem dX12_worn_0 : decode cX12_worn 0 = .ok (.aload_n 0, 1) := by decide +kernel
theorem dX12_worn_1 : decode cX12_worn 1 = .ok (.iconst 0, 1) := by decide +kernel
theorem dX12_worn_2 : decode cX12_worn 2 = .ok (.putfield 1, 3) := by decide +kernel
theorem dX12_worn_5 : decode cX12_worn 5 = .ok (.aload_n 0, 1) := by decide +kernel
theorem dX12_worn_6 : decode cX12_worn 6 = .ok (.iload_n 1, 1) := by decide +kernel
theorem dX12_worn_7 : decode cX12_worn 7 = .ok (.iload_n 2, 1) := by decide +kernel
theorem dX12_worn_8 : decode cX12_worn 8 = .ok (.iload_n 3, 1) := by decide +kernel
theorem dX12_worn_9 : decode cX12_worn 9 = .ok (.iload 4, 2) := by decide +kernel
theorem dX12_worn_11 : decode cX12_worn 11 = .ok (.aload_n 0, 1) := by decide +kernel
theorem dX12_worn_12 : decode cX12_worn 12 = .ok (.getfield 13, 3) := by decide +kernel
theorem dX12_worn_15 : decode cX12_worn 15 = .ok (.bipush 78, 2) := by decide +kernel
theorem dX12_worn_17 : decode cX12_worn 17 = .ok (.iaload, 1) := by decide +kernel
theorem dX12_worn_18 : decode cX12_worn 18 = .ok (.invokevirtual 300, 3) := by decide +kernel
theorem dX12_worn_21 : decode cX12_worn 21 = .ok (.istore 5, 2) := by decide +kernel
theorem dX12_worn_23 : decode cX12_worn 23 = .ok (.iload 5, 2) := by decide +kernel
theorem dX12_worn_25 : decode cX12_worn 25 = .ok (.iconst 1, 1) := by decide +kernel
theorem dX12_worn_26 : decode cX12_worn 26 = .ok (.if_icmp .ne 8, 3) := by decide +kernel
theorem dX12_worn_29 : decode cX12_worn 29 = .ok (.bipush (-2), 2) := by decide +kernel
theorem dX12_worn_31 : decode cX12_worn 31 = .ok (.goto 29, 3) := by decide +kernel
theorem dX12_worn_34 : decode cX12_worn 34 = .ok (.iload 5, 2) := by decide +kernel
theorem dX12_worn_36 : decode cX12_worn 36 = .ok (.ifCond .eq 8, 3) := by decide +kernel
theorem dX12_worn_39 : decode cX12_worn 39 = .ok (.bipush (-5), 2) := by decide +kernel
theorem dX12_worn_41 : decode cX12_worn 41 = .ok (.goto 19, 3) := by decide +kernel
theorem dX12_worn_44 : decode cX12_worn 44 = .ok (.aload_n 0, 1) := by decide +kernel
theorem dX12_worn_45 : decode cX12_worn 45 = .ok (.iload_n 1, 1) := by decide +kernel
theorem dX12_worn_46 : decode cX12_worn 46 = .ok (.iload_n 2, 1) := by decide +kernel
theorem dX12_worn_47 : decode cX12_worn 47 = .ok (.iload_n 3, 1) := by decide +kernel
theorem dX12_worn_48 : decode cX12_worn 48 = .ok (.iload 4, 2) := by decide +kernel
theorem dX12_worn_50 : decode cX12_worn 50 = .ok (.aload_n 0, 1) := by decide +kernel
theorem dX12_worn_51 : decode cX12_worn 51 = .ok (.getfield 13, 3) := by decide +kernel
theorem dX12_worn_54 : decode cX12_worn 54 = .ok (.bipush 78, 2) := by decide +kernel
theorem dX12_worn_56 : decode cX12_worn 56 = .ok (.iaload, 1) := by decide +kernel
theorem dX12_worn_57 : decode cX12_worn 57 = .ok (.invokevirtual 303, 3) := by decide +kernel
theorem dX12_worn_60 : decode cX12_worn 60 = .ok (.ireturn, 1) := by decide +kernel
theorem dX12_bearersOf_0 : decode cX12_bearersOf 0 = .ok (.iconst 0, 1) := by decide +kernel
theorem dX12_bearersOf_1 : decode cX12_bearersOf 1 = .ok (.istore 4, 2) := by decide +kernel
theorem dX12_bearersOf_3 : decode cX12_bearersOf 3 = .ok (.iconst 0, 1) := by decide +kernel
theorem dX12_bearersOf_4 : decode cX12_bearersOf 4 = .ok (.istore 5, 2) := by decide +kernel
theorem dX12_bearersOf_6 : decode cX12_bearersOf 6 = .ok (.iload 5, 2) := by decide +kernel
theorem dX12_bearersOf_8 : decode cX12_bearersOf 8 = .ok (.aload_n 0, 1) := by decide +kernel
theorem dX12_bearersOf_9 : decode cX12_bearersOf 9 = .ok (.getfield 13, 3) := by decide +kernel
theorem dX12_bearersOf_12 : decode cX12_bearersOf 12 = .ok (.iconst 3, 1) := by decide +kernel
theorem dX12_bearersOf_13 : decode cX12_bearersOf 13 = .ok (.iaload, 1) := by decide +kernel
theorem dX12_bearersOf_14 : decode cX12_bearersOf 14 = .ok (.if_icmp .ge 57, 3) := by decide +kernel
theorem dX12_bearersOf_17 : decode cX12_bearersOf 17 = .ok (.iload 5, 2) := by decide +kernel
theorem dX12_bearersOf_19 : decode cX12_bearersOf 19 = .ok (.iconst 1, 1) := by decide +kernel
theorem dX12_bearersOf_20 : decode cX12_bearersOf 20 = .ok (.iadd, 1) := by decide +kernel
theorem dX12_bearersOf_21 : decode cX12_bearersOf 21 = .ok (.istore 6, 2) := by decide +kernel
theorem dX12_bearersOf_23 : decode cX12_bearersOf 23 = .ok (.iload 6, 2) := by decide +kernel
theorem dX12_bearersOf_25 : decode cX12_bearersOf 25 = .ok (.aload_n 0, 1) := by decide +kernel
theorem dX12_bearersOf_26 : decode cX12_bearersOf 26 = .ok (.getfield 13, 3) := by decide +kernel
theorem dX12_bearersOf_29 : decode cX12_bearersOf 29 = .ok (.iconst 3, 1) := by decide +kernel
theorem dX12_bearersOf_30 : decode cX12_bearersOf 30 = .ok (.iaload, 1) := by decide +kernel
theorem dX12_bearersOf_31 : decode cX12_bearersOf 31 = .ok (.if_icmp .ge 34, 3) := by decide +kernel
theorem dX12_bearersOf_34 : decode cX12_bearersOf 34 = .ok (.iload 4, 2) := by decide +kernel
theorem dX12_bearersOf_36 : decode cX12_bearersOf 36 = .ok (.aload_n 0, 1) := by decide +kernel
theorem dX12_bearersOf_37 : decode cX12_bearersOf 37 = .ok (.iload 5, 2) := by decide +kernel
theorem dX12_bearersOf_39 : decode cX12_bearersOf 39 = .ok (.iload 6, 2) := by decide +kernel
theorem dX12_bearersOf_41 : decode cX12_bearersOf 41 = .ok (.iload_n 1, 1) := by decide +kernel
theorem dX12_bearersOf_42 : decode cX12_bearersOf 42 = .ok (.iload_n 2, 1) := by decide +kernel
theorem dX12_bearersOf_43 : decode cX12_bearersOf 43 = .ok (.iload_n 3, 1) := by decide +kernel
theorem dX12_bearersOf_44 : decode cX12_bearersOf 44 = .ok (.invokevirtual 288, 3) := by decide +kernel
theorem dX12_bearersOf_47 : decode cX12_bearersOf 47 = .ok (.iconst (-1), 1) := by decide +kernel
theorem dX12_bearersOf_48 : decode cX12_bearersOf 48 = .ok (.if_icmp .eq 7, 3) := by decide +kernel
theorem dX12_bearersOf_51 : decode cX12_bearersOf 51 = .ok (.iconst 1, 1) := by decide +kernel
theorem dX12_bearersOf_52 : decode cX12_bearersOf 52 = .ok (.goto 4, 3) := by decide +kernel
theorem dX12_bearersOf_55 : decode cX12_bearersOf 55 = .ok (.iconst 0, 1) := by decide +kernel
theorem dX12_bearersOf_56 : decode cX12_bearersOf 56 = .ok (.iadd, 1) := by decide +kernel
theorem dX12_bearersOf_57 : decode cX12_bearersOf 57 = .ok (.istore 4, 2) := by decide +kernel
theorem dX12_bearersOf_59 : decode cX12_bearersOf 59 = .ok (.iinc 6 1, 3) := by decide +kernel
theorem dX12_bearersOf_62 : decode cX12_bearersOf 62 = .ok (.goto (-39), 3) := by decide +kernel
theorem dX12_bearersOf_65 : decode cX12_bearersOf 65 = .ok (.iinc 5 1, 3) := by decide +kernel
theorem dX12_bearersOf_68 : decode cX12_bearersOf 68 = .ok (.goto (-62), 3) := by decide +kernel
theorem dX12_bearersOf_71 : decode cX12_bearersOf 71 = .ok (.iload 4, 2) := by decide +kernel
theorem dX12_bearersOf_73 : decode cX12_bearersOf 73 = .ok (.ireturn, 1) := by decide +kernel
theorem dX12_bearers_0 : decode cX12_bearers 0 = .ok (.aload_n 0, 1) := by decide +kernel
theorem dX12_bearers_1 : decode cX12_bearers 1 = .ok (.iconst 0, 1) := by decide +kernel
theorem dX12_bearers_2 : decode cX12_bearers 2 = .ok (.putfield 1, 3) := by decide +kernel
theorem dX12_bearers_5 : decode cX12_bearers 5 = .ok (.aload_n 0, 1) := by decide +kernel
theorem dX12_bearers_6 : decode cX12_bearers 6 = .ok (.iload_n 1, 1) := by decide +kernel
theorem dX12_bearers_7 : decode cX12_bearers 7 = .ok (.i2l, 1) := by decide +kernel
theorem dX12_bearers_8 : decode cX12_bearers 8 = .ok (.invokevirtual 276, 3) := by decide +kernel
theorem dX12_bearers_11 : decode cX12_bearers 11 = .ok (.ifCond .eq 12, 3) := by decide +kernel
theorem dX12_bearers_14 : decode cX12_bearers 14 = .ok (.aload_n 0, 1) := by decide +kernel
theorem dX12_bearers_15 : decode cX12_bearers 15 = .ok (.iload_n 2, 1) := by decide +kernel
theorem dX12_bearers_16 : decode cX12_bearers 16 = .ok (.i2l, 1) := by decide +kernel
theorem dX12_bearers_17 : decode cX12_bearers 17 = .ok (.invokevirtual 279, 3) := by decide +kernel
theorem dX12_bearers_20 : decode cX12_bearers 20 = .ok (.ifCond .ne 6, 3) := by decide +kernel
theorem dX12_bearers_23 : decode cX12_bearers 23 = .ok (.bipush (-2), 2) := by decide +kernel
theorem dX12_bearers_25 : decode cX12_bearers 25 = .ok (.ireturn, 1) := by decide +kernel
theorem dX12_bearers_26 : decode cX12_bearers 26 = .ok (.aload_n 0, 1) := by decide +kernel
theorem dX12_bearers_27 : decode cX12_bearers 27 = .ok (.aload_n 0, 1) := by decide +kernel
theorem dX12_bearers_28 : decode cX12_bearers 28 = .ok (.getfield 13, 3) := by decide +kernel
theorem dX12_bearers_31 : decode cX12_bearers 31 = .ok (.bipush 78, 2) := by decide +kernel
theorem dX12_bearers_33 : decode cX12_bearers 33 = .ok (.iaload, 1) := by decide +kernel
theorem dX12_bearers_34 : decode cX12_bearers 34 = .ok (.invokevirtual 285, 3) := by decide +kernel
theorem dX12_bearers_37 : decode cX12_bearers 37 = .ok (.aload_n 0, 1) := by decide +kernel
theorem dX12_bearers_38 : decode cX12_bearers 38 = .ok (.iload_n 1, 1) := by decide +kernel
theorem dX12_bearers_39 : decode cX12_bearers 39 = .ok (.aload_n 0, 1) := by decide +kernel
theorem dX12_bearers_40 : decode cX12_bearers 40 = .ok (.getfield 13, 3) := by decide +kernel
theorem dX12_bearers_43 : decode cX12_bearers 43 = .ok (.bipush 62, 2) := by decide +kernel
theorem dX12_bearers_45 : decode cX12_bearers 45 = .ok (.iload_n 1, 1) := by decide +kernel
theorem dX12_bearers_46 : decode cX12_bearers 46 = .ok (.iadd, 1) := by decide +kernel
theorem dX12_bearers_47 : decode cX12_bearers 47 = .ok (.iaload, 1) := by decide +kernel
theorem dX12_bearers_48 : decode cX12_bearers 48 = .ok (.iload_n 2, 1) := by decide +kernel
theorem dX12_bearers_49 : decode cX12_bearers 49 = .ok (.invokevirtual 306, 3) := by decide +kernel
theorem dX12_bearers_52 : decode cX12_bearers 52 = .ok (.ireturn, 1) := by decide +kernel
theorem dX12_stores_0 : decode cX12_stores 0 = .ok (.iconst 0, 1) := by decide +kernel
theorem dX12_stores_1 : decode cX12_stores 1 = .ok (.istore_n 1, 1) := by decide +kernel
theorem dX12_stores_2 : decode cX12_stores 2 = .ok (.iload_n 1, 1) := by decide +kernel
theorem dX12_stores_3 : decode cX12_stores 3 = .ok (.bipush 18, 2) := by decide +kernel
theorem dX12_stores_5 : decode cX12_stores 5 = .ok (.if_icmp .ge 24, 3) := by decide +kernel
theorem dX12_stores_8 : decode cX12_stores 8 = .ok (.aload_n 0, 1) := by decide +kernel
theorem dX12_stores_9 : decode cX12_stores 9 = .ok (.getfield 39, 3) := by decide +kernel
theorem dX12_stores_12 : decode cX12_stores 12 = .ok (.iload_n 1, 1) := by decide +kernel
theorem dX12_stores_13 : decode cX12_stores 13 = .ok (.aload_n 0, 1) := by decide +kernel
theorem dX12_stores_14 : decode cX12_stores 14 = .ok (.getfield 13, 3) := by decide +kernel
theorem dX12_stores_17 : decode cX12_stores 17 = .ok (.bipush 62, 2) := by decide +kernel
theorem dX12_stores_19 : decode cX12_stores 19 = .ok (.iload_n 1, 1) := by decide +kernel
theorem dX12_stores_20 : decode cX12_stores 20 = .ok (.iadd, 1) := by decide +kernel
theorem dX12_stores_21 : decode cX12_stores 21 = .ok (.iaload, 1) := by decide +kernel
theorem dX12_stores_22 : decode cX12_stores 22 = .ok (.iastore, 1) := by decide +kernel
theorem dX12_stores_23 : decode cX12_stores 23 = .ok (.iinc 1 1, 3) := by decide +kernel
theorem dX12_stores_26 : decode cX12_stores 26 = .ok (.goto (-24), 3) := by decide +kernel
theorem dX12_stores_29 : decode cX12_stores 29 = .ok (.return_, 1) := by decide +kernel
theorem dX12_isAgain_0 : decode cX12_isAgain 0 = .ok (.iconst 0, 1) := by decide +kernel
theorem dX12_isAgain_1 : decode cX12_isAgain 1 = .ok (.istore_n 1, 1) := by decide +kernel
theorem dX12_isAgain_2 : decode cX12_isAgain 2 = .ok (.iload_n 1, 1) := by decide +kernel
theorem dX12_isAgain_3 : decode cX12_isAgain 3 = .ok (.bipush 18, 2) := by decide +kernel
theorem dX12_isAgain_5 : decode cX12_isAgain 5 = .ok (.if_icmp .ge 24, 3) := by decide +kernel
theorem dX12_isAgain_8 : decode cX12_isAgain 8 = .ok (.aload_n 0, 1) := by decide +kernel
theorem dX12_isAgain_9 : decode cX12_isAgain 9 = .ok (.getfield 13, 3) := by decide +kernel
theorem dX12_isAgain_12 : decode cX12_isAgain 12 = .ok (.bipush 62, 2) := by decide +kernel
theorem dX12_isAgain_14 : decode cX12_isAgain 14 = .ok (.iload_n 1, 1) := by decide +kernel
theorem dX12_isAgain_15 : decode cX12_isAgain 15 = .ok (.iadd, 1) := by decide +kernel
theorem dX12_isAgain_16 : decode cX12_isAgain 16 = .ok (.aload_n 0, 1) := by decide +kernel
theorem dX12_isAgain_17 : decode cX12_isAgain 17 = .ok (.getfield 39, 3) := by decide +kernel
theorem dX12_isAgain_20 : decode cX12_isAgain 20 = .ok (.iload_n 1, 1) := by decide +kernel
theorem dX12_isAgain_21 : decode cX12_isAgain 21 = .ok (.iaload, 1) := by decide +kernel
theorem dX12_isAgain_22 : decode cX12_isAgain 22 = .ok (.iastore, 1) := by decide +kernel
theorem dX12_isAgain_23 : decode cX12_isAgain 23 = .ok (.iinc 1 1, 3) := by decide +kernel
theorem dX12_isAgain_26 : decode cX12_isAgain 26 = .ok (.goto (-24), 3) := by decide +kernel
theorem dX12_isAgain_29 : decode cX12_isAgain 29 = .ok (.return_, 1) := by decide +kernel
theorem dX12_notes_0 : decode cX12_notes 0 = .ok (.aload_n 0, 1) := by decide +kernel
theorem dX12_notes_1 : decode cX12_notes 1 = .ok (.getfield 13, 3) := by decide +kernel
theorem dX12_notes_4 : decode cX12_notes 4 = .ok (.bipush 80, 2) := by decide +kernel
theorem dX12_notes_6 : decode cX12_notes 6 = .ok (.iaload, 1) := by decide +kernel
theorem dX12_notes_7 : decode cX12_notes 7 = .ok (.bipush 10, 2) := by decide +kernel
theorem dX12_notes_9 : decode cX12_notes 9 = .ok (.if_icmp .ne 47, 3) := by decide +kernel
theorem dX12_notes_12 : decode cX12_notes 12 = .ok (.iconst 0, 1) := by decide +kernel
theorem dX12_notes_13 : decode cX12_notes 13 = .ok (.istore_n 1, 1) := by decide +kernel
theorem dX12_notes_14 : decode cX12_notes 14 = .ok (.iload_n 1, 1) := by decide +kernel
theorem dX12_notes_15 : decode cX12_notes 15 = .ok (.sipush 162, 3) := by decide +kernel
theorem dX12_notes_18 : decode cX12_notes 18 = .ok (.if_icmp .ge 27, 3) := by decide +kernel
theorem dX12_notes_21 : decode cX12_notes 21 = .ok (.aload_n 0, 1) := by decide +kernel
theorem dX12_notes_22 : decode cX12_notes 22 = .ok (.getfield 13, 3) := by decide +kernel
theorem dX12_notes_25 : decode cX12_notes 25 = .ok (.bipush 81, 2) := by decide +kernel
theorem dX12_notes_27 : decode cX12_notes 27 = .ok (.iload_n 1, 1) := by decide +kernel
theorem dX12_notes_28 : decode cX12_notes 28 = .ok (.iadd, 1) := by decide +kernel
theorem dX12_notes_29 : decode cX12_notes 29 = .ok (.aload_n 0, 1) := by decide +kernel
theorem dX12_notes_30 : decode cX12_notes 30 = .ok (.getfield 13, 3) := by decide +kernel
theorem dX12_notes_33 : decode cX12_notes 33 = .ok (.bipush 99, 2) := by decide +kernel
theorem dX12_notes_35 : decode cX12_notes 35 = .ok (.iload_n 1, 1) := by decide +kernel
theorem dX12_notes_36 : decode cX12_notes 36 = .ok (.iadd, 1) := by decide +kernel
theorem dX12_notes_37 : decode cX12_notes 37 = .ok (.iaload, 1) := by decide +kernel
theorem dX12_notes_38 : decode cX12_notes 38 = .ok (.iastore, 1) := by decide +kernel
theorem dX12_notes_39 : decode cX12_notes 39 = .ok (.iinc 1 1, 3) := by decide +kernel
theorem dX12_notes_42 : decode cX12_notes 42 = .ok (.goto (-28), 3) := by decide +kernel
theorem dX12_notes_45 : decode cX12_notes 45 = .ok (.aload_n 0, 1) := by decide +kernel
theorem dX12_notes_46 : decode cX12_notes 46 = .ok (.getfield 13, 3) := by decide +kernel
theorem dX12_notes_49 : decode cX12_notes 49 = .ok (.bipush 80, 2) := by decide +kernel
theorem dX12_notes_51 : decode cX12_notes 51 = .ok (.dup2, 1) := by decide +kernel
theorem dX12_notes_52 : decode cX12_notes 52 = .ok (.iaload, 1) := by decide +kernel
theorem dX12_notes_53 : decode cX12_notes 53 = .ok (.iconst 1, 1) := by decide +kernel
theorem dX12_notes_54 : decode cX12_notes 54 = .ok (.isub, 1) := by decide +kernel
theorem dX12_notes_55 : decode cX12_notes 55 = .ok (.iastore, 1) := by decide +kernel
theorem dX12_notes_56 : decode cX12_notes 56 = .ok (.iconst 0, 1) := by decide +kernel
theorem dX12_notes_57 : decode cX12_notes 57 = .ok (.istore_n 1, 1) := by decide +kernel
theorem dX12_notes_58 : decode cX12_notes 58 = .ok (.iload_n 1, 1) := by decide +kernel
theorem dX12_notes_59 : decode cX12_notes 59 = .ok (.bipush 18, 2) := by decide +kernel
theorem dX12_notes_61 : decode cX12_notes 61 = .ok (.if_icmp .ge 35, 3) := by decide +kernel
theorem dX12_notes_64 : decode cX12_notes 64 = .ok (.aload_n 0, 1) := by decide +kernel
theorem dX12_notes_65 : decode cX12_notes 65 = .ok (.getfield 13, 3) := by decide +kernel
theorem dX12_notes_68 : decode cX12_notes 68 = .ok (.bipush 81, 2) := by decide +kernel
theorem dX12_notes_70 : decode cX12_notes 70 = .ok (.bipush 18, 2) := by decide +kernel
theorem dX12_notes_72 : decode cX12_notes 72 = .ok (.aload_n 0, 1) := by decide +kernel
theorem dX12_notes_73 : decode cX12_notes 73 = .ok (.getfield 13, 3) := by decide +kernel
theorem dX12_notes_76 : decode cX12_notes 76 = .ok (.bipush 80, 2) := by decide +kernel
theorem dX12_notes_78 : decode cX12_notes 78 = .ok (.iaload, 1) := by decide +kernel
theorem dX12_notes_79 : decode cX12_notes 79 = .ok (.imul, 1) := by decide +kernel
theorem dX12_notes_80 : decode cX12_notes 80 = .ok (.iadd, 1) := by decide +kernel
theorem dX12_notes_81 : decode cX12_notes 81 = .ok (.iload_n 1, 1) := by decide +kernel
theorem dX12_notes_82 : decode cX12_notes 82 = .ok (.iadd, 1) := by decide +kernel
theorem dX12_notes_83 : decode cX12_notes 83 = .ok (.aload_n 0, 1) := by decide +kernel
theorem dX12_notes_84 : decode cX12_notes 84 = .ok (.getfield 39, 3) := by decide +kernel
theorem dX12_notes_87 : decode cX12_notes 87 = .ok (.iload_n 1, 1) := by decide +kernel
theorem dX12_notes_88 : decode cX12_notes 88 = .ok (.iaload, 1) := by decide +kernel
theorem dX12_notes_89 : decode cX12_notes 89 = .ok (.iastore, 1) := by decide +kernel
theorem dX12_notes_90 : decode cX12_notes 90 = .ok (.iinc 1 1, 3) := by decide +kernel
theorem dX12_notes_93 : decode cX12_notes 93 = .ok (.goto (-35), 3) := by decide +kernel
theorem dX12_notes_96 : decode cX12_notes 96 = .ok (.aload_n 0, 1) := by decide +kernel
theorem dX12_notes_97 : decode cX12_notes 97 = .ok (.getfield 13, 3) := by decide +kernel
theorem dX12_notes_100 : decode cX12_notes 100 = .ok (.bipush 80, 2) := by decide +kernel
theorem dX12_notes_102 : decode cX12_notes 102 = .ok (.dup2, 1) := by decide +kernel
theorem dX12_notes_103 : decode cX12_notes 103 = .ok (.iaload, 1) := by decide +kernel
theorem dX12_notes_104 : decode cX12_notes 104 = .ok (.iconst 1, 1) := by decide +kernel
theorem dX12_notes_105 : decode cX12_notes 105 = .ok (.iadd, 1) := by decide +kernel
theorem dX12_notes_106 : decode cX12_notes 106 = .ok (.iastore, 1) := by decide +kernel
theorem dX12_notes_107 : decode cX12_notes 107 = .ok (.return_, 1) := by decide +kernel
theorem dX12_goesCarry_0 : decode cX12_goesCarry 0 = .ok (.aload_n 0, 1) := by decide +kernel
theorem dX12_goesCarry_1 : decode cX12_goesCarry 1 = .ok (.iload_n 1, 1) := by decide +kernel
theorem dX12_goesCarry_2 : decode cX12_goesCarry 2 = .ok (.iload_n 2, 1) := by decide +kernel
theorem dX12_goesCarry_3 : decode cX12_goesCarry 3 = .ok (.iload_n 3, 1) := by decide +kernel
theorem dX12_goesCarry_4 : decode cX12_goesCarry 4 = .ok (.iload 4, 2) := by decide +kernel
theorem dX12_goesCarry_6 : decode cX12_goesCarry 6 = .ok (.aload_n 0, 1) := by decide +kernel
theorem dX12_goesCarry_7 : decode cX12_goesCarry 7 = .ok (.getfield 13, 3) := by decide +kernel
theorem dX12_goesCarry_10 : decode cX12_goesCarry 10 = .ok (.bipush 78, 2) := by decide +kernel
theorem dX12_goesCarry_12 : decode cX12_goesCarry 12 = .ok (.iaload, 1) := by decide +kernel
theorem dX12_goesCarry_13 : decode cX12_goesCarry 13 = .ok (.invokevirtual 303, 3) := by decide +kernel
theorem dX12_goesCarry_16 : decode cX12_goesCarry 16 = .ok (.istore 5, 2) := by decide +kernel
theorem dX12_goesCarry_18 : decode cX12_goesCarry 18 = .ok (.aload_n 0, 1) := by decide +kernel
theorem dX12_goesCarry_19 : decode cX12_goesCarry 19 = .ok (.getfield 13, 3) := by decide +kernel
theorem dX12_goesCarry_22 : decode cX12_goesCarry 22 = .ok (.bipush 66, 2) := by decide +kernel
theorem dX12_goesCarry_24 : decode cX12_goesCarry 24 = .ok (.iload_n 3, 1) := by decide +kernel
theorem dX12_goesCarry_25 : decode cX12_goesCarry 25 = .ok (.iadd, 1) := by decide +kernel
theorem dX12_goesCarry_26 : decode cX12_goesCarry 26 = .ok (.dup2, 1) := by decide +kernel
theorem dX12_goesCarry_27 : decode cX12_goesCarry 27 = .ok (.iaload, 1) := by decide +kernel
theorem dX12_goesCarry_28 : decode cX12_goesCarry 28 = .ok (.iload 5, 2) := by decide +kernel
theorem dX12_goesCarry_30 : decode cX12_goesCarry 30 = .ok (.iadd, 1) := by decide +kernel
theorem dX12_goesCarry_31 : decode cX12_goesCarry 31 = .ok (.iastore, 1) := by decide +kernel
theorem dX12_goesCarry_32 : decode cX12_goesCarry 32 = .ok (.aload_n 0, 1) := by decide +kernel
theorem dX12_goesCarry_33 : decode cX12_goesCarry 33 = .ok (.getfield 13, 3) := by decide +kernel
theorem dX12_goesCarry_36 : decode cX12_goesCarry 36 = .ok (.bipush 62, 2) := by decide +kernel
theorem dX12_goesCarry_38 : decode cX12_goesCarry 38 = .ok (.iload_n 3, 1) := by decide +kernel
theorem dX12_goesCarry_39 : decode cX12_goesCarry 39 = .ok (.iadd, 1) := by decide +kernel
theorem dX12_goesCarry_40 : decode cX12_goesCarry 40 = .ok (.iload 4, 2) := by decide +kernel
theorem dX12_goesCarry_42 : decode cX12_goesCarry 42 = .ok (.iastore, 1) := by decide +kernel
theorem dX12_goesCarry_43 : decode cX12_goesCarry 43 = .ok (.aload_n 0, 1) := by decide +kernel
theorem dX12_goesCarry_44 : decode cX12_goesCarry 44 = .ok (.getfield 13, 3) := by decide +kernel
theorem dX12_goesCarry_47 : decode cX12_goesCarry 47 = .ok (.bipush 79, 2) := by decide +kernel
theorem dX12_goesCarry_49 : decode cX12_goesCarry 49 = .ok (.dup2, 1) := by decide +kernel
theorem dX12_goesCarry_50 : decode cX12_goesCarry 50 = .ok (.iaload, 1) := by decide +kernel
theorem dX12_goesCarry_51 : decode cX12_goesCarry 51 = .ok (.iconst 1, 1) := by decide +kernel
theorem dX12_goesCarry_52 : decode cX12_goesCarry 52 = .ok (.iadd, 1) := by decide +kernel
theorem dX12_goesCarry_53 : decode cX12_goesCarry 53 = .ok (.iastore, 1) := by decide +kernel
theorem dX12_goesCarry_54 : decode cX12_goesCarry 54 = .ok (.iload 5, 2) := by decide +kernel
theorem dX12_goesCarry_56 : decode cX12_goesCarry 56 = .ok (.ireturn, 1) := by decide +kernel
theorem dX12_goesQuarrel_0 : decode cX12_goesQuarrel 0 = .ok (.aload_n 0, 1) := by decide +kernel
theorem dX12_goesQuarrel_1 : decode cX12_goesQuarrel 1 = .ok (.getfield 13, 3) := by decide +kernel
theorem dX12_goesQuarrel_4 : decode cX12_goesQuarrel 4 = .ok (.bipush 70, 2) := by decide +kernel
theorem dX12_goesQuarrel_6 : decode cX12_goesQuarrel 6 = .ok (.iload_n 1, 1) := by decide +kernel
theorem dX12_goesQuarrel_7 : decode cX12_goesQuarrel 7 = .ok (.iadd, 1) := by decide +kernel
theorem dX12_goesQuarrel_8 : decode cX12_goesQuarrel 8 = .ok (.dup2, 1) := by decide +kernel
theorem dX12_goesQuarrel_9 : decode cX12_goesQuarrel 9 = .ok (.iaload, 1) := by decide +kernel
theorem dX12_goesQuarrel_10 : decode cX12_goesQuarrel 10 = .ok (.iconst 1, 1) := by decide +kernel
theorem dX12_goesQuarrel_11 : decode cX12_goesQuarrel 11 = .ok (.iload_n 2, 1) := by decide +kernel
theorem dX12_goesQuarrel_12 : decode cX12_goesQuarrel 12 = .ok (.ishl, 1) := by decide +kernel
theorem dX12_goesQuarrel_13 : decode cX12_goesQuarrel 13 = .ok (.ixor, 1) := by decide +kernel
theorem dX12_goesQuarrel_14 : decode cX12_goesQuarrel 14 = .ok (.iastore, 1) := by decide +kernel
theorem dX12_goesQuarrel_15 : decode cX12_goesQuarrel 15 = .ok (.aload_n 0, 1) := by decide +kernel
theorem dX12_goesQuarrel_16 : decode cX12_goesQuarrel 16 = .ok (.getfield 13, 3) := by decide +kernel
theorem dX12_goesQuarrel_19 : decode cX12_goesQuarrel 19 = .ok (.bipush 70, 2) := by decide +kernel
theorem dX12_goesQuarrel_21 : decode cX12_goesQuarrel 21 = .ok (.iload_n 2, 1) := by decide +kernel
theorem dX12_goesQuarrel_22 : decode cX12_goesQuarrel 22 = .ok (.iadd, 1) := by decide +kernel
theorem dX12_goesQuarrel_23 : decode cX12_goesQuarrel 23 = .ok (.dup2, 1) := by decide +kernel
theorem dX12_goesQuarrel_24 : decode cX12_goesQuarrel 24 = .ok (.iaload, 1) := by decide +kernel
theorem dX12_goesQuarrel_25 : decode cX12_goesQuarrel 25 = .ok (.iconst 1, 1) := by decide +kernel
theorem dX12_goesQuarrel_26 : decode cX12_goesQuarrel 26 = .ok (.iload_n 1, 1) := by decide +kernel
theorem dX12_goesQuarrel_27 : decode cX12_goesQuarrel 27 = .ok (.ishl, 1) := by decide +kernel
theorem dX12_goesQuarrel_28 : decode cX12_goesQuarrel 28 = .ok (.ixor, 1) := by decide +kernel
theorem dX12_goesQuarrel_29 : decode cX12_goesQuarrel 29 = .ok (.iastore, 1) := by decide +kernel
theorem dX12_goesQuarrel_30 : decode cX12_goesQuarrel 30 = .ok (.return_, 1) := by decide +kernel
theorem dX12_carry_0 : decode cX12_carry 0 = .ok (.aload_n 0, 1) := by decide +kernel
theorem dX12_carry_1 : decode cX12_carry 1 = .ok (.iconst 0, 1) := by decide +kernel
theorem dX12_carry_2 : decode cX12_carry 2 = .ok (.putfield 1, 3) := by decide +kernel
theorem dX12_carry_5 : decode cX12_carry 5 = .ok (.aload_n 0, 1) := by decide +kernel
theorem dX12_carry_6 : decode cX12_carry 6 = .ok (.iload_n 1, 1) := by decide +kernel
theorem dX12_carry_7 : decode cX12_carry 7 = .ok (.iload_n 2, 1) := by decide +kernel
theorem dX12_carry_8 : decode cX12_carry 8 = .ok (.iload_n 3, 1) := by decide +kernel
theorem dX12_carry_9 : decode cX12_carry 9 = .ok (.iload 4, 2) := by decide +kernel
theorem dX12_carry_11 : decode cX12_carry 11 = .ok (.aload_n 0, 1) := by decide +kernel
theorem dX12_carry_12 : decode cX12_carry 12 = .ok (.getfield 13, 3) := by decide +kernel
theorem dX12_carry_15 : decode cX12_carry 15 = .ok (.bipush 78, 2) := by decide +kernel
theorem dX12_carry_17 : decode cX12_carry 17 = .ok (.iaload, 1) := by decide +kernel
theorem dX12_carry_18 : decode cX12_carry 18 = .ok (.invokevirtual 300, 3) := by decide +kernel
theorem dX12_carry_21 : decode cX12_carry 21 = .ok (.istore 5, 2) := by decide +kernel
theorem dX12_carry_23 : decode cX12_carry 23 = .ok (.iload 5, 2) := by decide +kernel
theorem dX12_carry_25 : decode cX12_carry 25 = .ok (.ifCond .eq 9, 3) := by decide +kernel
theorem dX12_carry_28 : decode cX12_carry 28 = .ok (.bipush (-10), 2) := by decide +kernel
theorem dX12_carry_30 : decode cX12_carry 30 = .ok (.iload 5, 2) := by decide +kernel
theorem dX12_carry_32 : decode cX12_carry 32 = .ok (.isub, 1) := by decide +kernel
theorem dX12_carry_33 : decode cX12_carry 33 = .ok (.ireturn, 1) := by decide +kernel
theorem dX12_carry_34 : decode cX12_carry 34 = .ok (.aload_n 0, 1) := by decide +kernel
theorem dX12_carry_35 : decode cX12_carry 35 = .ok (.invokevirtual 309, 3) := by decide +kernel
theorem dX12_carry_38 : decode cX12_carry 38 = .ok (.aload_n 0, 1) := by decide +kernel
theorem dX12_carry_39 : decode cX12_carry 39 = .ok (.iload_n 1, 1) := by decide +kernel
theorem dX12_carry_40 : decode cX12_carry 40 = .ok (.iload_n 2, 1) := by decide +kernel
theorem dX12_carry_41 : decode cX12_carry 41 = .ok (.iload_n 3, 1) := by decide +kernel
theorem dX12_carry_42 : decode cX12_carry 42 = .ok (.iload 4, 2) := by decide +kernel
theorem dX12_carry_44 : decode cX12_carry 44 = .ok (.invokevirtual 312, 3) := by decide +kernel
theorem dX12_carry_47 : decode cX12_carry 47 = .ok (.istore 6, 2) := by decide +kernel
theorem dX12_carry_49 : decode cX12_carry 49 = .ok (.aload_n 0, 1) := by decide +kernel
theorem dX12_carry_50 : decode cX12_carry 50 = .ok (.invokevirtual 316, 3) := by decide +kernel
theorem dX12_carry_53 : decode cX12_carry 53 = .ok (.iload 6, 2) := by decide +kernel
theorem dX12_carry_55 : decode cX12_carry 55 = .ok (.ireturn, 1) := by decide +kernel
theorem dX12_areTwo_0 : decode cX12_areTwo 0 = .ok (.aload_n 0, 1) := by decide +kernel
theorem dX12_areTwo_1 : decode cX12_areTwo 1 = .ok (.lload_n 1, 1) := by decide +kernel
theorem dX12_areTwo_2 : decode cX12_areTwo 2 = .ok (.invokevirtual 272, 3) := by decide +kernel
theorem dX12_areTwo_5 : decode cX12_areTwo 5 = .ok (.ifCond .eq 21, 3) := by decide +kernel
theorem dX12_areTwo_8 : decode cX12_areTwo 8 = .ok (.aload_n 0, 1) := by decide +kernel
theorem dX12_areTwo_9 : decode cX12_areTwo 9 = .ok (.lload_n 3, 1) := by decide +kernel
theorem dX12_areTwo_10 : decode cX12_areTwo 10 = .ok (.invokevirtual 272, 3) := by decide +kernel
theorem dX12_areTwo_13 : decode cX12_areTwo 13 = .ok (.ifCond .eq 13, 3) := by decide +kernel
theorem dX12_areTwo_16 : decode cX12_areTwo 16 = .ok (.lload_n 1, 1) := by decide +kernel
theorem dX12_areTwo_17 : decode cX12_areTwo 17 = .ok (.lload_n 3, 1) := by decide +kernel
theorem dX12_areTwo_18 : decode cX12_areTwo 18 = .ok (.lcmp, 1) := by decide +kernel
theorem dX12_areTwo_19 : decode cX12_areTwo 19 = .ok (.ifCond .eq 7, 3) := by decide +kernel
theorem dX12_areTwo_22 : decode cX12_areTwo 22 = .ok (.iconst 1, 1) := by decide +kernel
theorem dX12_areTwo_23 : decode cX12_areTwo 23 = .ok (.goto 4, 3) := by decide +kernel
theorem dX12_areTwo_26 : decode cX12_areTwo 26 = .ok (.iconst 0, 1) := by decide +kernel
theorem dX12_areTwo_27 : decode cX12_areTwo 27 = .ok (.ireturn, 1) := by decide +kernel
theorem dX12_quarrel_0 : decode cX12_quarrel 0 = .ok (.aload_n 0, 1) := by decide +kernel
theorem dX12_quarrel_1 : decode cX12_quarrel 1 = .ok (.iconst 0, 1) := by decide +kernel
theorem dX12_quarrel_2 : decode cX12_quarrel 2 = .ok (.putfield 1, 3) := by decide +kernel
theorem dX12_quarrel_5 : decode cX12_quarrel 5 = .ok (.aload_n 0, 1) := by decide +kernel
theorem dX12_quarrel_6 : decode cX12_quarrel 6 = .ok (.iload_n 1, 1) := by decide +kernel
theorem dX12_quarrel_7 : decode cX12_quarrel 7 = .ok (.i2l, 1) := by decide +kernel
theorem dX12_quarrel_8 : decode cX12_quarrel 8 = .ok (.iload_n 2, 1) := by decide +kernel
theorem dX12_quarrel_9 : decode cX12_quarrel 9 = .ok (.i2l, 1) := by decide +kernel
theorem dX12_quarrel_10 : decode cX12_quarrel 10 = .ok (.invokevirtual 319, 3) := by decide +kernel
theorem dX12_quarrel_13 : decode cX12_quarrel 13 = .ok (.ifCond .ne 6, 3) := by decide +kernel
theorem dX12_quarrel_16 : decode cX12_quarrel 16 = .ok (.bipush (-11), 2) := by decide +kernel
theorem dX12_quarrel_18 : decode cX12_quarrel 18 = .ok (.ireturn, 1) := by decide +kernel
theorem dX12_quarrel_19 : decode cX12_quarrel 19 = .ok (.aload_n 0, 1) := by decide +kernel
theorem dX12_quarrel_20 : decode cX12_quarrel 20 = .ok (.invokevirtual 309, 3) := by decide +kernel
theorem dX12_quarrel_23 : decode cX12_quarrel 23 = .ok (.aload_n 0, 1) := by decide +kernel
theorem dX12_quarrel_24 : decode cX12_quarrel 24 = .ok (.iload_n 1, 1) := by decide +kernel
theorem dX12_quarrel_25 : decode cX12_quarrel 25 = .ok (.iload_n 2, 1) := by decide +kernel
theorem dX12_quarrel_26 : decode cX12_quarrel 26 = .ok (.invokevirtual 323, 3) := by decide +kernel
theorem dX12_quarrel_29 : decode cX12_quarrel 29 = .ok (.aload_n 0, 1) := by decide +kernel
theorem dX12_quarrel_30 : decode cX12_quarrel 30 = .ok (.invokevirtual 316, 3) := by decide +kernel
theorem dX12_quarrel_33 : decode cX12_quarrel 33 = .ok (.aload_n 0, 1) := by decide +kernel
theorem dX12_quarrel_34 : decode cX12_quarrel 34 = .ok (.iload_n 1, 1) := by decide +kernel
theorem dX12_quarrel_35 : decode cX12_quarrel 35 = .ok (.iload_n 2, 1) := by decide +kernel
theorem dX12_quarrel_36 : decode cX12_quarrel 36 = .ok (.invokevirtual 264, 3) := by decide +kernel
theorem dX12_quarrel_39 : decode cX12_quarrel 39 = .ok (.ifCond .eq 7, 3) := by decide +kernel
theorem dX12_quarrel_42 : decode cX12_quarrel 42 = .ok (.iconst 1, 1) := by decide +kernel
theorem dX12_quarrel_43 : decode cX12_quarrel 43 = .ok (.goto 4, 3) := by decide +kernel
theorem dX12_quarrel_46 : decode cX12_quarrel 46 = .ok (.iconst 0, 1) := by decide +kernel
theorem dX12_quarrel_47 : decode cX12_quarrel 47 = .ok (.ireturn, 1) := by decide +kernel
theorem dX12_hour_0 : decode cX12_hour 0 = .ok (.aload_n 0, 1) := by decide +kernel
theorem dX12_hour_1 : decode cX12_hour 1 = .ok (.iconst 0, 1) := by decide +kernel
theorem dX12_hour_2 : decode cX12_hour 2 = .ok (.putfield 1, 3) := by decide +kernel
theorem dX12_hour_5 : decode cX12_hour 5 = .ok (.iload_n 1, 1) := by decide +kernel
theorem dX12_hour_6 : decode cX12_hour 6 = .ok (.i2l, 1) := by decide +kernel
theorem dX12_hour_7 : decode cX12_hour 7 = .ok (.lconst 0, 1) := by decide +kernel
theorem dX12_hour_8 : decode cX12_hour 8 = .ok (.ldc2_w 327, 3) := by decide +kernel
theorem dX12_hour_11 : decode cX12_hour 11 = .ok (.invokestatic 154, 3) := by decide +kernel
theorem dX12_hour_14 : decode cX12_hour 14 = .ok (.ifCond .ne 6, 3) := by decide +kernel
theorem dX12_hour_17 : decode cX12_hour 17 = .ok (.bipush (-11), 2) := by decide +kernel
theorem dX12_hour_19 : decode cX12_hour 19 = .ok (.ireturn, 1) := by decide +kernel
theorem dX12_hour_20 : decode cX12_hour 20 = .ok (.aload_n 0, 1) := by decide +kernel
theorem dX12_hour_21 : decode cX12_hour 21 = .ok (.invokevirtual 309, 3) := by decide +kernel
theorem dX12_hour_24 : decode cX12_hour 24 = .ok (.aload_n 0, 1) := by decide +kernel
theorem dX12_hour_25 : decode cX12_hour 25 = .ok (.getfield 13, 3) := by decide +kernel
theorem dX12_hour_28 : decode cX12_hour 28 = .ok (.bipush 78, 2) := by decide +kernel
theorem dX12_hour_30 : decode cX12_hour 30 = .ok (.iload_n 1, 1) := by decide +kernel
theorem dX12_hour_31 : decode cX12_hour 31 = .ok (.iastore, 1) := by decide +kernel
theorem dX12_hour_32 : decode cX12_hour 32 = .ok (.aload_n 0, 1) := by decide +kernel
theorem dX12_hour_33 : decode cX12_hour 33 = .ok (.invokevirtual 316, 3) := by decide +kernel
theorem dX12_hour_36 : decode cX12_hour 36 = .ok (.aload_n 0, 1) := by decide +kernel
theorem dX12_hour_37 : decode cX12_hour 37 = .ok (.getfield 39, 3) := by decide +kernel
theorem dX12_hour_40 : decode cX12_hour 40 = .ok (.bipush 16, 2) := by decide +kernel
theorem dX12_hour_42 : decode cX12_hour 42 = .ok (.iaload, 1) := by decide +kernel
theorem dX12_hour_43 : decode cX12_hour 43 = .ok (.ireturn, 1) := by decide +kernel
theorem dX12_undo_0 : decode cX12_undo 0 = .ok (.aload_n 0, 1) := by decide +kernel
theorem dX12_undo_1 : decode cX12_undo 1 = .ok (.iconst 0, 1) := by decide +kernel
theorem dX12_undo_2 : decode cX12_undo 2 = .ok (.putfield 1, 3) := by decide +kernel
theorem dX12_undo_5 : decode cX12_undo 5 = .ok (.iload_n 1, 1) := by decide +kernel
theorem dX12_undo_6 : decode cX12_undo 6 = .ok (.i2l, 1) := by decide +kernel
theorem dX12_undo_7 : decode cX12_undo 7 = .ok (.lconst 1, 1) := by decide +kernel
theorem dX12_undo_8 : decode cX12_undo 8 = .ok (.ldc2_w 329, 3) := by decide +kernel
theorem dX12_undo_11 : decode cX12_undo 11 = .ok (.invokestatic 154, 3) := by decide +kernel
theorem dX12_undo_14 : decode cX12_undo 14 = .ok (.ifCond .eq 14, 3) := by decide +kernel
theorem dX12_undo_17 : decode cX12_undo 17 = .ok (.iload_n 1, 1) := by decide +kernel
theorem dX12_undo_18 : decode cX12_undo 18 = .ok (.aload_n 0, 1) := by decide +kernel
theorem dX12_undo_19 : decode cX12_undo 19 = .ok (.getfield 13, 3) := by decide +kernel
theorem dX12_undo_22 : decode cX12_undo 22 = .ok (.bipush 80, 2) := by decide +kernel
theorem dX12_undo_24 : decode cX12_undo 24 = .ok (.iaload, 1) := by decide +kernel
theorem dX12_undo_25 : decode cX12_undo 25 = .ok (.if_icmp .le 6, 3) := by decide +kernel
theorem dX12_undo_28 : decode cX12_undo 28 = .ok (.bipush (-3), 2) := by decide +kernel
theorem dX12_undo_30 : decode cX12_undo 30 = .ok (.ireturn, 1) := by decide +kernel
theorem dX12_undo_31 : decode cX12_undo 31 = .ok (.aload_n 0, 1) := by decide +kernel
theorem dX12_undo_32 : decode cX12_undo 32 = .ok (.getfield 13, 3) := by decide +kernel
theorem dX12_undo_35 : decode cX12_undo 35 = .ok (.bipush 80, 2) := by decide +kernel
theorem dX12_undo_37 : decode cX12_undo 37 = .ok (.dup2, 1) := by decide +kernel
theorem dX12_undo_38 : decode cX12_undo 38 = .ok (.iaload, 1) := by decide +kernel
theorem dX12_undo_39 : decode cX12_undo 39 = .ok (.iload_n 1, 1) := by decide +kernel
theorem dX12_undo_40 : decode cX12_undo 40 = .ok (.isub, 1) := by decide +kernel
theorem dX12_undo_41 : decode cX12_undo 41 = .ok (.iastore, 1) := by decide +kernel
theorem dX12_undo_42 : decode cX12_undo 42 = .ok (.iconst 0, 1) := by decide +kernel
theorem dX12_undo_43 : decode cX12_undo 43 = .ok (.istore_n 2, 1) := by decide +kernel
theorem dX12_undo_44 : decode cX12_undo 44 = .ok (.iload_n 2, 1) := by decide +kernel
theorem dX12_undo_45 : decode cX12_undo 45 = .ok (.bipush 18, 2) := by decide +kernel
theorem dX12_undo_47 : decode cX12_undo 47 = .ok (.if_icmp .ge 38, 3) := by decide +kernel
theorem dX12_undo_50 : decode cX12_undo 50 = .ok (.aload_n 0, 1) := by decide +kernel
theorem dX12_undo_51 : decode cX12_undo 51 = .ok (.getfield 13, 3) := by decide +kernel
theorem dX12_undo_54 : decode cX12_undo 54 = .ok (.bipush 62, 2) := by decide +kernel
theorem dX12_undo_56 : decode cX12_undo 56 = .ok (.iload_n 2, 1) := by decide +kernel
theorem dX12_undo_57 : decode cX12_undo 57 = .ok (.iadd, 1) := by decide +kernel
theorem dX12_undo_58 : decode cX12_undo 58 = .ok (.aload_n 0, 1) := by decide +kernel
theorem dX12_undo_59 : decode cX12_undo 59 = .ok (.getfield 13, 3) := by decide +kernel
theorem dX12_undo_62 : decode cX12_undo 62 = .ok (.bipush 81, 2) := by decide +kernel
theorem dX12_undo_64 : decode cX12_undo 64 = .ok (.bipush 18, 2) := by decide +kernel
theorem dX12_undo_66 : decode cX12_undo 66 = .ok (.aload_n 0, 1) := by decide +kernel
theorem dX12_undo_67 : decode cX12_undo 67 = .ok (.getfield 13, 3) := by decide +kernel
theorem dX12_undo_70 : decode cX12_undo 70 = .ok (.bipush 80, 2) := by decide +kernel
theorem dX12_undo_72 : decode cX12_undo 72 = .ok (.iaload, 1) := by decide +kernel
theorem dX12_undo_73 : decode cX12_undo 73 = .ok (.imul, 1) := by decide +kernel
theorem dX12_undo_74 : decode cX12_undo 74 = .ok (.iadd, 1) := by decide +kernel
theorem dX12_undo_75 : decode cX12_undo 75 = .ok (.iload_n 2, 1) := by decide +kernel
theorem dX12_undo_76 : decode cX12_undo 76 = .ok (.iadd, 1) := by decide +kernel
theorem dX12_undo_77 : decode cX12_undo 77 = .ok (.iaload, 1) := by decide +kernel
theorem dX12_undo_78 : decode cX12_undo 78 = .ok (.iastore, 1) := by decide +kernel
theorem dX12_undo_79 : decode cX12_undo 79 = .ok (.iinc 2 1, 3) := by decide +kernel
theorem dX12_undo_82 : decode cX12_undo 82 = .ok (.goto (-38), 3) := by decide +kernel
theorem dX12_undo_85 : decode cX12_undo 85 = .ok (.aload_n 0, 1) := by decide +kernel
theorem dX12_undo_86 : decode cX12_undo 86 = .ok (.getfield 13, 3) := by decide +kernel
theorem dX12_undo_89 : decode cX12_undo 89 = .ok (.bipush 80, 2) := by decide +kernel
theorem dX12_undo_91 : decode cX12_undo 91 = .ok (.iaload, 1) := by decide +kernel
theorem dX12_undo_92 : decode cX12_undo 92 = .ok (.ireturn, 1) := by decide +kernel
theorem dX12_whyTold_0 : decode cX12_whyTold 0 = .ok (.iload_n 1, 1) := by decide +kernel
theorem dX12_whyTold_1 : decode cX12_whyTold 1 = .ok (.sipush 1000, 3) := by decide +kernel
theorem dX12_whyTold_4 : decode cX12_whyTold 4 = .ok (.idiv, 1) := by decide +kernel
theorem dX12_whyTold_5 : decode cX12_whyTold 5 = .ok (.istore_n 3, 1) := by decide +kernel
theorem dX12_whyTold_6 : decode cX12_whyTold 6 = .ok (.iload_n 1, 1) := by decide +kernel
theorem dX12_whyTold_7 : decode cX12_whyTold 7 = .ok (.bipush 100, 2) := by decide +kernel
theorem dX12_whyTold_9 : decode cX12_whyTold 9 = .ok (.idiv, 1) := by decide +kernel
theorem dX12_whyTold_10 : decode cX12_whyTold 10 = .ok (.bipush 10, 2) := by decide +kernel
theorem dX12_whyTold_12 : decode cX12_whyTold 12 = .ok (.irem, 1) := by decide +kernel
theorem dX12_whyTold_13 : decode cX12_whyTold 13 = .ok (.istore 4, 2) := by decide +kernel
theorem dX12_whyTold_15 : decode cX12_whyTold 15 = .ok (.iload_n 3, 1) := by decide +kernel
theorem dX12_whyTold_16 : decode cX12_whyTold 16 = .ok (.iload 4, 2) := by decide +kernel
theorem dX12_whyTold_18 : decode cX12_whyTold 18 = .ok (.if_icmp .ge 25, 3) := by decide +kernel
theorem dX12_whyTold_21 : decode cX12_whyTold 21 = .ok (.aload_n 0, 1) := by decide +kernel
theorem dX12_whyTold_22 : decode cX12_whyTold 22 = .ok (.iload_n 3, 1) := by decide +kernel
theorem dX12_whyTold_23 : decode cX12_whyTold 23 = .ok (.iload 4, 2) := by decide +kernel
theorem dX12_whyTold_25 : decode cX12_whyTold 25 = .ok (.iload_n 1, 1) := by decide +kernel
theorem dX12_whyTold_26 : decode cX12_whyTold 26 = .ok (.bipush 10, 2) := by decide +kernel
theorem dX12_whyTold_28 : decode cX12_whyTold 28 = .ok (.idiv, 1) := by decide +kernel
theorem dX12_whyTold_29 : decode cX12_whyTold 29 = .ok (.bipush 10, 2) := by decide +kernel
theorem dX12_whyTold_31 : decode cX12_whyTold 31 = .ok (.irem, 1) := by decide +kernel
theorem dX12_whyTold_32 : decode cX12_whyTold 32 = .ok (.iload_n 1, 1) := by decide +kernel
theorem dX12_whyTold_33 : decode cX12_whyTold 33 = .ok (.bipush 10, 2) := by decide +kernel
theorem dX12_whyTold_35 : decode cX12_whyTold 35 = .ok (.irem, 1) := by decide +kernel
theorem dX12_whyTold_36 : decode cX12_whyTold 36 = .ok (.iload_n 2, 1) := by decide +kernel
theorem dX12_whyTold_37 : decode cX12_whyTold 37 = .ok (.invokevirtual 300, 3) := by decide +kernel
theorem dX12_whyTold_40 : decode cX12_whyTold 40 = .ok (.goto 4, 3) := by decide +kernel
theorem dX12_whyTold_43 : decode cX12_whyTold 43 = .ok (.iconst 1, 1) := by decide +kernel
theorem dX12_whyTold_44 : decode cX12_whyTold 44 = .ok (.ireturn, 1) := by decide +kernel
theorem dX12_whyNot_0 : decode cX12_whyNot 0 = .ok (.lload_n 1, 1) := by decide +kernel
theorem dX12_whyNot_1 : decode cX12_whyNot 1 = .ok (.ldc2_w 329, 3) := by decide +kernel
theorem dX12_whyNot_4 : decode cX12_whyNot 4 = .ok (.ldc2_w 331, 3) := by decide +kernel
theorem dX12_whyNot_7 : decode cX12_whyNot 7 = .ok (.invokestatic 154, 3) := by decide +kernel
theorem dX12_whyNot_10 : decode cX12_whyNot 10 = .ok (.ifCond .eq 5, 3) := by decide +kernel
theorem dX12_whyNot_13 : decode cX12_whyNot 13 = .ok (.iconst 0, 1) := by decide +kernel
theorem dX12_whyNot_14 : decode cX12_whyNot 14 = .ok (.ireturn, 1) := by decide +kernel
theorem dX12_whyNot_15 : decode cX12_whyNot 15 = .ok (.lload_n 1, 1) := by decide +kernel
theorem dX12_whyNot_16 : decode cX12_whyNot 16 = .ok (.ldc2_w 333, 3) := by decide +kernel
theorem dX12_whyNot_19 : decode cX12_whyNot 19 = .ok (.ldc2_w 335, 3) := by decide +kernel
theorem dX12_whyNot_22 : decode cX12_whyNot 22 = .ok (.invokestatic 154, 3) := by decide +kernel
theorem dX12_whyNot_25 : decode cX12_whyNot 25 = .ok (.ifCond .eq 30, 3) := by decide +kernel
theorem dX12_whyNot_28 : decode cX12_whyNot 28 = .ok (.aload_n 0, 1) := by decide +kernel
theorem dX12_whyNot_29 : decode cX12_whyNot 29 = .ok (.lload_n 1, 1) := by decide +kernel
theorem dX12_whyNot_30 : decode cX12_whyNot 30 = .ok (.ldc2_w 333, 3) := by decide +kernel
theorem dX12_whyNot_33 : decode cX12_whyNot 33 = .ok (.lsub, 1) := by decide +kernel
theorem dX12_whyNot_34 : decode cX12_whyNot 34 = .ok (.ldc2_w 329, 3) := by decide +kernel
theorem dX12_whyNot_37 : decode cX12_whyNot 37 = .ok (.ldiv, 1) := by decide +kernel
theorem dX12_whyNot_38 : decode cX12_whyNot 38 = .ok (.lload_n 1, 1) := by decide +kernel
theorem dX12_whyNot_39 : decode cX12_whyNot 39 = .ok (.ldc2_w 329, 3) := by decide +kernel
theorem dX12_whyNot_42 : decode cX12_whyNot 42 = .ok (.lrem, 1) := by decide +kernel
theorem dX12_whyNot_43 : decode cX12_whyNot 43 = .ok (.invokevirtual 319, 3) := by decide +kernel
theorem dX12_whyNot_46 : decode cX12_whyNot 46 = .ok (.ifCond .eq 7, 3) := by decide +kernel
theorem dX12_whyNot_49 : decode cX12_whyNot 49 = .ok (.iconst 0, 1) := by decide +kernel
theorem dX12_whyNot_50 : decode cX12_whyNot 50 = .ok (.goto 4, 3) := by decide +kernel
theorem dX12_whyNot_53 : decode cX12_whyNot 53 = .ok (.iconst 1, 1) := by decide +kernel
theorem dX12_whyNot_54 : decode cX12_whyNot 54 = .ok (.ireturn, 1) := by decide +kernel
theorem dX12_whyNot_55 : decode cX12_whyNot 55 = .ok (.lload_n 1, 1) := by decide +kernel
theorem dX12_whyNot_56 : decode cX12_whyNot 56 = .ok (.ldc2_w 337, 3) := by decide +kernel
theorem dX12_whyNot_59 : decode cX12_whyNot 59 = .ok (.ldc2_w 339, 3) := by decide +kernel
theorem dX12_whyNot_62 : decode cX12_whyNot 62 = .ok (.invokestatic 154, 3) := by decide +kernel
theorem dX12_whyNot_65 : decode cX12_whyNot 65 = .ok (.ifCond .eq 23, 3) := by decide +kernel
theorem dX12_whyNot_68 : decode cX12_whyNot 68 = .ok (.aload_n 0, 1) := by decide +kernel
theorem dX12_whyNot_69 : decode cX12_whyNot 69 = .ok (.lload_n 1, 1) := by decide +kernel
theorem dX12_whyNot_70 : decode cX12_whyNot 70 = .ok (.l2i, 1) := by decide +kernel
theorem dX12_whyNot_71 : decode cX12_whyNot 71 = .ok (.sipush 10000, 3) := by decide +kernel
theorem dX12_whyNot_74 : decode cX12_whyNot 74 = .ok (.isub, 1) := by decide +kernel
theorem dX12_whyNot_75 : decode cX12_whyNot 75 = .ok (.aload_n 0, 1) := by decide +kernel
theorem dX12_whyNot_76 : decode cX12_whyNot 76 = .ok (.getfield 13, 3) := by decide +kernel
theorem dX12_whyNot_79 : decode cX12_whyNot 79 = .ok (.bipush 78, 2) := by decide +kernel
theorem dX12_whyNot_81 : decode cX12_whyNot 81 = .ok (.iaload, 1) := by decide +kernel
theorem dX12_whyNot_82 : decode cX12_whyNot 82 = .ok (.invokevirtual 341, 3) := by decide +kernel
theorem dX12_whyNot_85 : decode cX12_whyNot 85 = .ok (.goto 4, 3) := by decide +kernel
theorem dX12_whyNot_88 : decode cX12_whyNot 88 = .ok (.iconst 1, 1) := by decide +kernel
theorem dX12_whyNot_89 : decode cX12_whyNot 89 = .ok (.ireturn, 1) := by decide +kernel
theorem dX12_does_0 : decode cX12_does 0 = .ok (.iload_n 1, 1) := by decide +kernel
theorem dX12_does_1 : decode cX12_does 1 = .ok (.bipush 20, 2) := by decide +kernel
theorem dX12_does_3 : decode cX12_does 3 = .ok (.if_icmp .ge 17, 3) := by decide +kernel
theorem dX12_does_6 : decode cX12_does 6 = .ok (.aload_n 0, 1) := by decide +kernel
theorem dX12_does_7 : decode cX12_does 7 = .ok (.getfield 13, 3) := by decide +kernel
theorem dX12_does_10 : decode cX12_does 10 = .ok (.bipush 78, 2) := by decide +kernel
theorem dX12_does_12 : decode cX12_does 12 = .ok (.iload_n 1, 1) := by decide +kernel
theorem dX12_does_13 : decode cX12_does 13 = .ok (.bipush 10, 2) := by decide +kernel
theorem dX12_does_15 : decode cX12_does 15 = .ok (.isub, 1) := by decide +kernel
theorem dX12_does_16 : decode cX12_does 16 = .ok (.iastore, 1) := by decide +kernel
theorem dX12_does_17 : decode cX12_does 17 = .ok (.goto 59, 3) := by decide +kernel
theorem dX12_does_20 : decode cX12_does 20 = .ok (.iload_n 1, 1) := by decide +kernel
theorem dX12_does_21 : decode cX12_does 21 = .ok (.sipush 200, 3) := by decide +kernel
theorem dX12_does_24 : decode cX12_does 24 = .ok (.if_icmp .ge 21, 3) := by decide +kernel
theorem dX12_does_27 : decode cX12_does 27 = .ok (.aload_n 0, 1) := by decide +kernel
theorem dX12_does_28 : decode cX12_does 28 = .ok (.iload_n 1, 1) := by decide +kernel
theorem dX12_does_29 : decode cX12_does 29 = .ok (.bipush 100, 2) := by decide +kernel
theorem dX12_does_31 : decode cX12_does 31 = .ok (.isub, 1) := by decide +kernel
theorem dX12_does_32 : decode cX12_does 32 = .ok (.bipush 10, 2) := by decide +kernel
theorem dX12_does_34 : decode cX12_does 34 = .ok (.idiv, 1) := by decide +kernel
theorem dX12_does_35 : decode cX12_does 35 = .ok (.iload_n 1, 1) := by decide +kernel
theorem dX12_does_36 : decode cX12_does 36 = .ok (.bipush 10, 2) := by decide +kernel
theorem dX12_does_38 : decode cX12_does 38 = .ok (.irem, 1) := by decide +kernel
theorem dX12_does_39 : decode cX12_does 39 = .ok (.invokevirtual 323, 3) := by decide +kernel
theorem dX12_does_42 : decode cX12_does 42 = .ok (.goto 34, 3) := by decide +kernel
theorem dX12_does_45 : decode cX12_does 45 = .ok (.aload_n 0, 1) := by decide +kernel
theorem dX12_does_46 : decode cX12_does 46 = .ok (.iload_n 1, 1) := by decide +kernel
theorem dX12_does_47 : decode cX12_does 47 = .ok (.sipush 1000, 3) := by decide +kernel
theorem dX12_does_50 : decode cX12_does 50 = .ok (.idiv, 1) := by decide +kernel
theorem dX12_does_51 : decode cX12_does 51 = .ok (.bipush 10, 2) := by decide +kernel
theorem dX12_does_53 : decode cX12_does 53 = .ok (.irem, 1) := by decide +kernel
theorem dX12_does_54 : decode cX12_does 54 = .ok (.iload_n 1, 1) := by decide +kernel
theorem dX12_does_55 : decode cX12_does 55 = .ok (.bipush 100, 2) := by decide +kernel
theorem dX12_does_57 : decode cX12_does 57 = .ok (.idiv, 1) := by decide +kernel
theorem dX12_does_58 : decode cX12_does 58 = .ok (.bipush 10, 2) := by decide +kernel
theorem dX12_does_60 : decode cX12_does 60 = .ok (.irem, 1) := by decide +kernel
theorem dX12_does_61 : decode cX12_does 61 = .ok (.iload_n 1, 1) := by decide +kernel
theorem dX12_does_62 : decode cX12_does 62 = .ok (.bipush 10, 2) := by decide +kernel
theorem dX12_does_64 : decode cX12_does 64 = .ok (.idiv, 1) := by decide +kernel
theorem dX12_does_65 : decode cX12_does 65 = .ok (.bipush 10, 2) := by decide +kernel
theorem dX12_does_67 : decode cX12_does 67 = .ok (.irem, 1) := by decide +kernel
theorem dX12_does_68 : decode cX12_does 68 = .ok (.iload_n 1, 1) := by decide +kernel
theorem dX12_does_69 : decode cX12_does 69 = .ok (.bipush 10, 2) := by decide +kernel
theorem dX12_does_71 : decode cX12_does 71 = .ok (.irem, 1) := by decide +kernel
theorem dX12_does_72 : decode cX12_does 72 = .ok (.invokevirtual 312, 3) := by decide +kernel
theorem dX12_does_75 : decode cX12_does 75 = .ok (.pop, 1) := by decide +kernel
theorem dX12_does_76 : decode cX12_does 76 = .ok (.return_, 1) := by decide +kernel
theorem dX12_tells_0 : decode cX12_tells 0 = .ok (.aload_n 0, 1) := by decide +kernel
theorem dX12_tells_1 : decode cX12_tells 1 = .ok (.iconst 0, 1) := by decide +kernel
theorem dX12_tells_2 : decode cX12_tells 2 = .ok (.putfield 344, 3) := by decide +kernel
theorem dX12_tells_5 : decode cX12_tells 5 = .ok (.iconst 0, 1) := by decide +kernel
theorem dX12_tells_6 : decode cX12_tells 6 = .ok (.istore_n 2, 1) := by decide +kernel
theorem dX12_tells_7 : decode cX12_tells 7 = .ok (.iload_n 2, 1) := by decide +kernel
theorem dX12_tells_8 : decode cX12_tells 8 = .ok (.aload_n 0, 1) := by decide +kernel
theorem dX12_tells_9 : decode cX12_tells 9 = .ok (.getfield 82, 3) := by decide +kernel
theorem dX12_tells_12 : decode cX12_tells 12 = .ok (.iload_n 1, 1) := by decide +kernel
theorem dX12_tells_13 : decode cX12_tells 13 = .ok (.iaload, 1) := by decide +kernel
theorem dX12_tells_14 : decode cX12_tells 14 = .ok (.if_icmp .ge 53, 3) := by decide +kernel
theorem dX12_tells_17 : decode cX12_tells 17 = .ok (.aload_n 0, 1) := by decide +kernel
theorem dX12_tells_18 : decode cX12_tells 18 = .ok (.aload_n 0, 1) := by decide +kernel
theorem dX12_tells_19 : decode cX12_tells 19 = .ok (.aload_n 0, 1) := by decide +kernel
theorem dX12_tells_20 : decode cX12_tells 20 = .ok (.getfield 85, 3) := by decide +kernel
theorem dX12_tells_23 : decode cX12_tells 23 = .ok (.bipush 40, 2) := by decide +kernel
theorem dX12_tells_25 : decode cX12_tells 25 = .ok (.iload_n 1, 1) := by decide +kernel
theorem dX12_tells_26 : decode cX12_tells 26 = .ok (.imul, 1) := by decide +kernel
theorem dX12_tells_27 : decode cX12_tells 27 = .ok (.iload_n 2, 1) := by decide +kernel
theorem dX12_tells_28 : decode cX12_tells 28 = .ok (.iadd, 1) := by decide +kernel
theorem dX12_tells_29 : decode cX12_tells 29 = .ok (.laload, 1) := by decide +kernel
theorem dX12_tells_30 : decode cX12_tells 30 = .ok (.invokevirtual 347, 3) := by decide +kernel
theorem dX12_tells_33 : decode cX12_tells 33 = .ok (.putfield 344, 3) := by decide +kernel
theorem dX12_tells_36 : decode cX12_tells 36 = .ok (.aload_n 0, 1) := by decide +kernel
theorem dX12_tells_37 : decode cX12_tells 37 = .ok (.getfield 344, 3) := by decide +kernel
theorem dX12_tells_40 : decode cX12_tells 40 = .ok (.ifCond .eq 5, 3) := by decide +kernel
theorem dX12_tells_43 : decode cX12_tells 43 = .ok (.iload_n 2, 1) := by decide +kernel
theorem dX12_tells_44 : decode cX12_tells 44 = .ok (.ireturn, 1) := by decide +kernel
theorem dX12_tells_45 : decode cX12_tells 45 = .ok (.aload_n 0, 1) := by decide +kernel
theorem dX12_tells_46 : decode cX12_tells 46 = .ok (.aload_n 0, 1) := by decide +kernel
theorem dX12_tells_47 : decode cX12_tells 47 = .ok (.getfield 85, 3) := by decide +kernel
theorem dX12_tells_50 : decode cX12_tells 50 = .ok (.bipush 40, 2) := by decide +kernel
theorem dX12_tells_52 : decode cX12_tells 52 = .ok (.iload_n 1, 1) := by decide +kernel
theorem dX12_tells_53 : decode cX12_tells 53 = .ok (.imul, 1) := by decide +kernel
theorem dX12_tells_54 : decode cX12_tells 54 = .ok (.iload_n 2, 1) := by decide +kernel
theorem dX12_tells_55 : decode cX12_tells 55 = .ok (.iadd, 1) := by decide +kernel
theorem dX12_tells_56 : decode cX12_tells 56 = .ok (.laload, 1) := by decide +kernel
theorem dX12_tells_57 : decode cX12_tells 57 = .ok (.l2i, 1) := by decide +kernel
theorem dX12_tells_58 : decode cX12_tells 58 = .ok (.invokevirtual 351, 3) := by decide +kernel
theorem dX12_tells_61 : decode cX12_tells 61 = .ok (.iinc 2 1, 3) := by decide +kernel
theorem dX12_tells_64 : decode cX12_tells 64 = .ok (.goto (-57), 3) := by decide +kernel
theorem dX12_tells_67 : decode cX12_tells 67 = .ok (.aload_n 0, 1) := by decide +kernel
theorem dX12_tells_68 : decode cX12_tells 68 = .ok (.getfield 82, 3) := by decide +kernel
theorem dX12_tells_71 : decode cX12_tells 71 = .ok (.iload_n 1, 1) := by decide +kernel
theorem dX12_tells_72 : decode cX12_tells 72 = .ok (.iaload, 1) := by decide +kernel
theorem dX12_tells_73 : decode cX12_tells 73 = .ok (.ireturn, 1) := by decide +kernel
theorem dX12_noTray_0 : decode cX12_noTray 0 = .ok (.iload_n 1, 1) := by decide +kernel
theorem dX12_noTray_1 : decode cX12_noTray 1 = .ok (.i2l, 1) := by decide +kernel
theorem dX12_noTray_2 : decode cX12_noTray 2 = .ok (.lconst 0, 1) := by decide +kernel
theorem dX12_noTray_3 : decode cX12_noTray 3 = .ok (.ldc2_w 354, 3) := by decide +kernel
theorem dX12_noTray_6 : decode cX12_noTray 6 = .ok (.invokestatic 154, 3) := by decide +kernel
theorem dX12_noTray_9 : decode cX12_noTray 9 = .ok (.ifCond .ne 8, 3) := by decide +kernel
theorem dX12_noTray_12 : decode cX12_noTray 12 = .ok (.bipush (-2), 2) := by decide +kernel
theorem dX12_noTray_14 : decode cX12_noTray 14 = .ok (.goto 19, 3) := by decide +kernel
theorem dX12_noTray_17 : decode cX12_noTray 17 = .ok (.aload_n 0, 1) := by decide +kernel
theorem dX12_noTray_18 : decode cX12_noTray 18 = .ok (.getfield 79, 3) := by decide +kernel
theorem dX12_noTray_21 : decode cX12_noTray 21 = .ok (.iload_n 1, 1) := by decide +kernel
theorem dX12_noTray_22 : decode cX12_noTray 22 = .ok (.iaload, 1) := by decide +kernel
theorem dX12_noTray_23 : decode cX12_noTray 23 = .ok (.iconst (-1), 1) := by decide +kernel
theorem dX12_noTray_24 : decode cX12_noTray 24 = .ok (.if_icmp .ne 8, 3) := by decide +kernel
theorem dX12_noTray_27 : decode cX12_noTray 27 = .ok (.bipush (-6), 2) := by decide +kernel
theorem dX12_noTray_29 : decode cX12_noTray 29 = .ok (.goto 4, 3) := by decide +kernel
theorem dX12_noTray_32 : decode cX12_noTray 32 = .ok (.iconst 0, 1) := by decide +kernel
theorem dX12_noTray_33 : decode cX12_noTray 33 = .ok (.ireturn, 1) := by decide +kernel
theorem dX12_wornSum_0 : decode cX12_wornSum 0 = .ok (.iconst 0, 1) := by decide +kernel
theorem dX12_wornSum_1 : decode cX12_wornSum 1 = .ok (.istore_n 1, 1) := by decide +kernel
theorem dX12_wornSum_2 : decode cX12_wornSum 2 = .ok (.iconst 0, 1) := by decide +kernel
theorem dX12_wornSum_3 : decode cX12_wornSum 3 = .ok (.istore_n 2, 1) := by decide +kernel
theorem dX12_wornSum_4 : decode cX12_wornSum 4 = .ok (.iload_n 2, 1) := by decide +kernel
theorem dX12_wornSum_5 : decode cX12_wornSum 5 = .ok (.aload_n 0, 1) := by decide +kernel
theorem dX12_wornSum_6 : decode cX12_wornSum 6 = .ok (.getfield 13, 3) := by decide +kernel
theorem dX12_wornSum_9 : decode cX12_wornSum 9 = .ok (.iconst 4, 1) := by decide +kernel
theorem dX12_wornSum_10 : decode cX12_wornSum 10 = .ok (.iaload, 1) := by decide +kernel
theorem dX12_wornSum_11 : decode cX12_wornSum 11 = .ok (.if_icmp .ge 21, 3) := by decide +kernel
theorem dX12_wornSum_14 : decode cX12_wornSum 14 = .ok (.iload_n 1, 1) := by decide +kernel
theorem dX12_wornSum_15 : decode cX12_wornSum 15 = .ok (.aload_n 0, 1) := by decide +kernel
theorem dX12_wornSum_16 : decode cX12_wornSum 16 = .ok (.getfield 13, 3) := by decide +kernel
theorem dX12_wornSum_19 : decode cX12_wornSum 19 = .ok (.bipush 66, 2) := by decide +kernel
theorem dX12_wornSum_21 : decode cX12_wornSum 21 = .ok (.iload_n 2, 1) := by decide +kernel
theorem dX12_wornSum_22 : decode cX12_wornSum 22 = .ok (.iadd, 1) := by decide +kernel
theorem dX12_wornSum_23 : decode cX12_wornSum 23 = .ok (.iaload, 1) := by decide +kernel
theorem dX12_wornSum_24 : decode cX12_wornSum 24 = .ok (.iadd, 1) := by decide +kernel
theorem dX12_wornSum_25 : decode cX12_wornSum 25 = .ok (.istore_n 1, 1) := by decide +kernel
theorem dX12_wornSum_26 : decode cX12_wornSum 26 = .ok (.iinc 2 1, 3) := by decide +kernel
theorem dX12_wornSum_29 : decode cX12_wornSum 29 = .ok (.goto (-25), 3) := by decide +kernel
theorem dX12_wornSum_32 : decode cX12_wornSum 32 = .ok (.iload_n 1, 1) := by decide +kernel
theorem dX12_wornSum_33 : decode cX12_wornSum 33 = .ok (.ireturn, 1) := by decide +kernel
theorem dX12_judge_0 : decode cX12_judge 0 = .ok (.aload_n 0, 1) := by decide +kernel
theorem dX12_judge_1 : decode cX12_judge 1 = .ok (.iconst 0, 1) := by decide +kernel
theorem dX12_judge_2 : decode cX12_judge 2 = .ok (.putfield 1, 3) := by decide +kernel
theorem dX12_judge_5 : decode cX12_judge 5 = .ok (.iload_n 2, 1) := by decide +kernel
theorem dX12_judge_6 : decode cX12_judge 6 = .ok (.i2l, 1) := by decide +kernel
theorem dX12_judge_7 : decode cX12_judge 7 = .ok (.lconst 0, 1) := by decide +kernel
theorem dX12_judge_8 : decode cX12_judge 8 = .ok (.ldc2_w 354, 3) := by decide +kernel
theorem dX12_judge_11 : decode cX12_judge 11 = .ok (.invokestatic 154, 3) := by decide +kernel
theorem dX12_judge_14 : decode cX12_judge 14 = .ok (.ifCond .ne 6, 3) := by decide +kernel
theorem dX12_judge_17 : decode cX12_judge 17 = .ok (.bipush (-2), 2) := by decide +kernel
theorem dX12_judge_19 : decode cX12_judge 19 = .ok (.ireturn, 1) := by decide +kernel
theorem dX12_judge_20 : decode cX12_judge 20 = .ok (.aload_n 0, 1) := by decide +kernel
theorem dX12_judge_21 : decode cX12_judge 21 = .ok (.iload_n 1, 1) := by decide +kernel
theorem dX12_judge_22 : decode cX12_judge 22 = .ok (.invokevirtual 356, 3) := by decide +kernel
theorem dX12_judge_25 : decode cX12_judge 25 = .ok (.istore_n 3, 1) := by decide +kernel
theorem dX12_judge_26 : decode cX12_judge 26 = .ok (.iload_n 3, 1) := by decide +kernel
theorem dX12_judge_27 : decode cX12_judge 27 = .ok (.ifCond .eq 5, 3) := by decide +kernel
theorem dX12_judge_30 : decode cX12_judge 30 = .ok (.iload_n 3, 1) := by decide +kernel
theorem dX12_judge_31 : decode cX12_judge 31 = .ok (.ireturn, 1) := by decide +kernel
theorem dX12_judge_32 : decode cX12_judge 32 = .ok (.aload_n 0, 1) := by decide +kernel
theorem dX12_judge_33 : decode cX12_judge 33 = .ok (.invokevirtual 309, 3) := by decide +kernel
theorem dX12_judge_36 : decode cX12_judge 36 = .ok (.aload_n 0, 1) := by decide +kernel
theorem dX12_judge_37 : decode cX12_judge 37 = .ok (.iload_n 1, 1) := by decide +kernel
theorem dX12_judge_38 : decode cX12_judge 38 = .ok (.invokevirtual 359, 3) := by decide +kernel
theorem dX12_judge_41 : decode cX12_judge 41 = .ok (.istore 4, 2) := by decide +kernel
theorem dX12_judge_43 : decode cX12_judge 43 = .ok (.aload_n 0, 1) := by decide +kernel
theorem dX12_judge_44 : decode cX12_judge 44 = .ok (.invokevirtual 362, 3) := by decide +kernel
theorem dX12_judge_47 : decode cX12_judge 47 = .ok (.istore 5, 2) := by decide +kernel
theorem dX12_judge_49 : decode cX12_judge 49 = .ok (.iconst 0, 1) := by decide +kernel
theorem dX12_judge_50 : decode cX12_judge 50 = .ok (.istore 6, 2) := by decide +kernel
theorem dX12_judge_52 : decode cX12_judge 52 = .ok (.aload_n 0, 1) := by decide +kernel
theorem dX12_judge_53 : decode cX12_judge 53 = .ok (.getfield 13, 3) := by decide +kernel
theorem dX12_judge_56 : decode cX12_judge 56 = .ok (.iconst 4, 1) := by decide +kernel
theorem dX12_judge_57 : decode cX12_judge 57 = .ok (.iaload, 1) := by decide +kernel
theorem dX12_judge_58 : decode cX12_judge 58 = .ok (.iconst 1, 1) := by decide +kernel
theorem dX12_judge_59 : decode cX12_judge 59 = .ok (.isub, 1) := by decide +kernel
theorem dX12_judge_60 : decode cX12_judge 60 = .ok (.istore 7, 2) := by decide +kernel
theorem dX12_judge_62 : decode cX12_judge 62 = .ok (.iload 7, 2) := by decide +kernel
theorem dX12_judge_64 : decode cX12_judge 64 = .ok (.ifCond .lt 27, 3) := by decide +kernel
theorem dX12_judge_67 : decode cX12_judge 67 = .ok (.bipush 10, 2) := by decide +kernel
theorem dX12_judge_69 : decode cX12_judge 69 = .ok (.iload 6, 2) := by decide +kernel
theorem dX12_judge_71 : decode cX12_judge 71 = .ok (.imul, 1) := by decide +kernel
theorem dX12_judge_72 : decode cX12_judge 72 = .ok (.aload_n 0, 1) := by decide +kernel
theorem dX12_judge_73 : decode cX12_judge 73 = .ok (.getfield 13, 3) := by decide +kernel
theorem dX12_judge_76 : decode cX12_judge 76 = .ok (.bipush 62, 2) := by decide +kernel
theorem dX12_judge_78 : decode cX12_judge 78 = .ok (.iload 7, 2) := by decide +kernel
theorem dX12_judge_80 : decode cX12_judge 80 = .ok (.iadd, 1) := by decide +kernel
theorem dX12_judge_81 : decode cX12_judge 81 = .ok (.iaload, 1) := by decide +kernel
theorem dX12_judge_82 : decode cX12_judge 82 = .ok (.iadd, 1) := by decide +kernel
theorem dX12_judge_83 : decode cX12_judge 83 = .ok (.istore 6, 2) := by decide +kernel
theorem dX12_judge_85 : decode cX12_judge 85 = .ok (.iinc 7 (-1), 3) := by decide +kernel
theorem dX12_judge_88 : decode cX12_judge 88 = .ok (.goto (-26), 3) := by decide +kernel
theorem dX12_judge_91 : decode cX12_judge 91 = .ok (.aload_n 0, 1) := by decide +kernel
theorem dX12_judge_92 : decode cX12_judge 92 = .ok (.invokevirtual 365, 3) := by decide +kernel
theorem dX12_judge_95 : decode cX12_judge 95 = .ok (.iload_n 2, 1) := by decide +kernel
theorem dX12_judge_96 : decode cX12_judge 96 = .ok (.ifCond .ne 19, 3) := by decide +kernel
theorem dX12_judge_99 : decode cX12_judge 99 = .ok (.aload_n 0, 1) := by decide +kernel
theorem dX12_judge_100 : decode cX12_judge 100 = .ok (.getfield 344, 3) := by decide +kernel
theorem dX12_judge_103 : decode cX12_judge 103 = .ok (.ifCond .ne 7, 3) := by decide +kernel
theorem dX12_judge_106 : decode cX12_judge 106 = .ok (.iconst (-1), 1) := by decide +kernel
theorem dX12_judge_107 : decode cX12_judge 107 = .ok (.goto 32, 3) := by decide +kernel
theorem dX12_judge_110 : decode cX12_judge 110 = .ok (.iload 4, 2) := by decide +kernel
theorem dX12_judge_112 : decode cX12_judge 112 = .ok (.goto 27, 3) := by decide +kernel
theorem dX12_judge_115 : decode cX12_judge 115 = .ok (.iload_n 2, 1) := by decide +kernel
theorem dX12_judge_116 : decode cX12_judge 116 = .ok (.iconst 1, 1) := by decide +kernel
theorem dX12_judge_117 : decode cX12_judge 117 = .ok (.if_icmp .ne 10, 3) := by decide +kernel
theorem dX12_judge_120 : decode cX12_judge 120 = .ok (.aload_n 0, 1) := by decide +kernel
theorem dX12_judge_121 : decode cX12_judge 121 = .ok (.getfield 344, 3) := by decide +kernel
theorem dX12_judge_124 : decode cX12_judge 124 = .ok (.goto 15, 3) := by decide +kernel
theorem dX12_judge_127 : decode cX12_judge 127 = .ok (.iload_n 2, 1) := by decide +kernel
theorem dX12_judge_128 : decode cX12_judge 128 = .ok (.iconst 2, 1) := by decide +kernel
theorem dX12_judge_129 : decode cX12_judge 129 = .ok (.if_icmp .ne 8, 3) := by decide +kernel
theorem dX12_judge_132 : decode cX12_judge 132 = .ok (.iload 6, 2) := by decide +kernel
theorem dX12_judge_134 : decode cX12_judge 134 = .ok (.goto 5, 3) := by decide +kernel
theorem dX12_judge_137 : decode cX12_judge 137 = .ok (.iload 5, 2) := by decide +kernel
theorem dX12_judge_139 : decode cX12_judge 139 = .ok (.ireturn, 1) := by decide +kernel
theorem dX12_perform_0 : decode cX12_perform 0 = .ok (.aload_n 0, 1) := by decide +kernel
theorem dX12_perform_1 : decode cX12_perform 1 = .ok (.iconst 0, 1) := by decide +kernel
theorem dX12_perform_2 : decode cX12_perform 2 = .ok (.putfield 1, 3) := by decide +kernel
theorem dX12_perform_5 : decode cX12_perform 5 = .ok (.aload_n 0, 1) := by decide +kernel
theorem dX12_perform_6 : decode cX12_perform 6 = .ok (.iload_n 1, 1) := by decide +kernel
theorem dX12_perform_7 : decode cX12_perform 7 = .ok (.invokevirtual 356, 3) := by decide +kernel
theorem dX12_perform_10 : decode cX12_perform 10 = .ok (.istore_n 2, 1) := by decide +kernel
theorem dX12_perform_11 : decode cX12_perform 11 = .ok (.iload_n 2, 1) := by decide +kernel
theorem dX12_perform_12 : decode cX12_perform 12 = .ok (.ifCond .eq 5, 3) := by decide +kernel
theorem dX12_perform_15 : decode cX12_perform 15 = .ok (.iload_n 2, 1) := by decide +kernel
theorem dX12_perform_16 : decode cX12_perform 16 = .ok (.ireturn, 1) := by decide +kernel
theorem dX12_perform_17 : decode cX12_perform 17 = .ok (.aload_n 0, 1) := by decide +kernel
theorem dX12_perform_18 : decode cX12_perform 18 = .ok (.invokevirtual 309, 3) := by decide +kernel
theorem dX12_perform_21 : decode cX12_perform 21 = .ok (.aload_n 0, 1) := by decide +kernel
theorem dX12_perform_22 : decode cX12_perform 22 = .ok (.iload_n 1, 1) := by decide +kernel
theorem dX12_perform_23 : decode cX12_perform 23 = .ok (.invokevirtual 359, 3) := by decide +kernel
theorem dX12_perform_26 : decode cX12_perform 26 = .ok (.istore_n 3, 1) := by decide +kernel
theorem dX12_perform_27 : decode cX12_perform 27 = .ok (.iload_n 3, 1) := by decide +kernel
theorem dX12_perform_28 : decode cX12_perform 28 = .ok (.ifCond .le 7, 3) := by decide +kernel
theorem dX12_perform_31 : decode cX12_perform 31 = .ok (.aload_n 0, 1) := by decide +kernel
theorem dX12_perform_32 : decode cX12_perform 32 = .ok (.invokevirtual 316, 3) := by decide +kernel
theorem dX12_perform_35 : decode cX12_perform 35 = .ok (.iload_n 3, 1) := by decide +kernel
theorem dX12_perform_36 : decode cX12_perform 36 = .ok (.ireturn, 1) := by decide +kernel
theorem dX12_draw_0 : decode cX12_draw 0 = .ok (.aload_n 0, 1) := by decide +kernel
theorem dX12_draw_1 : decode cX12_draw 1 = .ok (.ldc_w 368, 3) := by decide +kernel
theorem dX12_draw_4 : decode cX12_draw 4 = .ok (.aload_n 0, 1) := by decide +kernel
theorem dX12_draw_5 : decode cX12_draw 5 = .ok (.getfield 369, 3) := by decide +kernel
theorem dX12_draw_8 : decode cX12_draw 8 = .ok (.imul, 1) := by decide +kernel
theorem dX12_draw_9 : decode cX12_draw 9 = .ok (.sipush 12345, 3) := by decide +kernel
theorem dX12_draw_12 : decode cX12_draw 12 = .ok (.iadd, 1) := by decide +kernel
theorem dX12_draw_13 : decode cX12_draw 13 = .ok (.putfield 369, 3) := by decide +kernel
theorem dX12_draw_16 : decode cX12_draw 16 = .ok (.aload_n 0, 1) := by decide +kernel
theorem dX12_draw_17 : decode cX12_draw 17 = .ok (.getfield 369, 3) := by decide +kernel
theorem dX12_draw_20 : decode cX12_draw 20 = .ok (.bipush 16, 2) := by decide +kernel
theorem dX12_draw_22 : decode cX12_draw 22 = .ok (.iushr, 1) := by decide +kernel
theorem dX12_draw_23 : decode cX12_draw 23 = .ok (.iload_n 1, 1) := by decide +kernel
theorem dX12_draw_24 : decode cX12_draw 24 = .ok (.irem, 1) := by decide +kernel
theorem dX12_draw_25 : decode cX12_draw 25 = .ok (.ireturn, 1) := by decide +kernel
theorem dX12_drawn_0 : decode cX12_drawn 0 = .ok (.aload_n 0, 1) := by decide +kernel
theorem dX12_drawn_1 : decode cX12_drawn 1 = .ok (.bipush 6, 2) := by decide +kernel
theorem dX12_drawn_3 : decode cX12_drawn 3 = .ok (.invokevirtual 372, 3) := by decide +kernel
theorem dX12_drawn_6 : decode cX12_drawn 6 = .ok (.istore_n 1, 1) := by decide +kernel
theorem dX12_drawn_7 : decode cX12_drawn 7 = .ok (.iload_n 1, 1) := by decide +kernel
theorem dX12_drawn_8 : decode cX12_drawn 8 = .ok (.ifCond .ne 13, 3) := by decide +kernel
theorem dX12_drawn_11 : decode cX12_drawn 11 = .ok (.bipush 10, 2) := by decide +kernel
theorem dX12_drawn_13 : decode cX12_drawn 13 = .ok (.aload_n 0, 1) := by decide +kernel
theorem dX12_drawn_14 : decode cX12_drawn 14 = .ok (.bipush 10, 2) := by decide +kernel
theorem dX12_drawn_16 : decode cX12_drawn 16 = .ok (.invokevirtual 372, 3) := by decide +kernel
theorem dX12_drawn_19 : decode cX12_drawn 19 = .ok (.iadd, 1) := by decide +kernel
theorem dX12_drawn_20 : decode cX12_drawn 20 = .ok (.ireturn, 1) := by decide +kernel
theorem dX12_drawn_21 : decode cX12_drawn 21 = .ok (.aload_n 0, 1) := by decide +kernel
theorem dX12_drawn_22 : decode cX12_drawn 22 = .ok (.bipush 8, 2) := by decide +kernel
theorem dX12_drawn_24 : decode cX12_drawn 24 = .ok (.invokevirtual 372, 3) := by decide +kernel
theorem dX12_drawn_27 : decode cX12_drawn 27 = .ok (.istore_n 2, 1) := by decide +kernel
theorem dX12_drawn_28 : decode cX12_drawn 28 = .ok (.aload_n 0, 1) := by decide +kernel
theorem dX12_drawn_29 : decode cX12_drawn 29 = .ok (.bipush 8, 2) := by decide +kernel
theorem dX12_drawn_31 : decode cX12_drawn 31 = .ok (.invokevirtual 372, 3) := by decide +kernel
theorem dX12_drawn_34 : decode cX12_drawn 34 = .ok (.istore_n 3, 1) := by decide +kernel
theorem dX12_drawn_35 : decode cX12_drawn 35 = .ok (.iload_n 1, 1) := by decide +kernel
theorem dX12_drawn_36 : decode cX12_drawn 36 = .ok (.iconst 1, 1) := by decide +kernel
theorem dX12_drawn_37 : decode cX12_drawn 37 = .ok (.if_icmp .ne 13, 3) := by decide +kernel
theorem dX12_drawn_40 : decode cX12_drawn 40 = .ok (.bipush 100, 2) := by decide +kernel
theorem dX12_drawn_42 : decode cX12_drawn 42 = .ok (.bipush 10, 2) := by decide +kernel
theorem dX12_drawn_44 : decode cX12_drawn 44 = .ok (.iload_n 2, 1) := by decide +kernel
theorem dX12_drawn_45 : decode cX12_drawn 45 = .ok (.imul, 1) := by decide +kernel
theorem dX12_drawn_46 : decode cX12_drawn 46 = .ok (.iadd, 1) := by decide +kernel
theorem dX12_drawn_47 : decode cX12_drawn 47 = .ok (.iload_n 3, 1) := by decide +kernel
theorem dX12_drawn_48 : decode cX12_drawn 48 = .ok (.iadd, 1) := by decide +kernel
theorem dX12_drawn_49 : decode cX12_drawn 49 = .ok (.ireturn, 1) := by decide +kernel
theorem dX12_drawn_50 : decode cX12_drawn 50 = .ok (.aload_n 0, 1) := by decide +kernel
theorem dX12_drawn_51 : decode cX12_drawn 51 = .ok (.iconst 4, 1) := by decide +kernel
theorem dX12_drawn_52 : decode cX12_drawn 52 = .ok (.invokevirtual 372, 3) := by decide +kernel
theorem dX12_drawn_55 : decode cX12_drawn 55 = .ok (.istore 4, 2) := by decide +kernel
theorem dX12_drawn_57 : decode cX12_drawn 57 = .ok (.sipush 10000, 3) := by decide +kernel
theorem dX12_drawn_60 : decode cX12_drawn 60 = .ok (.sipush 1000, 3) := by decide +kernel
theorem dX12_drawn_63 : decode cX12_drawn 63 = .ok (.iload_n 2, 1) := by decide +kernel
theorem dX12_drawn_64 : decode cX12_drawn 64 = .ok (.imul, 1) := by decide +kernel
theorem dX12_drawn_65 : decode cX12_drawn 65 = .ok (.iadd, 1) := by decide +kernel
theorem dX12_drawn_66 : decode cX12_drawn 66 = .ok (.bipush 100, 2) := by decide +kernel
theorem dX12_drawn_68 : decode cX12_drawn 68 = .ok (.iload_n 3, 1) := by decide +kernel
theorem dX12_drawn_69 : decode cX12_drawn 69 = .ok (.imul, 1) := by decide +kernel
theorem dX12_drawn_70 : decode cX12_drawn 70 = .ok (.iadd, 1) := by decide +kernel
theorem dX12_drawn_71 : decode cX12_drawn 71 = .ok (.bipush 10, 2) := by decide +kernel
theorem dX12_drawn_73 : decode cX12_drawn 73 = .ok (.iload 4, 2) := by decide +kernel
theorem dX12_drawn_75 : decode cX12_drawn 75 = .ok (.imul, 1) := by decide +kernel
theorem dX12_drawn_76 : decode cX12_drawn 76 = .ok (.iadd, 1) := by decide +kernel
theorem dX12_drawn_77 : decode cX12_drawn 77 = .ok (.aload_n 0, 1) := by decide +kernel
theorem dX12_drawn_78 : decode cX12_drawn 78 = .ok (.bipush 6, 2) := by decide +kernel
theorem dX12_drawn_80 : decode cX12_drawn 80 = .ok (.invokevirtual 372, 3) := by decide +kernel
theorem dX12_drawn_83 : decode cX12_drawn 83 = .ok (.iadd, 1) := by decide +kernel
theorem dX12_drawn_84 : decode cX12_drawn 84 = .ok (.ireturn, 1) := by decide +kernel
theorem dX12_year_0 : decode cX12_year 0 = .ok (.aload_n 0, 1) := by decide +kernel
theorem dX12_year_1 : decode cX12_year 1 = .ok (.iconst 0, 1) := by decide +kernel
theorem dX12_year_2 : decode cX12_year 2 = .ok (.putfield 1, 3) := by decide +kernel
theorem dX12_year_5 : decode cX12_year 5 = .ok (.iload_n 2, 1) := by decide +kernel
theorem dX12_year_6 : decode cX12_year 6 = .ok (.i2l, 1) := by decide +kernel
theorem dX12_year_7 : decode cX12_year 7 = .ok (.lconst 1, 1) := by decide +kernel
theorem dX12_year_8 : decode cX12_year 8 = .ok (.ldc2_w 375, 3) := by decide +kernel
theorem dX12_year_11 : decode cX12_year 11 = .ok (.invokestatic 154, 3) := by decide +kernel
theorem dX12_year_14 : decode cX12_year 14 = .ok (.ifCond .ne 6, 3) := by decide +kernel
theorem dX12_year_17 : decode cX12_year 17 = .ok (.bipush (-3), 2) := by decide +kernel
theorem dX12_year_19 : decode cX12_year 19 = .ok (.ireturn, 1) := by decide +kernel
theorem dX12_year_20 : decode cX12_year 20 = .ok (.aload_n 0, 1) := by decide +kernel
theorem dX12_year_21 : decode cX12_year 21 = .ok (.invokevirtual 309, 3) := by decide +kernel
theorem dX12_year_24 : decode cX12_year 24 = .ok (.aload_n 0, 1) := by decide +kernel
theorem dX12_year_25 : decode cX12_year 25 = .ok (.iload_n 1, 1) := by decide +kernel
theorem dX12_year_26 : decode cX12_year 26 = .ok (.putfield 369, 3) := by decide +kernel
theorem dX12_year_29 : decode cX12_year 29 = .ok (.iconst 0, 1) := by decide +kernel
theorem dX12_year_30 : decode cX12_year 30 = .ok (.istore_n 3, 1) := by decide +kernel
theorem dX12_year_31 : decode cX12_year 31 = .ok (.iconst 0, 1) := by decide +kernel
theorem dX12_year_32 : decode cX12_year 32 = .ok (.istore 4, 2) := by decide +kernel
theorem dX12_year_34 : decode cX12_year 34 = .ok (.iload 4, 2) := by decide +kernel
theorem dX12_year_36 : decode cX12_year 36 = .ok (.iload_n 2, 1) := by decide +kernel
theorem dX12_year_37 : decode cX12_year 37 = .ok (.if_icmp .ge 37, 3) := by decide +kernel
theorem dX12_year_40 : decode cX12_year 40 = .ok (.aload_n 0, 1) := by decide +kernel
theorem dX12_year_41 : decode cX12_year 41 = .ok (.invokevirtual 377, 3) := by decide +kernel
theorem dX12_year_44 : decode cX12_year 44 = .ok (.istore 5, 2) := by decide +kernel
theorem dX12_year_46 : decode cX12_year 46 = .ok (.aload_n 0, 1) := by decide +kernel
theorem dX12_year_47 : decode cX12_year 47 = .ok (.iload 5, 2) := by decide +kernel
theorem dX12_year_49 : decode cX12_year 49 = .ok (.i2l, 1) := by decide +kernel
theorem dX12_year_50 : decode cX12_year 50 = .ok (.invokevirtual 347, 3) := by decide +kernel
theorem dX12_year_53 : decode cX12_year 53 = .ok (.ifCond .eq 6, 3) := by decide +kernel
theorem dX12_year_56 : decode cX12_year 56 = .ok (.goto 12, 3) := by decide +kernel
theorem dX12_year_59 : decode cX12_year 59 = .ok (.aload_n 0, 1) := by decide +kernel
theorem dX12_year_60 : decode cX12_year 60 = .ok (.iload 5, 2) := by decide +kernel
theorem dX12_year_62 : decode cX12_year 62 = .ok (.invokevirtual 351, 3) := by decide +kernel
theorem dX12_year_65 : decode cX12_year 65 = .ok (.iinc 3 1, 3) := by decide +kernel
theorem dX12_year_68 : decode cX12_year 68 = .ok (.iinc 4 1, 3) := by decide +kernel
theorem dX12_year_71 : decode cX12_year 71 = .ok (.goto (-37), 3) := by decide +kernel
theorem dX12_year_74 : decode cX12_year 74 = .ok (.iload_n 3, 1) := by decide +kernel
theorem dX12_year_75 : decode cX12_year 75 = .ok (.ifCond .le 7, 3) := by decide +kernel
theorem dX12_year_78 : decode cX12_year 78 = .ok (.aload_n 0, 1) := by decide +kernel
theorem dX12_year_79 : decode cX12_year 79 = .ok (.invokevirtual 316, 3) := by decide +kernel
theorem dX12_year_82 : decode cX12_year 82 = .ok (.iload_n 3, 1) := by decide +kernel
theorem dX12_year_83 : decode cX12_year 83 = .ok (.ireturn, 1) := by decide +kernel
theorem dX12_laysBears_0 : decode cX12_laysBears 0 = .ok (.aload_n 0, 1) := by decide +kernel
theorem dX12_laysBears_1 : decode cX12_laysBears 1 = .ok (.aload_n 0, 1) := by decide +kernel
theorem dX12_laysBears_2 : decode cX12_laysBears 2 = .ok (.getfield 13, 3) := by decide +kernel
theorem dX12_laysBears_5 : decode cX12_laysBears 5 = .ok (.bipush 78, 2) := by decide +kernel
theorem dX12_laysBears_7 : decode cX12_laysBears 7 = .ok (.iaload, 1) := by decide +kernel
theorem dX12_laysBears_8 : decode cX12_laysBears 8 = .ok (.invokevirtual 285, 3) := by decide +kernel
theorem dX12_laysBears_11 : decode cX12_laysBears 11 = .ok (.iconst 0, 1) := by decide +kernel
theorem dX12_laysBears_12 : decode cX12_laysBears 12 = .ok (.istore_n 2, 1) := by decide +kernel
theorem dX12_laysBears_13 : decode cX12_laysBears 13 = .ok (.iload_n 2, 1) := by decide +kernel
theorem dX12_laysBears_14 : decode cX12_laysBears 14 = .ok (.bipush 6, 2) := by decide +kernel
theorem dX12_laysBears_16 : decode cX12_laysBears 16 = .ok (.if_icmp .ge 63, 3) := by decide +kernel
theorem dX12_laysBears_19 : decode cX12_laysBears 19 = .ok (.iconst 0, 1) := by decide +kernel
theorem dX12_laysBears_20 : decode cX12_laysBears 20 = .ok (.istore_n 3, 1) := by decide +kernel
theorem dX12_laysBears_21 : decode cX12_laysBears 21 = .ok (.iload_n 3, 1) := by decide +kernel
theorem dX12_laysBears_22 : decode cX12_laysBears 22 = .ok (.bipush 6, 2) := by decide +kernel
theorem dX12_laysBears_24 : decode cX12_laysBears 24 = .ok (.if_icmp .ge 49, 3) := by decide +kernel
theorem dX12_laysBears_27 : decode cX12_laysBears 27 = .ok (.aload_n 0, 1) := by decide +kernel
theorem dX12_laysBears_28 : decode cX12_laysBears 28 = .ok (.getfield 42, 3) := by decide +kernel
theorem dX12_laysBears_31 : decode cX12_laysBears 31 = .ok (.bipush 6, 2) := by decide +kernel
theorem dX12_laysBears_33 : decode cX12_laysBears 33 = .ok (.iload_n 2, 1) := by decide +kernel
theorem dX12_laysBears_34 : decode cX12_laysBears 34 = .ok (.imul, 1) := by decide +kernel
theorem dX12_laysBears_35 : decode cX12_laysBears 35 = .ok (.iload_n 3, 1) := by decide +kernel
theorem dX12_laysBears_36 : decode cX12_laysBears 36 = .ok (.iadd, 1) := by decide +kernel
theorem dX12_laysBears_37 : decode cX12_laysBears 37 = .ok (.aload_n 0, 1) := by decide +kernel
theorem dX12_laysBears_38 : decode cX12_laysBears 38 = .ok (.iload_n 2, 1) := by decide +kernel
theorem dX12_laysBears_39 : decode cX12_laysBears 39 = .ok (.i2l, 1) := by decide +kernel
theorem dX12_laysBears_40 : decode cX12_laysBears 40 = .ok (.invokevirtual 279, 3) := by decide +kernel
theorem dX12_laysBears_43 : decode cX12_laysBears 43 = .ok (.ifCond .eq 22, 3) := by decide +kernel
theorem dX12_laysBears_46 : decode cX12_laysBears 46 = .ok (.aload_n 0, 1) := by decide +kernel
theorem dX12_laysBears_47 : decode cX12_laysBears 47 = .ok (.iload_n 3, 1) := by decide +kernel
theorem dX12_laysBears_48 : decode cX12_laysBears 48 = .ok (.i2l, 1) := by decide +kernel
theorem dX12_laysBears_49 : decode cX12_laysBears 49 = .ok (.invokevirtual 279, 3) := by decide +kernel
theorem dX12_laysBears_52 : decode cX12_laysBears 52 = .ok (.ifCond .eq 13, 3) := by decide +kernel
theorem dX12_laysBears_55 : decode cX12_laysBears 55 = .ok (.aload_n 0, 1) := by decide +kernel
theorem dX12_laysBears_56 : decode cX12_laysBears 56 = .ok (.iload_n 1, 1) := by decide +kernel
theorem dX12_laysBears_57 : decode cX12_laysBears 57 = .ok (.iload_n 2, 1) := by decide +kernel
theorem dX12_laysBears_58 : decode cX12_laysBears 58 = .ok (.iload_n 3, 1) := by decide +kernel
theorem dX12_laysBears_59 : decode cX12_laysBears 59 = .ok (.invokevirtual 306, 3) := by decide +kernel
theorem dX12_laysBears_62 : decode cX12_laysBears 62 = .ok (.goto 4, 3) := by decide +kernel
theorem dX12_laysBears_65 : decode cX12_laysBears 65 = .ok (.iconst 0, 1) := by decide +kernel
theorem dX12_laysBears_66 : decode cX12_laysBears 66 = .ok (.iastore, 1) := by decide +kernel
theorem dX12_laysBears_67 : decode cX12_laysBears 67 = .ok (.iinc 3 1, 3) := by decide +kernel
theorem dX12_laysBears_70 : decode cX12_laysBears 70 = .ok (.goto (-49), 3) := by decide +kernel
theorem dX12_laysBears_73 : decode cX12_laysBears 73 = .ok (.iinc 2 1, 3) := by decide +kernel
theorem dX12_laysBears_76 : decode cX12_laysBears 76 = .ok (.goto (-63), 3) := by decide +kernel
theorem dX12_laysBears_79 : decode cX12_laysBears 79 = .ok (.return_, 1) := by decide +kernel
theorem dX12_laysStill_0 : decode cX12_laysStill 0 = .ok (.aload_n 0, 1) := by decide +kernel
theorem dX12_laysStill_1 : decode cX12_laysStill 1 = .ok (.iload_n 1, 1) := by decide +kernel
theorem dX12_laysStill_2 : decode cX12_laysStill 2 = .ok (.invokevirtual 380, 3) := by decide +kernel
theorem dX12_laysStill_5 : decode cX12_laysStill 5 = .ok (.iconst 0, 1) := by decide +kernel
theorem dX12_laysStill_6 : decode cX12_laysStill 6 = .ok (.istore_n 3, 1) := by decide +kernel
theorem dX12_laysStill_7 : decode cX12_laysStill 7 = .ok (.iload_n 3, 1) := by decide +kernel
theorem dX12_laysStill_8 : decode cX12_laysStill 8 = .ok (.bipush 6, 2) := by decide +kernel
theorem dX12_laysStill_10 : decode cX12_laysStill 10 = .ok (.if_icmp .ge 27, 3) := by decide +kernel
theorem dX12_laysStill_13 : decode cX12_laysStill 13 = .ok (.aload_n 0, 1) := by decide +kernel
theorem dX12_laysStill_14 : decode cX12_laysStill 14 = .ok (.getfield 45, 3) := by decide +kernel
theorem dX12_laysStill_17 : decode cX12_laysStill 17 = .ok (.iload_n 3, 1) := by decide +kernel
theorem dX12_laysStill_18 : decode cX12_laysStill 18 = .ok (.iload_n 3, 1) := by decide +kernel
theorem dX12_laysStill_19 : decode cX12_laysStill 19 = .ok (.iload_n 2, 1) := by decide +kernel
theorem dX12_laysStill_20 : decode cX12_laysStill 20 = .ok (.if_icmp .ne 7, 3) := by decide +kernel
theorem dX12_laysStill_23 : decode cX12_laysStill 23 = .ok (.iconst 0, 1) := by decide +kernel
theorem dX12_laysStill_24 : decode cX12_laysStill 24 = .ok (.goto 6, 3) := by decide +kernel
theorem dX12_laysStill_27 : decode cX12_laysStill 27 = .ok (.ldc_w 383, 3) := by decide +kernel
theorem dX12_laysStill_30 : decode cX12_laysStill 30 = .ok (.iastore, 1) := by decide +kernel
theorem dX12_laysStill_31 : decode cX12_laysStill 31 = .ok (.iinc 3 1, 3) := by decide +kernel
theorem dX12_laysStill_34 : decode cX12_laysStill 34 = .ok (.goto (-27), 3) := by decide +kernel
theorem dX12_laysStill_37 : decode cX12_laysStill 37 = .ok (.iconst 1, 1) := by decide +kernel
theorem dX12_laysStill_38 : decode cX12_laysStill 38 = .ok (.istore_n 3, 1) := by decide +kernel
theorem dX12_laysStill_39 : decode cX12_laysStill 39 = .ok (.iload_n 3, 1) := by decide +kernel
theorem dX12_laysStill_40 : decode cX12_laysStill 40 = .ok (.ifCond .eq 109, 3) := by decide +kernel
theorem dX12_laysStill_43 : decode cX12_laysStill 43 = .ok (.iconst 0, 1) := by decide +kernel
theorem dX12_laysStill_44 : decode cX12_laysStill 44 = .ok (.istore_n 3, 1) := by decide +kernel
theorem dX12_laysStill_45 : decode cX12_laysStill 45 = .ok (.iconst 0, 1) := by decide +kernel
theorem dX12_laysStill_46 : decode cX12_laysStill 46 = .ok (.istore 4, 2) := by decide +kernel
theorem dX12_laysStill_48 : decode cX12_laysStill 48 = .ok (.iload 4, 2) := by decide +kernel
theorem dX12_laysStill_50 : decode cX12_laysStill 50 = .ok (.bipush 6, 2) := by decide +kernel
theorem dX12_laysStill_52 : decode cX12_laysStill 52 = .ok (.if_icmp .ge 94, 3) := by decide +kernel
theorem dX12_laysStill_55 : decode cX12_laysStill 55 = .ok (.iconst 0, 1) := by decide +kernel
theorem dX12_laysStill_56 : decode cX12_laysStill 56 = .ok (.istore 5, 2) := by decide +kernel
theorem dX12_laysStill_58 : decode cX12_laysStill 58 = .ok (.iload 5, 2) := by decide +kernel
theorem dX12_laysStill_60 : decode cX12_laysStill 60 = .ok (.bipush 6, 2) := by decide +kernel
theorem dX12_laysStill_62 : decode cX12_laysStill 62 = .ok (.if_icmp .ge 78, 3) := by decide +kernel
theorem dX12_laysStill_65 : decode cX12_laysStill 65 = .ok (.aload_n 0, 1) := by decide +kernel
theorem dX12_laysStill_66 : decode cX12_laysStill 66 = .ok (.getfield 42, 3) := by decide +kernel
theorem dX12_laysStill_69 : decode cX12_laysStill 69 = .ok (.bipush 6, 2) := by decide +kernel
theorem dX12_laysStill_71 : decode cX12_laysStill 71 = .ok (.iload 4, 2) := by decide +kernel
theorem dX12_laysStill_73 : decode cX12_laysStill 73 = .ok (.imul, 1) := by decide +kernel
theorem dX12_laysStill_74 : decode cX12_laysStill 74 = .ok (.iload 5, 2) := by decide +kernel
theorem dX12_laysStill_76 : decode cX12_laysStill 76 = .ok (.iadd, 1) := by decide +kernel
theorem dX12_laysStill_77 : decode cX12_laysStill 77 = .ok (.iaload, 1) := by decide +kernel
theorem dX12_laysStill_78 : decode cX12_laysStill 78 = .ok (.ifCond .eq 56, 3) := by decide +kernel
theorem dX12_laysStill_81 : decode cX12_laysStill 81 = .ok (.aload_n 0, 1) := by decide +kernel
theorem dX12_laysStill_82 : decode cX12_laysStill 82 = .ok (.getfield 45, 3) := by decide +kernel
theorem dX12_laysStill_85 : decode cX12_laysStill 85 = .ok (.iload 5, 2) := by decide +kernel
theorem dX12_laysStill_87 : decode cX12_laysStill 87 = .ok (.iaload, 1) := by decide +kernel
theorem dX12_laysStill_88 : decode cX12_laysStill 88 = .ok (.ldc_w 383, 3) := by decide +kernel
theorem dX12_laysStill_91 : decode cX12_laysStill 91 = .ok (.if_icmp .eq 43, 3) := by decide +kernel
theorem dX12_laysStill_94 : decode cX12_laysStill 94 = .ok (.aload_n 0, 1) := by decide +kernel
theorem dX12_laysStill_95 : decode cX12_laysStill 95 = .ok (.getfield 45, 3) := by decide +kernel
theorem dX12_laysStill_98 : decode cX12_laysStill 98 = .ok (.iload 5, 2) := by decide +kernel
theorem dX12_laysStill_100 : decode cX12_laysStill 100 = .ok (.iaload, 1) := by decide +kernel
theorem dX12_laysStill_101 : decode cX12_laysStill 101 = .ok (.iconst 1, 1) := by decide +kernel
theorem dX12_laysStill_102 : decode cX12_laysStill 102 = .ok (.iadd, 1) := by decide +kernel
theorem dX12_laysStill_103 : decode cX12_laysStill 103 = .ok (.aload_n 0, 1) := by decide +kernel
theorem dX12_laysStill_104 : decode cX12_laysStill 104 = .ok (.getfield 45, 3) := by decide +kernel
theorem dX12_laysStill_107 : decode cX12_laysStill 107 = .ok (.iload 4, 2) := by decide +kernel
theorem dX12_laysStill_109 : decode cX12_laysStill 109 = .ok (.iaload, 1) := by decide +kernel
theorem dX12_laysStill_110 : decode cX12_laysStill 110 = .ok (.if_icmp .lt 6, 3) := by decide +kernel
theorem dX12_laysStill_113 : decode cX12_laysStill 113 = .ok (.goto 21, 3) := by decide +kernel
theorem dX12_laysStill_116 : decode cX12_laysStill 116 = .ok (.aload_n 0, 1) := by decide +kernel
theorem dX12_laysStill_117 : decode cX12_laysStill 117 = .ok (.getfield 45, 3) := by decide +kernel
theorem dX12_laysStill_120 : decode cX12_laysStill 120 = .ok (.iload 4, 2) := by decide +kernel
theorem dX12_laysStill_122 : decode cX12_laysStill 122 = .ok (.aload_n 0, 1) := by decide +kernel
theorem dX12_laysStill_123 : decode cX12_laysStill 123 = .ok (.getfield 45, 3) := by decide +kernel
theorem dX12_laysStill_126 : decode cX12_laysStill 126 = .ok (.iload 5, 2) := by decide +kernel
theorem dX12_laysStill_128 : decode cX12_laysStill 128 = .ok (.iaload, 1) := by decide +kernel
theorem dX12_laysStill_129 : decode cX12_laysStill 129 = .ok (.iconst 1, 1) := by decide +kernel
theorem dX12_laysStill_130 : decode cX12_laysStill 130 = .ok (.iadd, 1) := by decide +kernel
theorem dX12_laysStill_131 : decode cX12_laysStill 131 = .ok (.iastore, 1) := by decide +kernel
theorem dX12_laysStill_132 : decode cX12_laysStill 132 = .ok (.iconst 1, 1) := by decide +kernel
theorem dX12_laysStill_133 : decode cX12_laysStill 133 = .ok (.istore_n 3, 1) := by decide +kernel
theorem dX12_laysStill_134 : decode cX12_laysStill 134 = .ok (.iinc 5 1, 3) := by decide +kernel
theorem dX12_laysStill_137 : decode cX12_laysStill 137 = .ok (.goto (-79), 3) := by decide +kernel
theorem dX12_laysStill_140 : decode cX12_laysStill 140 = .ok (.iinc 4 1, 3) := by decide +kernel
theorem dX12_laysStill_143 : decode cX12_laysStill 143 = .ok (.goto (-95), 3) := by decide +kernel
theorem dX12_laysStill_146 : decode cX12_laysStill 146 = .ok (.goto (-107), 3) := by decide +kernel
theorem dX12_laysStill_149 : decode cX12_laysStill 149 = .ok (.aload_n 0, 1) := by decide +kernel
theorem dX12_laysStill_150 : decode cX12_laysStill 150 = .ok (.getfield 45, 3) := by decide +kernel
theorem dX12_laysStill_153 : decode cX12_laysStill 153 = .ok (.aload_n 0, 1) := by decide +kernel
theorem dX12_laysStill_154 : decode cX12_laysStill 154 = .ok (.getfield 13, 3) := by decide +kernel
theorem dX12_laysStill_157 : decode cX12_laysStill 157 = .ok (.bipush 62, 2) := by decide +kernel
theorem dX12_laysStill_159 : decode cX12_laysStill 159 = .ok (.iload_n 1, 1) := by decide +kernel
theorem dX12_laysStill_160 : decode cX12_laysStill 160 = .ok (.iadd, 1) := by decide +kernel
theorem dX12_laysStill_161 : decode cX12_laysStill 161 = .ok (.iaload, 1) := by decide +kernel
theorem dX12_laysStill_162 : decode cX12_laysStill 162 = .ok (.iaload, 1) := by decide +kernel
theorem dX12_laysStill_163 : decode cX12_laysStill 163 = .ok (.ireturn, 1) := by decide +kernel
theorem dX12_toldFar_0 : decode cX12_toldFar 0 = .ok (.iload_n 0, 1) := by decide +kernel
theorem dX12_toldFar_1 : decode cX12_toldFar 1 = .ok (.ldc_w 383, 3) := by decide +kernel
theorem dX12_toldFar_4 : decode cX12_toldFar 4 = .ok (.if_icmp .ne 7, 3) := by decide +kernel
theorem dX12_toldFar_7 : decode cX12_toldFar 7 = .ok (.iconst (-1), 1) := by decide +kernel
theorem dX12_toldFar_8 : decode cX12_toldFar 8 = .ok (.goto 4, 3) := by decide +kernel
theorem dX12_toldFar_11 : decode cX12_toldFar 11 = .ok (.iload_n 0, 1) := by decide +kernel
theorem dX12_toldFar_12 : decode cX12_toldFar 12 = .ok (.ireturn, 1) := by decide +kernel
theorem dX12_noCoin_0 : decode cX12_noCoin 0 = .ok (.aload_n 0, 1) := by decide +kernel
theorem dX12_noCoin_1 : decode cX12_noCoin 1 = .ok (.iload_n 1, 1) := by decide +kernel
theorem dX12_noCoin_2 : decode cX12_noCoin 2 = .ok (.i2l, 1) := by decide +kernel
theorem dX12_noCoin_3 : decode cX12_noCoin 3 = .ok (.invokevirtual 276, 3) := by decide +kernel
theorem dX12_noCoin_6 : decode cX12_noCoin 6 = .ok (.ifCond .eq 16, 3) := by decide +kernel
theorem dX12_noCoin_9 : decode cX12_noCoin 9 = .ok (.aload_n 0, 1) := by decide +kernel
theorem dX12_noCoin_10 : decode cX12_noCoin 10 = .ok (.iload_n 2, 1) := by decide +kernel
theorem dX12_noCoin_11 : decode cX12_noCoin 11 = .ok (.i2l, 1) := by decide +kernel
theorem dX12_noCoin_12 : decode cX12_noCoin 12 = .ok (.invokevirtual 279, 3) := by decide +kernel
theorem dX12_noCoin_15 : decode cX12_noCoin 15 = .ok (.ifCond .eq 7, 3) := by decide +kernel
theorem dX12_noCoin_18 : decode cX12_noCoin 18 = .ok (.iconst 0, 1) := by decide +kernel
theorem dX12_noCoin_19 : decode cX12_noCoin 19 = .ok (.goto 5, 3) := by decide +kernel
theorem dX12_noCoin_22 : decode cX12_noCoin 22 = .ok (.bipush (-2), 2) := by decide +kernel
theorem dX12_noCoin_24 : decode cX12_noCoin 24 = .ok (.ireturn, 1) := by decide +kernel
theorem dX12_soonest_0 : decode cX12_soonest 0 = .ok (.aload_n 0, 1) := by decide +kernel
theorem dX12_soonest_1 : decode cX12_soonest 1 = .ok (.iconst 0, 1) := by decide +kernel
theorem dX12_soonest_2 : decode cX12_soonest 2 = .ok (.putfield 1, 3) := by decide +kernel
theorem dX12_soonest_5 : decode cX12_soonest 5 = .ok (.aload_n 0, 1) := by decide +kernel
theorem dX12_soonest_6 : decode cX12_soonest 6 = .ok (.iload_n 1, 1) := by decide +kernel
theorem dX12_soonest_7 : decode cX12_soonest 7 = .ok (.iload_n 2, 1) := by decide +kernel
theorem dX12_soonest_8 : decode cX12_soonest 8 = .ok (.invokevirtual 384, 3) := by decide +kernel
theorem dX12_soonest_11 : decode cX12_soonest 11 = .ok (.ifCond .eq 8, 3) := by decide +kernel
theorem dX12_soonest_14 : decode cX12_soonest 14 = .ok (.bipush (-2), 2) := by decide +kernel
theorem dX12_soonest_16 : decode cX12_soonest 16 = .ok (.goto 12, 3) := by decide +kernel
theorem dX12_soonest_19 : decode cX12_soonest 19 = .ok (.aload_n 0, 1) := by decide +kernel
theorem dX12_soonest_20 : decode cX12_soonest 20 = .ok (.iload_n 1, 1) := by decide +kernel
theorem dX12_soonest_21 : decode cX12_soonest 21 = .ok (.iload_n 2, 1) := by decide +kernel
theorem dX12_soonest_22 : decode cX12_soonest 22 = .ok (.invokevirtual 387, 3) := by decide +kernel
theorem dX12_soonest_25 : decode cX12_soonest 25 = .ok (.invokestatic 390, 3) := by decide +kernel
theorem dX12_soonest_28 : decode cX12_soonest 28 = .ok (.ireturn, 1) := by decide +kernel
theorem dX12_deedOf_0 : decode cX12_deedOf 0 = .ok (.sipush 10000, 3) := by decide +kernel
theorem dX12_deedOf_3 : decode cX12_deedOf 3 = .ok (.sipush 1000, 3) := by decide +kernel
theorem dX12_deedOf_6 : decode cX12_deedOf 6 = .ok (.iload_n 0, 1) := by decide +kernel
theorem dX12_deedOf_7 : decode cX12_deedOf 7 = .ok (.imul, 1) := by decide +kernel
theorem dX12_deedOf_8 : decode cX12_deedOf 8 = .ok (.iadd, 1) := by decide +kernel
theorem dX12_deedOf_9 : decode cX12_deedOf 9 = .ok (.bipush 100, 2) := by decide +kernel
theorem dX12_deedOf_11 : decode cX12_deedOf 11 = .ok (.iload_n 1, 1) := by decide +kernel
theorem dX12_deedOf_12 : decode cX12_deedOf 12 = .ok (.imul, 1) := by decide +kernel
theorem dX12_deedOf_13 : decode cX12_deedOf 13 = .ok (.iadd, 1) := by decide +kernel
theorem dX12_deedOf_14 : decode cX12_deedOf 14 = .ok (.bipush 10, 2) := by decide +kernel
theorem dX12_deedOf_16 : decode cX12_deedOf 16 = .ok (.iload_n 2, 1) := by decide +kernel
theorem dX12_deedOf_17 : decode cX12_deedOf 17 = .ok (.imul, 1) := by decide +kernel
theorem dX12_deedOf_18 : decode cX12_deedOf 18 = .ok (.iadd, 1) := by decide +kernel
theorem dX12_deedOf_19 : decode cX12_deedOf 19 = .ok (.iload_n 3, 1) := by decide +kernel
theorem dX12_deedOf_20 : decode cX12_deedOf 20 = .ok (.iadd, 1) := by decide +kernel
theorem dX12_deedOf_21 : decode cX12_deedOf 21 = .ok (.ireturn, 1) := by decide +kernel
theorem dX12_nearerBy_0 : decode cX12_nearerBy 0 = .ok (.iconst 0, 1) := by decide +kernel
theorem dX12_nearerBy_1 : decode cX12_nearerBy 1 = .ok (.istore_n 3, 1) := by decide +kernel
theorem dX12_nearerBy_2 : decode cX12_nearerBy 2 = .ok (.iload_n 3, 1) := by decide +kernel
theorem dX12_nearerBy_3 : decode cX12_nearerBy 3 = .ok (.aload_n 0, 1) := by decide +kernel
theorem dX12_nearerBy_4 : decode cX12_nearerBy 4 = .ok (.getfield 13, 3) := by decide +kernel
theorem dX12_nearerBy_7 : decode cX12_nearerBy 7 = .ok (.iconst 3, 1) := by decide +kernel
theorem dX12_nearerBy_8 : decode cX12_nearerBy 8 = .ok (.iaload, 1) := by decide +kernel
theorem dX12_nearerBy_9 : decode cX12_nearerBy 9 = .ok (.if_icmp .ge 94, 3) := by decide +kernel
theorem dX12_nearerBy_12 : decode cX12_nearerBy 12 = .ok (.iload_n 3, 1) := by decide +kernel
theorem dX12_nearerBy_13 : decode cX12_nearerBy 13 = .ok (.iconst 1, 1) := by decide +kernel
theorem dX12_nearerBy_14 : decode cX12_nearerBy 14 = .ok (.iadd, 1) := by decide +kernel
theorem dX12_nearerBy_15 : decode cX12_nearerBy 15 = .ok (.istore 4, 2) := by decide +kernel
theorem dX12_nearerBy_17 : decode cX12_nearerBy 17 = .ok (.iload 4, 2) := by decide +kernel
theorem dX12_nearerBy_19 : decode cX12_nearerBy 19 = .ok (.aload_n 0, 1) := by decide +kernel
theorem dX12_nearerBy_20 : decode cX12_nearerBy 20 = .ok (.getfield 13, 3) := by decide +kernel
theorem dX12_nearerBy_23 : decode cX12_nearerBy 23 = .ok (.iconst 3, 1) := by decide +kernel
theorem dX12_nearerBy_24 : decode cX12_nearerBy 24 = .ok (.iaload, 1) := by decide +kernel
theorem dX12_nearerBy_25 : decode cX12_nearerBy 25 = .ok (.if_icmp .ge 72, 3) := by decide +kernel
theorem dX12_nearerBy_28 : decode cX12_nearerBy 28 = .ok (.iconst 0, 1) := by decide +kernel
theorem dX12_nearerBy_29 : decode cX12_nearerBy 29 = .ok (.istore 5, 2) := by decide +kernel
theorem dX12_nearerBy_31 : decode cX12_nearerBy 31 = .ok (.iload 5, 2) := by decide +kernel
theorem dX12_nearerBy_33 : decode cX12_nearerBy 33 = .ok (.aload_n 0, 1) := by decide +kernel
theorem dX12_nearerBy_34 : decode cX12_nearerBy 34 = .ok (.getfield 13, 3) := by decide +kernel
theorem dX12_nearerBy_37 : decode cX12_nearerBy 37 = .ok (.iconst 1, 1) := by decide +kernel
theorem dX12_nearerBy_38 : decode cX12_nearerBy 38 = .ok (.iaload, 1) := by decide +kernel
theorem dX12_nearerBy_39 : decode cX12_nearerBy 39 = .ok (.if_icmp .ge 52, 3) := by decide +kernel
theorem dX12_nearerBy_42 : decode cX12_nearerBy 42 = .ok (.aload_n 0, 1) := by decide +kernel
theorem dX12_nearerBy_43 : decode cX12_nearerBy 43 = .ok (.getfield 45, 3) := by decide +kernel
theorem dX12_nearerBy_46 : decode cX12_nearerBy 46 = .ok (.iload 5, 2) := by decide +kernel
theorem dX12_nearerBy_48 : decode cX12_nearerBy 48 = .ok (.iaload, 1) := by decide +kernel
theorem dX12_nearerBy_49 : decode cX12_nearerBy 49 = .ok (.aload_n 0, 1) := by decide +kernel
theorem dX12_nearerBy_50 : decode cX12_nearerBy 50 = .ok (.getfield 45, 3) := by decide +kernel
theorem dX12_nearerBy_53 : decode cX12_nearerBy 53 = .ok (.iload_n 2, 1) := by decide +kernel
theorem dX12_nearerBy_54 : decode cX12_nearerBy 54 = .ok (.iaload, 1) := by decide +kernel
theorem dX12_nearerBy_55 : decode cX12_nearerBy 55 = .ok (.iconst 1, 1) := by decide +kernel
theorem dX12_nearerBy_56 : decode cX12_nearerBy 56 = .ok (.isub, 1) := by decide +kernel
theorem dX12_nearerBy_57 : decode cX12_nearerBy 57 = .ok (.if_icmp .ne 28, 3) := by decide +kernel
theorem dX12_nearerBy_60 : decode cX12_nearerBy 60 = .ok (.aload_n 0, 1) := by decide +kernel
theorem dX12_nearerBy_61 : decode cX12_nearerBy 61 = .ok (.iload_n 3, 1) := by decide +kernel
theorem dX12_nearerBy_62 : decode cX12_nearerBy 62 = .ok (.iload 4, 2) := by decide +kernel
theorem dX12_nearerBy_64 : decode cX12_nearerBy 64 = .ok (.iload_n 1, 1) := by decide +kernel
theorem dX12_nearerBy_65 : decode cX12_nearerBy 65 = .ok (.iload_n 2, 1) := by decide +kernel
theorem dX12_nearerBy_66 : decode cX12_nearerBy 66 = .ok (.iload 5, 2) := by decide +kernel
theorem dX12_nearerBy_68 : decode cX12_nearerBy 68 = .ok (.invokevirtual 288, 3) := by decide +kernel
theorem dX12_nearerBy_71 : decode cX12_nearerBy 71 = .ok (.iconst (-1), 1) := by decide +kernel
theorem dX12_nearerBy_72 : decode cX12_nearerBy 72 = .ok (.if_icmp .eq 13, 3) := by decide +kernel
theorem dX12_nearerBy_75 : decode cX12_nearerBy 75 = .ok (.iload_n 3, 1) := by decide +kernel
theorem dX12_nearerBy_76 : decode cX12_nearerBy 76 = .ok (.iload 4, 2) := by decide +kernel
theorem dX12_nearerBy_78 : decode cX12_nearerBy 78 = .ok (.iload_n 1, 1) := by decide +kernel
theorem dX12_nearerBy_79 : decode cX12_nearerBy 79 = .ok (.iload 5, 2) := by decide +kernel
theorem dX12_nearerBy_81 : decode cX12_nearerBy 81 = .ok (.invokestatic 393, 3) := by decide +kernel
theorem dX12_nearerBy_84 : decode cX12_nearerBy 84 = .ok (.ireturn, 1) := by decide +kernel
theorem dX12_nearerBy_85 : decode cX12_nearerBy 85 = .ok (.iinc 5 1, 3) := by decide +kernel
theorem dX12_nearerBy_88 : decode cX12_nearerBy 88 = .ok (.goto (-57), 3) := by decide +kernel
theorem dX12_nearerBy_91 : decode cX12_nearerBy 91 = .ok (.iinc 4 1, 3) := by decide +kernel
theorem dX12_nearerBy_94 : decode cX12_nearerBy 94 = .ok (.goto (-77), 3) := by decide +kernel
theorem dX12_nearerBy_97 : decode cX12_nearerBy 97 = .ok (.iinc 3 1, 3) := by decide +kernel
theorem dX12_nearerBy_100 : decode cX12_nearerBy 100 = .ok (.goto (-98), 3) := by decide +kernel
theorem dX12_nearerBy_103 : decode cX12_nearerBy 103 = .ok (.iconst (-1), 1) := by decide +kernel
theorem dX12_nearerBy_104 : decode cX12_nearerBy 104 = .ok (.ireturn, 1) := by decide +kernel
theorem dX12_carryingAt_0 : decode cX12_carryingAt 0 = .ok (.aload_n 0, 1) := by decide +kernel
theorem dX12_carryingAt_1 : decode cX12_carryingAt 1 = .ok (.getfield 13, 3) := by decide +kernel
theorem dX12_carryingAt_4 : decode cX12_carryingAt 4 = .ok (.bipush 62, 2) := by decide +kernel
theorem dX12_carryingAt_6 : decode cX12_carryingAt 6 = .ok (.iload_n 1, 1) := by decide +kernel
theorem dX12_carryingAt_7 : decode cX12_carryingAt 7 = .ok (.iadd, 1) := by decide +kernel
theorem dX12_carryingAt_8 : decode cX12_carryingAt 8 = .ok (.iaload, 1) := by decide +kernel
theorem dX12_carryingAt_9 : decode cX12_carryingAt 9 = .ok (.istore_n 3, 1) := by decide +kernel
theorem dX12_carryingAt_10 : decode cX12_carryingAt 10 = .ok (.iconst 0, 1) := by decide +kernel
theorem dX12_carryingAt_11 : decode cX12_carryingAt 11 = .ok (.istore 4, 2) := by decide +kernel
theorem dX12_carryingAt_13 : decode cX12_carryingAt 13 = .ok (.aload_n 0, 1) := by decide +kernel
theorem dX12_carryingAt_14 : decode cX12_carryingAt 14 = .ok (.getfield 45, 3) := by decide +kernel
theorem dX12_carryingAt_17 : decode cX12_carryingAt 17 = .ok (.iload_n 3, 1) := by decide +kernel
theorem dX12_carryingAt_18 : decode cX12_carryingAt 18 = .ok (.iaload, 1) := by decide +kernel
theorem dX12_carryingAt_19 : decode cX12_carryingAt 19 = .ok (.ifCond .le 44, 3) := by decide +kernel
theorem dX12_carryingAt_22 : decode cX12_carryingAt 22 = .ok (.aload_n 0, 1) := by decide +kernel
theorem dX12_carryingAt_23 : decode cX12_carryingAt 23 = .ok (.getfield 45, 3) := by decide +kernel
theorem dX12_carryingAt_26 : decode cX12_carryingAt 26 = .ok (.iload_n 3, 1) := by decide +kernel
theorem dX12_carryingAt_27 : decode cX12_carryingAt 27 = .ok (.iaload, 1) := by decide +kernel
theorem dX12_carryingAt_28 : decode cX12_carryingAt 28 = .ok (.ldc_w 383, 3) := by decide +kernel
theorem dX12_carryingAt_31 : decode cX12_carryingAt 31 = .ok (.if_icmp .ge 32, 3) := by decide +kernel
theorem dX12_carryingAt_34 : decode cX12_carryingAt 34 = .ok (.aload_n 0, 1) := by decide +kernel
theorem dX12_carryingAt_35 : decode cX12_carryingAt 35 = .ok (.iload_n 1, 1) := by decide +kernel
theorem dX12_carryingAt_36 : decode cX12_carryingAt 36 = .ok (.iload_n 3, 1) := by decide +kernel
theorem dX12_carryingAt_37 : decode cX12_carryingAt 37 = .ok (.invokevirtual 396, 3) := by decide +kernel
theorem dX12_carryingAt_40 : decode cX12_carryingAt 40 = .ok (.istore 5, 2) := by decide +kernel
theorem dX12_carryingAt_42 : decode cX12_carryingAt 42 = .ok (.iload 4, 2) := by decide +kernel
theorem dX12_carryingAt_44 : decode cX12_carryingAt 44 = .ok (.iload_n 2, 1) := by decide +kernel
theorem dX12_carryingAt_45 : decode cX12_carryingAt 45 = .ok (.if_icmp .ne 6, 3) := by decide +kernel
theorem dX12_carryingAt_48 : decode cX12_carryingAt 48 = .ok (.iload 5, 2) := by decide +kernel
theorem dX12_carryingAt_50 : decode cX12_carryingAt 50 = .ok (.ireturn, 1) := by decide +kernel
theorem dX12_carryingAt_51 : decode cX12_carryingAt 51 = .ok (.iload 5, 2) := by decide +kernel
theorem dX12_carryingAt_53 : decode cX12_carryingAt 53 = .ok (.bipush 10, 2) := by decide +kernel
theorem dX12_carryingAt_55 : decode cX12_carryingAt 55 = .ok (.irem, 1) := by decide +kernel
theorem dX12_carryingAt_56 : decode cX12_carryingAt 56 = .ok (.istore_n 3, 1) := by decide +kernel
theorem dX12_carryingAt_57 : decode cX12_carryingAt 57 = .ok (.iinc 4 1, 3) := by decide +kernel
theorem dX12_carryingAt_60 : decode cX12_carryingAt 60 = .ok (.goto (-47), 3) := by decide +kernel
theorem dX12_carryingAt_63 : decode cX12_carryingAt 63 = .ok (.iconst (-1), 1) := by decide +kernel
theorem dX12_carryingAt_64 : decode cX12_carryingAt 64 = .ok (.ireturn, 1) := by decide +kernel
theorem dX12_way_0 : decode cX12_way 0 = .ok (.aload_n 0, 1) := by decide +kernel
theorem dX12_way_1 : decode cX12_way 1 = .ok (.iconst 0, 1) := by decide +kernel
theorem dX12_way_2 : decode cX12_way 2 = .ok (.putfield 1, 3) := by decide +kernel
theorem dX12_way_5 : decode cX12_way 5 = .ok (.aload_n 0, 1) := by decide +kernel
theorem dX12_way_6 : decode cX12_way 6 = .ok (.iload_n 1, 1) := by decide +kernel
theorem dX12_way_7 : decode cX12_way 7 = .ok (.iload_n 2, 1) := by decide +kernel
theorem dX12_way_8 : decode cX12_way 8 = .ok (.invokevirtual 384, 3) := by decide +kernel
theorem dX12_way_11 : decode cX12_way 11 = .ok (.ifCond .eq 6, 3) := by decide +kernel
theorem dX12_way_14 : decode cX12_way 14 = .ok (.bipush (-2), 2) := by decide +kernel
theorem dX12_way_16 : decode cX12_way 16 = .ok (.ireturn, 1) := by decide +kernel
theorem dX12_way_17 : decode cX12_way 17 = .ok (.iload_n 3, 1) := by decide +kernel
theorem dX12_way_18 : decode cX12_way 18 = .ok (.ifCond .ge 6, 3) := by decide +kernel
theorem dX12_way_21 : decode cX12_way 21 = .ok (.bipush (-3), 2) := by decide +kernel
theorem dX12_way_23 : decode cX12_way 23 = .ok (.ireturn, 1) := by decide +kernel
theorem dX12_way_24 : decode cX12_way 24 = .ok (.aload_n 0, 1) := by decide +kernel
theorem dX12_way_25 : decode cX12_way 25 = .ok (.iload_n 1, 1) := by decide +kernel
theorem dX12_way_26 : decode cX12_way 26 = .ok (.iload_n 2, 1) := by decide +kernel
theorem dX12_way_27 : decode cX12_way 27 = .ok (.invokevirtual 387, 3) := by decide +kernel
theorem dX12_way_30 : decode cX12_way 30 = .ok (.pop, 1) := by decide +kernel
theorem dX12_way_31 : decode cX12_way 31 = .ok (.aload_n 0, 1) := by decide +kernel
theorem dX12_way_32 : decode cX12_way 32 = .ok (.iload_n 1, 1) := by decide +kernel
theorem dX12_way_33 : decode cX12_way 33 = .ok (.iload_n 3, 1) := by decide +kernel
theorem dX12_way_34 : decode cX12_way 34 = .ok (.invokevirtual 399, 3) := by decide +kernel
theorem dX12_way_37 : decode cX12_way 37 = .ok (.ireturn, 1) := by decide +kernel
theorem dX12_rows_0 : decode cX12_rows 0 = .ok (.aload_n 0, 1) := by decide +kernel
theorem dX12_rows_1 : decode cX12_rows 1 = .ok (.iconst 0, 1) := by decide +kernel
theorem dX12_rows_2 : decode cX12_rows 2 = .ok (.putfield 1, 3) := by decide +kernel
theorem dX12_rows_5 : decode cX12_rows 5 = .ok (.aload_n 0, 1) := by decide +kernel
theorem dX12_rows_6 : decode cX12_rows 6 = .ok (.iload_n 1, 1) := by decide +kernel
theorem dX12_rows_7 : decode cX12_rows 7 = .ok (.iload_n 2, 1) := by decide +kernel
theorem dX12_rows_8 : decode cX12_rows 8 = .ok (.invokevirtual 384, 3) := by decide +kernel
theorem dX12_rows_11 : decode cX12_rows 11 = .ok (.ifCond .eq 7, 3) := by decide +kernel
theorem dX12_rows_14 : decode cX12_rows 14 = .ok (.ldc2_w 402, 3) := by decide +kernel
theorem dX12_rows_17 : decode cX12_rows 17 = .ok (.lreturn, 1) := by decide +kernel
theorem dX12_rows_18 : decode cX12_rows 18 = .ok (.iload_n 3, 1) := by decide +kernel
theorem dX12_rows_19 : decode cX12_rows 19 = .ok (.i2l, 1) := by decide +kernel
theorem dX12_rows_20 : decode cX12_rows 20 = .ok (.lconst 0, 1) := by decide +kernel
theorem dX12_rows_21 : decode cX12_rows 21 = .ok (.ldc2_w 404, 3) := by decide +kernel
theorem dX12_rows_24 : decode cX12_rows 24 = .ok (.invokestatic 154, 3) := by decide +kernel
theorem dX12_rows_27 : decode cX12_rows 27 = .ok (.ifCond .ne 7, 3) := by decide +kernel
theorem dX12_rows_30 : decode cX12_rows 30 = .ok (.ldc2_w 406, 3) := by decide +kernel
theorem dX12_rows_33 : decode cX12_rows 33 = .ok (.lreturn, 1) := by decide +kernel
theorem dX12_rows_34 : decode cX12_rows 34 = .ok (.aload_n 0, 1) := by decide +kernel
theorem dX12_rows_35 : decode cX12_rows 35 = .ok (.iload_n 1, 1) := by decide +kernel
theorem dX12_rows_36 : decode cX12_rows 36 = .ok (.invokevirtual 380, 3) := by decide +kernel
theorem dX12_rows_39 : decode cX12_rows 39 = .ok (.iconst 0, 1) := by decide +kernel
theorem dX12_rows_40 : decode cX12_rows 40 = .ok (.istore 4, 2) := by decide +kernel
theorem dX12_rows_42 : decode cX12_rows 42 = .ok (.iload 4, 2) := by decide +kernel
theorem dX12_rows_44 : decode cX12_rows 44 = .ok (.bipush 6, 2) := by decide +kernel
theorem dX12_rows_46 : decode cX12_rows 46 = .ok (.if_icmp .ge 35, 3) := by decide +kernel
theorem dX12_rows_49 : decode cX12_rows 49 = .ok (.aload_n 0, 1) := by decide +kernel
theorem dX12_rows_50 : decode cX12_rows 50 = .ok (.getfield 51, 3) := by decide +kernel
theorem dX12_rows_53 : decode cX12_rows 53 = .ok (.iload 4, 2) := by decide +kernel
theorem dX12_rows_55 : decode cX12_rows 55 = .ok (.iload 4, 2) := by decide +kernel
theorem dX12_rows_57 : decode cX12_rows 57 = .ok (.aload_n 0, 1) := by decide +kernel
theorem dX12_rows_58 : decode cX12_rows 58 = .ok (.getfield 13, 3) := by decide +kernel
theorem dX12_rows_61 : decode cX12_rows 61 = .ok (.bipush 62, 2) := by decide +kernel
theorem dX12_rows_63 : decode cX12_rows 63 = .ok (.iload_n 1, 1) := by decide +kernel
theorem dX12_rows_64 : decode cX12_rows 64 = .ok (.iadd, 1) := by decide +kernel
theorem dX12_rows_65 : decode cX12_rows 65 = .ok (.iaload, 1) := by decide +kernel
theorem dX12_rows_66 : decode cX12_rows 66 = .ok (.if_icmp .ne 7, 3) := by decide +kernel
theorem dX12_rows_69 : decode cX12_rows 69 = .ok (.lconst 1, 1) := by decide +kernel
theorem dX12_rows_70 : decode cX12_rows 70 = .ok (.goto 4, 3) := by decide +kernel
theorem dX12_rows_73 : decode cX12_rows 73 = .ok (.lconst 0, 1) := by decide +kernel
theorem dX12_rows_74 : decode cX12_rows 74 = .ok (.lastore, 1) := by decide +kernel
theorem dX12_rows_75 : decode cX12_rows 75 = .ok (.iinc 4 1, 3) := by decide +kernel
theorem dX12_rows_78 : decode cX12_rows 78 = .ok (.goto (-36), 3) := by decide +kernel
theorem dX12_rows_81 : decode cX12_rows 81 = .ok (.iconst 0, 1) := by decide +kernel
theorem dX12_rows_82 : decode cX12_rows 82 = .ok (.istore 4, 2) := by decide +kernel
theorem dX12_rows_84 : decode cX12_rows 84 = .ok (.iload 4, 2) := by decide +kernel
theorem dX12_rows_86 : decode cX12_rows 86 = .ok (.iload_n 3, 1) := by decide +kernel
theorem dX12_rows_87 : decode cX12_rows 87 = .ok (.if_icmp .ge 111, 3) := by decide +kernel
theorem dX12_rows_90 : decode cX12_rows 90 = .ok (.iconst 0, 1) := by decide +kernel
theorem dX12_rows_91 : decode cX12_rows 91 = .ok (.istore 5, 2) := by decide +kernel
theorem dX12_rows_93 : decode cX12_rows 93 = .ok (.iload 5, 2) := by decide +kernel
theorem dX12_rows_95 : decode cX12_rows 95 = .ok (.bipush 6, 2) := by decide +kernel
theorem dX12_rows_97 : decode cX12_rows 97 = .ok (.if_icmp .ge 65, 3) := by decide +kernel
theorem dX12_rows_100 : decode cX12_rows 100 = .ok (.aload_n 0, 1) := by decide +kernel
theorem dX12_rows_101 : decode cX12_rows 101 = .ok (.getfield 55, 3) := by decide +kernel
theorem dX12_rows_104 : decode cX12_rows 104 = .ok (.iload 5, 2) := by decide +kernel
theorem dX12_rows_106 : decode cX12_rows 106 = .ok (.lconst 0, 1) := by decide +kernel
theorem dX12_rows_107 : decode cX12_rows 107 = .ok (.lastore, 1) := by decide +kernel
theorem dX12_rows_108 : decode cX12_rows 108 = .ok (.iconst 0, 1) := by decide +kernel
theorem dX12_rows_109 : decode cX12_rows 109 = .ok (.istore 6, 2) := by decide +kernel
theorem dX12_rows_111 : decode cX12_rows 111 = .ok (.iload 6, 2) := by decide +kernel
theorem dX12_rows_113 : decode cX12_rows 113 = .ok (.bipush 6, 2) := by decide +kernel
theorem dX12_rows_115 : decode cX12_rows 115 = .ok (.if_icmp .ge 41, 3) := by decide +kernel
theorem dX12_rows_118 : decode cX12_rows 118 = .ok (.aload_n 0, 1) := by decide +kernel
theorem dX12_rows_119 : decode cX12_rows 119 = .ok (.getfield 55, 3) := by decide +kernel
theorem dX12_rows_122 : decode cX12_rows 122 = .ok (.iload 5, 2) := by decide +kernel
theorem dX12_rows_124 : decode cX12_rows 124 = .ok (.dup2, 1) := by decide +kernel
theorem dX12_rows_125 : decode cX12_rows 125 = .ok (.laload, 1) := by decide +kernel
theorem dX12_rows_126 : decode cX12_rows 126 = .ok (.aload_n 0, 1) := by decide +kernel
theorem dX12_rows_127 : decode cX12_rows 127 = .ok (.getfield 51, 3) := by decide +kernel
theorem dX12_rows_130 : decode cX12_rows 130 = .ok (.iload 6, 2) := by decide +kernel
theorem dX12_rows_132 : decode cX12_rows 132 = .ok (.laload, 1) := by decide +kernel
theorem dX12_rows_133 : decode cX12_rows 133 = .ok (.aload_n 0, 1) := by decide +kernel
theorem dX12_rows_134 : decode cX12_rows 134 = .ok (.getfield 42, 3) := by decide +kernel
theorem dX12_rows_137 : decode cX12_rows 137 = .ok (.bipush 6, 2) := by decide +kernel
theorem dX12_rows_139 : decode cX12_rows 139 = .ok (.iload 6, 2) := by decide +kernel
theorem dX12_rows_141 : decode cX12_rows 141 = .ok (.imul, 1) := by decide +kernel
theorem dX12_rows_142 : decode cX12_rows 142 = .ok (.iload 5, 2) := by decide +kernel
theorem dX12_rows_144 : decode cX12_rows 144 = .ok (.iadd, 1) := by decide +kernel
theorem dX12_rows_145 : decode cX12_rows 145 = .ok (.iaload, 1) := by decide +kernel
theorem dX12_rows_146 : decode cX12_rows 146 = .ok (.i2l, 1) := by decide +kernel
theorem dX12_rows_147 : decode cX12_rows 147 = .ok (.lmul, 1) := by decide +kernel
theorem dX12_rows_148 : decode cX12_rows 148 = .ok (.ladd, 1) := by decide +kernel
theorem dX12_rows_149 : decode cX12_rows 149 = .ok (.lastore, 1) := by decide +kernel
theorem dX12_rows_150 : decode cX12_rows 150 = .ok (.iinc 6 1, 3) := by decide +kernel
theorem dX12_rows_153 : decode cX12_rows 153 = .ok (.goto (-42), 3) := by decide +kernel
theorem dX12_rows_156 : decode cX12_rows 156 = .ok (.iinc 5 1, 3) := by decide +kernel
theorem dX12_rows_159 : decode cX12_rows 159 = .ok (.goto (-66), 3) := by decide +kernel
theorem dX12_rows_162 : decode cX12_rows 162 = .ok (.iconst 0, 1) := by decide +kernel
theorem dX12_rows_163 : decode cX12_rows 163 = .ok (.istore 5, 2) := by decide +kernel
theorem dX12_rows_165 : decode cX12_rows 165 = .ok (.iload 5, 2) := by decide +kernel
theorem dX12_rows_167 : decode cX12_rows 167 = .ok (.bipush 6, 2) := by decide +kernel
theorem dX12_rows_169 : decode cX12_rows 169 = .ok (.if_icmp .ge 23, 3) := by decide +kernel
theorem dX12_rows_172 : decode cX12_rows 172 = .ok (.aload_n 0, 1) := by decide +kernel
theorem dX12_rows_173 : decode cX12_rows 173 = .ok (.getfield 51, 3) := by decide +kernel
theorem dX12_rows_176 : decode cX12_rows 176 = .ok (.iload 5, 2) := by decide +kernel
theorem dX12_rows_178 : decode cX12_rows 178 = .ok (.aload_n 0, 1) := by decide +kernel
theorem dX12_rows_179 : decode cX12_rows 179 = .ok (.getfield 55, 3) := by decide +kernel
theorem dX12_rows_182 : decode cX12_rows 182 = .ok (.iload 5, 2) := by decide +kernel
theorem dX12_rows_184 : decode cX12_rows 184 = .ok (.laload, 1) := by decide +kernel
theorem dX12_rows_185 : decode cX12_rows 185 = .ok (.lastore, 1) := by decide +kernel
theorem dX12_rows_186 : decode cX12_rows 186 = .ok (.iinc 5 1, 3) := by decide +kernel
theorem dX12_rows_189 : decode cX12_rows 189 = .ok (.goto (-24), 3) := by decide +kernel
theorem dX12_rows_192 : decode cX12_rows 192 = .ok (.iinc 4 1, 3) := by decide +kernel
theorem dX12_rows_195 : decode cX12_rows 195 = .ok (.goto (-111), 3) := by decide +kernel
theorem dX12_rows_198 : decode cX12_rows 198 = .ok (.aload_n 0, 1) := by decide +kernel
theorem dX12_rows_199 : decode cX12_rows 199 = .ok (.getfield 51, 3) := by decide +kernel
theorem dX12_rows_202 : decode cX12_rows 202 = .ok (.iload_n 2, 1) := by decide +kernel
theorem dX12_rows_203 : decode cX12_rows 203 = .ok (.laload, 1) := by decide +kernel
theorem dX12_rows_204 : decode cX12_rows 204 = .ok (.lreturn, 1) := by decide +kernel
theorem dX12_reach_0 : decode cX12_reach 0 = .ok (.aload_n 0, 1) := by decide +kernel
theorem dX12_reach_1 : decode cX12_reach 1 = .ok (.iconst 0, 1) := by decide +kernel
theorem dX12_reach_2 : decode cX12_reach 2 = .ok (.putfield 1, 3) := by decide +kernel
theorem dX12_reach_5 : decode cX12_reach 5 = .ok (.aload_n 0, 1) := by decide +kernel
theorem dX12_reach_6 : decode cX12_reach 6 = .ok (.iload_n 1, 1) := by decide +kernel
theorem dX12_reach_7 : decode cX12_reach 7 = .ok (.i2l, 1) := by decide +kernel
theorem dX12_reach_8 : decode cX12_reach 8 = .ok (.invokevirtual 276, 3) := by decide +kernel
theorem dX12_reach_11 : decode cX12_reach 11 = .ok (.ifCond .ne 6, 3) := by decide +kernel
theorem dX12_reach_14 : decode cX12_reach 14 = .ok (.bipush (-2), 2) := by decide +kernel
theorem dX12_reach_16 : decode cX12_reach 16 = .ok (.ireturn, 1) := by decide +kernel
theorem dX12_reach_17 : decode cX12_reach 17 = .ok (.aload_n 0, 1) := by decide +kernel
theorem dX12_reach_18 : decode cX12_reach 18 = .ok (.iload_n 1, 1) := by decide +kernel
theorem dX12_reach_19 : decode cX12_reach 19 = .ok (.invokevirtual 380, 3) := by decide +kernel
theorem dX12_reach_22 : decode cX12_reach 22 = .ok (.iconst 1, 1) := by decide +kernel
theorem dX12_reach_23 : decode cX12_reach 23 = .ok (.aload_n 0, 1) := by decide +kernel
theorem dX12_reach_24 : decode cX12_reach 24 = .ok (.getfield 13, 3) := by decide +kernel
theorem dX12_reach_27 : decode cX12_reach 27 = .ok (.bipush 62, 2) := by decide +kernel
theorem dX12_reach_29 : decode cX12_reach 29 = .ok (.iload_n 1, 1) := by decide +kernel
theorem dX12_reach_30 : decode cX12_reach 30 = .ok (.iadd, 1) := by decide +kernel
theorem dX12_reach_31 : decode cX12_reach 31 = .ok (.iaload, 1) := by decide +kernel
theorem dX12_reach_32 : decode cX12_reach 32 = .ok (.ishl, 1) := by decide +kernel
theorem dX12_reach_33 : decode cX12_reach 33 = .ok (.istore_n 2, 1) := by decide +kernel
theorem dX12_reach_34 : decode cX12_reach 34 = .ok (.iconst 0, 1) := by decide +kernel
theorem dX12_reach_35 : decode cX12_reach 35 = .ok (.istore_n 3, 1) := by decide +kernel
theorem dX12_reach_36 : decode cX12_reach 36 = .ok (.iload_n 3, 1) := by decide +kernel
theorem dX12_reach_37 : decode cX12_reach 37 = .ok (.bipush 6, 2) := by decide +kernel
theorem dX12_reach_39 : decode cX12_reach 39 = .ok (.if_icmp .ge 78, 3) := by decide +kernel
theorem dX12_reach_42 : decode cX12_reach 42 = .ok (.iconst 0, 1) := by decide +kernel
theorem dX12_reach_43 : decode cX12_reach 43 = .ok (.istore 4, 2) := by decide +kernel
theorem dX12_reach_45 : decode cX12_reach 45 = .ok (.iload 4, 2) := by decide +kernel
theorem dX12_reach_47 : decode cX12_reach 47 = .ok (.bipush 6, 2) := by decide +kernel
theorem dX12_reach_49 : decode cX12_reach 49 = .ok (.if_icmp .ge 62, 3) := by decide +kernel
theorem dX12_reach_52 : decode cX12_reach 52 = .ok (.iconst 0, 1) := by decide +kernel
theorem dX12_reach_53 : decode cX12_reach 53 = .ok (.istore 5, 2) := by decide +kernel
theorem dX12_reach_55 : decode cX12_reach 55 = .ok (.iload 5, 2) := by decide +kernel
theorem dX12_reach_57 : decode cX12_reach 57 = .ok (.bipush 6, 2) := by decide +kernel
theorem dX12_reach_59 : decode cX12_reach 59 = .ok (.if_icmp .ge 46, 3) := by decide +kernel
theorem dX12_reach_62 : decode cX12_reach 62 = .ok (.iload_n 2, 1) := by decide +kernel
theorem dX12_reach_63 : decode cX12_reach 63 = .ok (.iload_n 2, 1) := by decide +kernel
theorem dX12_reach_64 : decode cX12_reach 64 = .ok (.i2l, 1) := by decide +kernel
theorem dX12_reach_65 : decode cX12_reach 65 = .ok (.iload 4, 2) := by decide +kernel
theorem dX12_reach_67 : decode cX12_reach 67 = .ok (.invokestatic 233, 3) := by decide +kernel
theorem dX12_reach_70 : decode cX12_reach 70 = .ok (.ifCond .eq 26, 3) := by decide +kernel
theorem dX12_reach_73 : decode cX12_reach 73 = .ok (.aload_n 0, 1) := by decide +kernel
theorem dX12_reach_74 : decode cX12_reach 74 = .ok (.getfield 42, 3) := by decide +kernel
theorem dX12_reach_77 : decode cX12_reach 77 = .ok (.bipush 6, 2) := by decide +kernel
theorem dX12_reach_79 : decode cX12_reach 79 = .ok (.iload 4, 2) := by decide +kernel
theorem dX12_reach_81 : decode cX12_reach 81 = .ok (.imul, 1) := by decide +kernel
theorem dX12_reach_82 : decode cX12_reach 82 = .ok (.iload 5, 2) := by decide +kernel
theorem dX12_reach_84 : decode cX12_reach 84 = .ok (.iadd, 1) := by decide +kernel
theorem dX12_reach_85 : decode cX12_reach 85 = .ok (.iaload, 1) := by decide +kernel
theorem dX12_reach_86 : decode cX12_reach 86 = .ok (.ifCond .le 10, 3) := by decide +kernel
theorem dX12_reach_89 : decode cX12_reach 89 = .ok (.iconst 1, 1) := by decide +kernel
theorem dX12_reach_90 : decode cX12_reach 90 = .ok (.iload 5, 2) := by decide +kernel
theorem dX12_reach_92 : decode cX12_reach 92 = .ok (.ishl, 1) := by decide +kernel
theorem dX12_reach_93 : decode cX12_reach 93 = .ok (.goto 4, 3) := by decide +kernel
theorem dX12_reach_96 : decode cX12_reach 96 = .ok (.iconst 0, 1) := by decide +kernel
theorem dX12_reach_97 : decode cX12_reach 97 = .ok (.ior, 1) := by decide +kernel
theorem dX12_reach_98 : decode cX12_reach 98 = .ok (.istore_n 2, 1) := by decide +kernel
theorem dX12_reach_99 : decode cX12_reach 99 = .ok (.iinc 5 1, 3) := by decide +kernel
theorem dX12_reach_102 : decode cX12_reach 102 = .ok (.goto (-47), 3) := by decide +kernel
theorem dX12_reach_105 : decode cX12_reach 105 = .ok (.iinc 4 1, 3) := by decide +kernel
theorem dX12_reach_108 : decode cX12_reach 108 = .ok (.goto (-63), 3) := by decide +kernel
theorem dX12_reach_111 : decode cX12_reach 111 = .ok (.iinc 3 1, 3) := by decide +kernel
theorem dX12_reach_114 : decode cX12_reach 114 = .ok (.goto (-78), 3) := by decide +kernel
theorem dX12_reach_117 : decode cX12_reach 117 = .ok (.iload_n 2, 1) := by decide +kernel
theorem dX12_reach_118 : decode cX12_reach 118 = .ok (.ireturn, 1) := by decide +kernel
theorem dX12_laysPaying_0 : decode cX12_laysPaying 0 = .ok (.iconst 0, 1) := by decide +kernel
theorem dX12_laysPaying_1 : decode cX12_laysPaying 1 = .ok (.istore_n 2, 1) := by decide +kernel
theorem dX12_laysPaying_2 : decode cX12_laysPaying 2 = .ok (.iload_n 2, 1) := by decide +kernel
theorem dX12_laysPaying_3 : decode cX12_laysPaying 3 = .ok (.aload_n 0, 1) := by decide +kernel
theorem dX12_laysPaying_4 : decode cX12_laysPaying 4 = .ok (.getfield 13, 3) := by decide +kernel
theorem dX12_laysPaying_7 : decode cX12_laysPaying 7 = .ok (.iconst 4, 1) := by decide +kernel
theorem dX12_laysPaying_8 : decode cX12_laysPaying 8 = .ok (.iaload, 1) := by decide +kernel
theorem dX12_laysPaying_9 : decode cX12_laysPaying 9 = .ok (.if_icmp .ge 95, 3) := by decide +kernel
theorem dX12_laysPaying_12 : decode cX12_laysPaying 12 = .ok (.aload_n 0, 1) := by decide +kernel
theorem dX12_laysPaying_13 : decode cX12_laysPaying 13 = .ok (.getfield 58, 3) := by decide +kernel
theorem dX12_laysPaying_16 : decode cX12_laysPaying 16 = .ok (.iload_n 2, 1) := by decide +kernel
theorem dX12_laysPaying_17 : decode cX12_laysPaying 17 = .ok (.aload_n 0, 1) := by decide +kernel
theorem dX12_laysPaying_18 : decode cX12_laysPaying 18 = .ok (.iload_n 2, 1) := by decide +kernel
theorem dX12_laysPaying_19 : decode cX12_laysPaying 19 = .ok (.iload_n 1, 1) := by decide +kernel
theorem dX12_laysPaying_20 : decode cX12_laysPaying 20 = .ok (.invokevirtual 387, 3) := by decide +kernel
theorem dX12_laysPaying_23 : decode cX12_laysPaying 23 = .ok (.iastore, 1) := by decide +kernel
theorem dX12_laysPaying_24 : decode cX12_laysPaying 24 = .ok (.aload_n 0, 1) := by decide +kernel
theorem dX12_laysPaying_25 : decode cX12_laysPaying 25 = .ok (.getfield 61, 3) := by decide +kernel
theorem dX12_laysPaying_28 : decode cX12_laysPaying 28 = .ok (.iload_n 2, 1) := by decide +kernel
theorem dX12_laysPaying_29 : decode cX12_laysPaying 29 = .ok (.aload_n 0, 1) := by decide +kernel
theorem dX12_laysPaying_30 : decode cX12_laysPaying 30 = .ok (.getfield 13, 3) := by decide +kernel
theorem dX12_laysPaying_33 : decode cX12_laysPaying 33 = .ok (.bipush 62, 2) := by decide +kernel
theorem dX12_laysPaying_35 : decode cX12_laysPaying 35 = .ok (.iload_n 2, 1) := by decide +kernel
theorem dX12_laysPaying_36 : decode cX12_laysPaying 36 = .ok (.iadd, 1) := by decide +kernel
theorem dX12_laysPaying_37 : decode cX12_laysPaying 37 = .ok (.iaload, 1) := by decide +kernel
theorem dX12_laysPaying_38 : decode cX12_laysPaying 38 = .ok (.iload_n 1, 1) := by decide +kernel
theorem dX12_laysPaying_39 : decode cX12_laysPaying 39 = .ok (.if_icmp .ne 9, 3) := by decide +kernel
theorem dX12_laysPaying_42 : decode cX12_laysPaying 42 = .ok (.ldc_w 383, 3) := by decide +kernel
theorem dX12_laysPaying_45 : decode cX12_laysPaying 45 = .ok (.goto 4, 3) := by decide +kernel
theorem dX12_laysPaying_48 : decode cX12_laysPaying 48 = .ok (.iconst 0, 1) := by decide +kernel
theorem dX12_laysPaying_49 : decode cX12_laysPaying 49 = .ok (.iastore, 1) := by decide +kernel
theorem dX12_laysPaying_50 : decode cX12_laysPaying 50 = .ok (.iconst 0, 1) := by decide +kernel
theorem dX12_laysPaying_51 : decode cX12_laysPaying 51 = .ok (.istore_n 3, 1) := by decide +kernel
theorem dX12_laysPaying_52 : decode cX12_laysPaying 52 = .ok (.iload_n 3, 1) := by decide +kernel
theorem dX12_laysPaying_53 : decode cX12_laysPaying 53 = .ok (.bipush 6, 2) := by decide +kernel
theorem dX12_laysPaying_55 : decode cX12_laysPaying 55 = .ok (.if_icmp .ge 43, 3) := by decide +kernel
theorem dX12_laysPaying_58 : decode cX12_laysPaying 58 = .ok (.aload_n 0, 1) := by decide +kernel
theorem dX12_laysPaying_59 : decode cX12_laysPaying 59 = .ok (.getfield 13, 3) := by decide +kernel
theorem dX12_laysPaying_62 : decode cX12_laysPaying 62 = .ok (.bipush 62, 2) := by decide +kernel
theorem dX12_laysPaying_64 : decode cX12_laysPaying 64 = .ok (.iload_n 2, 1) := by decide +kernel
theorem dX12_laysPaying_65 : decode cX12_laysPaying 65 = .ok (.iadd, 1) := by decide +kernel
theorem dX12_laysPaying_66 : decode cX12_laysPaying 66 = .ok (.iaload, 1) := by decide +kernel
theorem dX12_laysPaying_67 : decode cX12_laysPaying 67 = .ok (.iload_n 1, 1) := by decide +kernel
theorem dX12_laysPaying_68 : decode cX12_laysPaying 68 = .ok (.if_icmp .ne 30, 3) := by decide +kernel
theorem dX12_laysPaying_71 : decode cX12_laysPaying 71 = .ok (.aload_n 0, 1) := by decide +kernel
theorem dX12_laysPaying_72 : decode cX12_laysPaying 72 = .ok (.getfield 42, 3) := by decide +kernel
theorem dX12_laysPaying_75 : decode cX12_laysPaying 75 = .ok (.bipush 6, 2) := by decide +kernel
theorem dX12_laysPaying_77 : decode cX12_laysPaying 77 = .ok (.iload_n 1, 1) := by decide +kernel
theorem dX12_laysPaying_78 : decode cX12_laysPaying 78 = .ok (.imul, 1) := by decide +kernel
theorem dX12_laysPaying_79 : decode cX12_laysPaying 79 = .ok (.iload_n 3, 1) := by decide +kernel
theorem dX12_laysPaying_80 : decode cX12_laysPaying 80 = .ok (.iadd, 1) := by decide +kernel
theorem dX12_laysPaying_81 : decode cX12_laysPaying 81 = .ok (.iaload, 1) := by decide +kernel
theorem dX12_laysPaying_82 : decode cX12_laysPaying 82 = .ok (.ifCond .le 10, 3) := by decide +kernel
theorem dX12_laysPaying_85 : decode cX12_laysPaying 85 = .ok (.aload_n 0, 1) := by decide +kernel
theorem dX12_laysPaying_86 : decode cX12_laysPaying 86 = .ok (.getfield 61, 3) := by decide +kernel
theorem dX12_laysPaying_89 : decode cX12_laysPaying 89 = .ok (.iload_n 2, 1) := by decide +kernel
theorem dX12_laysPaying_90 : decode cX12_laysPaying 90 = .ok (.iconst 1, 1) := by decide +kernel
theorem dX12_laysPaying_91 : decode cX12_laysPaying 91 = .ok (.iastore, 1) := by decide +kernel
theorem dX12_laysPaying_92 : decode cX12_laysPaying 92 = .ok (.iinc 3 1, 3) := by decide +kernel
theorem dX12_laysPaying_95 : decode cX12_laysPaying 95 = .ok (.goto (-43), 3) := by decide +kernel
theorem dX12_laysPaying_98 : decode cX12_laysPaying 98 = .ok (.iinc 2 1, 3) := by decide +kernel
theorem dX12_laysPaying_101 : decode cX12_laysPaying 101 = .ok (.goto (-99), 3) := by decide +kernel
theorem dX12_laysPaying_104 : decode cX12_laysPaying 104 = .ok (.return_, 1) := by decide +kernel
theorem dX12_pays_0 : decode cX12_pays 0 = .ok (.aload_n 0, 1) := by decide +kernel
theorem dX12_pays_1 : decode cX12_pays 1 = .ok (.iconst 0, 1) := by decide +kernel
theorem dX12_pays_2 : decode cX12_pays 2 = .ok (.putfield 1, 3) := by decide +kernel
theorem dX12_pays_5 : decode cX12_pays 5 = .ok (.aload_n 0, 1) := by decide +kernel
theorem dX12_pays_6 : decode cX12_pays 6 = .ok (.iload_n 1, 1) := by decide +kernel
theorem dX12_pays_7 : decode cX12_pays 7 = .ok (.i2l, 1) := by decide +kernel
theorem dX12_pays_8 : decode cX12_pays 8 = .ok (.invokevirtual 279, 3) := by decide +kernel
theorem dX12_pays_11 : decode cX12_pays 11 = .ok (.ifCond .eq 15, 3) := by decide +kernel
theorem dX12_pays_14 : decode cX12_pays 14 = .ok (.iload_n 3, 1) := by decide +kernel
theorem dX12_pays_15 : decode cX12_pays 15 = .ok (.i2l, 1) := by decide +kernel
theorem dX12_pays_16 : decode cX12_pays 16 = .ok (.lconst 0, 1) := by decide +kernel
theorem dX12_pays_17 : decode cX12_pays 17 = .ok (.ldc2_w 354, 3) := by decide +kernel
theorem dX12_pays_20 : decode cX12_pays 20 = .ok (.invokestatic 154, 3) := by decide +kernel
theorem dX12_pays_23 : decode cX12_pays 23 = .ok (.ifCond .ne 6, 3) := by decide +kernel
theorem dX12_pays_26 : decode cX12_pays 26 = .ok (.bipush (-2), 2) := by decide +kernel
theorem dX12_pays_28 : decode cX12_pays 28 = .ok (.ireturn, 1) := by decide +kernel
theorem dX12_pays_29 : decode cX12_pays 29 = .ok (.iload_n 2, 1) := by decide +kernel
theorem dX12_pays_30 : decode cX12_pays 30 = .ok (.i2l, 1) := by decide +kernel
theorem dX12_pays_31 : decode cX12_pays 31 = .ok (.lconst 0, 1) := by decide +kernel
theorem dX12_pays_32 : decode cX12_pays 32 = .ok (.ldc2_w 408, 3) := by decide +kernel
theorem dX12_pays_35 : decode cX12_pays 35 = .ok (.invokestatic 154, 3) := by decide +kernel
theorem dX12_pays_38 : decode cX12_pays 38 = .ok (.ifCond .ne 6, 3) := by decide +kernel
theorem dX12_pays_41 : decode cX12_pays 41 = .ok (.bipush (-3), 2) := by decide +kernel
theorem dX12_pays_43 : decode cX12_pays 43 = .ok (.ireturn, 1) := by decide +kernel
theorem dX12_pays_44 : decode cX12_pays 44 = .ok (.aload_n 0, 1) := by decide +kernel
theorem dX12_pays_45 : decode cX12_pays 45 = .ok (.iload_n 1, 1) := by decide +kernel
theorem dX12_pays_46 : decode cX12_pays 46 = .ok (.invokevirtual 410, 3) := by decide +kernel
theorem dX12_pays_49 : decode cX12_pays 49 = .ok (.iconst (-1), 1) := by decide +kernel
theorem dX12_pays_50 : decode cX12_pays 50 = .ok (.istore 4, 2) := by decide +kernel
theorem dX12_pays_52 : decode cX12_pays 52 = .ok (.ldc_w 383, 3) := by decide +kernel
theorem dX12_pays_55 : decode cX12_pays 55 = .ok (.istore 5, 2) := by decide +kernel
theorem dX12_pays_57 : decode cX12_pays 57 = .ok (.iconst 0, 1) := by decide +kernel
theorem dX12_pays_58 : decode cX12_pays 58 = .ok (.istore 6, 2) := by decide +kernel
theorem dX12_pays_60 : decode cX12_pays 60 = .ok (.iload 6, 2) := by decide +kernel
theorem dX12_pays_62 : decode cX12_pays 62 = .ok (.iconst 1, 1) := by decide +kernel
theorem dX12_pays_63 : decode cX12_pays 63 = .ok (.aload_n 0, 1) := by decide +kernel
theorem dX12_pays_64 : decode cX12_pays 64 = .ok (.getfield 13, 3) := by decide +kernel
theorem dX12_pays_67 : decode cX12_pays 67 = .ok (.iconst 4, 1) := by decide +kernel
theorem dX12_pays_68 : decode cX12_pays 68 = .ok (.iaload, 1) := by decide +kernel
theorem dX12_pays_69 : decode cX12_pays 69 = .ok (.ishl, 1) := by decide +kernel
theorem dX12_pays_70 : decode cX12_pays 70 = .ok (.if_icmp .ge 159, 3) := by decide +kernel
theorem dX12_pays_73 : decode cX12_pays 73 = .ok (.iconst 0, 1) := by decide +kernel
theorem dX12_pays_74 : decode cX12_pays 74 = .ok (.istore 7, 2) := by decide +kernel
theorem dX12_pays_76 : decode cX12_pays 76 = .ok (.iconst 0, 1) := by decide +kernel
theorem dX12_pays_77 : decode cX12_pays 77 = .ok (.istore 8, 2) := by decide +kernel
theorem dX12_pays_79 : decode cX12_pays 79 = .ok (.iconst 0, 1) := by decide +kernel
theorem dX12_pays_80 : decode cX12_pays 80 = .ok (.istore 9, 2) := by decide +kernel
theorem dX12_pays_82 : decode cX12_pays 82 = .ok (.iload 9, 2) := by decide +kernel
theorem dX12_pays_84 : decode cX12_pays 84 = .ok (.aload_n 0, 1) := by decide +kernel
theorem dX12_pays_85 : decode cX12_pays 85 = .ok (.getfield 13, 3) := by decide +kernel
theorem dX12_pays_88 : decode cX12_pays 88 = .ok (.iconst 4, 1) := by decide +kernel
theorem dX12_pays_89 : decode cX12_pays 89 = .ok (.iaload, 1) := by decide +kernel
theorem dX12_pays_90 : decode cX12_pays 90 = .ok (.if_icmp .ge 98, 3) := by decide +kernel
theorem dX12_pays_93 : decode cX12_pays 93 = .ok (.iload 7, 2) := by decide +kernel
theorem dX12_pays_95 : decode cX12_pays 95 = .ok (.iload 6, 2) := by decide +kernel
theorem dX12_pays_97 : decode cX12_pays 97 = .ok (.i2l, 1) := by decide +kernel
theorem dX12_pays_98 : decode cX12_pays 98 = .ok (.iload 9, 2) := by decide +kernel
theorem dX12_pays_100 : decode cX12_pays 100 = .ok (.invokestatic 233, 3) := by decide +kernel
theorem dX12_pays_103 : decode cX12_pays 103 = .ok (.ifCond .eq 16, 3) := by decide +kernel
theorem dX12_pays_106 : decode cX12_pays 106 = .ok (.aload_n 0, 1) := by decide +kernel
theorem dX12_pays_107 : decode cX12_pays 107 = .ok (.getfield 13, 3) := by decide +kernel
theorem dX12_pays_110 : decode cX12_pays 110 = .ok (.bipush 58, 2) := by decide +kernel
theorem dX12_pays_112 : decode cX12_pays 112 = .ok (.iload 9, 2) := by decide +kernel
theorem dX12_pays_114 : decode cX12_pays 114 = .ok (.iadd, 1) := by decide +kernel
theorem dX12_pays_115 : decode cX12_pays 115 = .ok (.iaload, 1) := by decide +kernel
theorem dX12_pays_116 : decode cX12_pays 116 = .ok (.goto 4, 3) := by decide +kernel
theorem dX12_pays_119 : decode cX12_pays 119 = .ok (.iconst 0, 1) := by decide +kernel
theorem dX12_pays_120 : decode cX12_pays 120 = .ok (.iadd, 1) := by decide +kernel
theorem dX12_pays_121 : decode cX12_pays 121 = .ok (.istore 7, 2) := by decide +kernel
theorem dX12_pays_123 : decode cX12_pays 123 = .ok (.iload 6, 2) := by decide +kernel
theorem dX12_pays_125 : decode cX12_pays 125 = .ok (.i2l, 1) := by decide +kernel
theorem dX12_pays_126 : decode cX12_pays 126 = .ok (.iload 9, 2) := by decide +kernel
theorem dX12_pays_128 : decode cX12_pays 128 = .ok (.invokestatic 233, 3) := by decide +kernel
theorem dX12_pays_131 : decode cX12_pays 131 = .ok (.ifCond .eq 13, 3) := by decide +kernel
theorem dX12_pays_134 : decode cX12_pays 134 = .ok (.aload_n 0, 1) := by decide +kernel
theorem dX12_pays_135 : decode cX12_pays 135 = .ok (.getfield 58, 3) := by decide +kernel
theorem dX12_pays_138 : decode cX12_pays 138 = .ok (.iload 9, 2) := by decide +kernel
theorem dX12_pays_140 : decode cX12_pays 140 = .ok (.iaload, 1) := by decide +kernel
theorem dX12_pays_141 : decode cX12_pays 141 = .ok (.goto 10, 3) := by decide +kernel
theorem dX12_pays_144 : decode cX12_pays 144 = .ok (.aload_n 0, 1) := by decide +kernel
theorem dX12_pays_145 : decode cX12_pays 145 = .ok (.getfield 61, 3) := by decide +kernel
theorem dX12_pays_148 : decode cX12_pays 148 = .ok (.iload 9, 2) := by decide +kernel
theorem dX12_pays_150 : decode cX12_pays 150 = .ok (.iaload, 1) := by decide +kernel
theorem dX12_pays_151 : decode cX12_pays 151 = .ok (.istore 10, 2) := by decide +kernel
theorem dX12_pays_153 : decode cX12_pays 153 = .ok (.iload 8, 2) := by decide +kernel
theorem dX12_pays_155 : decode cX12_pays 155 = .ok (.ldc_w 383, 3) := by decide +kernel
theorem dX12_pays_158 : decode cX12_pays 158 = .ok (.if_icmp .eq 11, 3) := by decide +kernel
theorem dX12_pays_161 : decode cX12_pays 161 = .ok (.iload 10, 2) := by decide +kernel
theorem dX12_pays_163 : decode cX12_pays 163 = .ok (.ldc_w 383, 3) := by decide +kernel
theorem dX12_pays_166 : decode cX12_pays 166 = .ok (.if_icmp .ne 9, 3) := by decide +kernel
theorem dX12_pays_169 : decode cX12_pays 169 = .ok (.ldc_w 383, 3) := by decide +kernel
theorem dX12_pays_172 : decode cX12_pays 172 = .ok (.goto 8, 3) := by decide +kernel
theorem dX12_pays_175 : decode cX12_pays 175 = .ok (.iload 8, 2) := by decide +kernel
theorem dX12_pays_177 : decode cX12_pays 177 = .ok (.iload 10, 2) := by decide +kernel
theorem dX12_pays_179 : decode cX12_pays 179 = .ok (.iadd, 1) := by decide +kernel
theorem dX12_pays_180 : decode cX12_pays 180 = .ok (.istore 8, 2) := by decide +kernel
theorem dX12_pays_182 : decode cX12_pays 182 = .ok (.iinc 9 1, 3) := by decide +kernel
theorem dX12_pays_185 : decode cX12_pays 185 = .ok (.goto (-103), 3) := by decide +kernel
theorem dX12_pays_188 : decode cX12_pays 188 = .ok (.iload 7, 2) := by decide +kernel
theorem dX12_pays_190 : decode cX12_pays 190 = .ok (.iload_n 2, 1) := by decide +kernel
theorem dX12_pays_191 : decode cX12_pays 191 = .ok (.if_icmp .lt 32, 3) := by decide +kernel
theorem dX12_pays_194 : decode cX12_pays 194 = .ok (.iload_n 3, 1) := by decide +kernel
theorem dX12_pays_195 : decode cX12_pays 195 = .ok (.iconst 2, 1) := by decide +kernel
theorem dX12_pays_196 : decode cX12_pays 196 = .ok (.if_icmp .ge 9, 3) := by decide +kernel
theorem dX12_pays_199 : decode cX12_pays 199 = .ok (.iload 7, 2) := by decide +kernel
theorem dX12_pays_201 : decode cX12_pays 201 = .ok (.iload_n 2, 1) := by decide +kernel
theorem dX12_pays_202 : decode cX12_pays 202 = .ok (.if_icmp .gt 21, 3) := by decide +kernel
theorem dX12_pays_205 : decode cX12_pays 205 = .ok (.iload 8, 2) := by decide +kernel
theorem dX12_pays_207 : decode cX12_pays 207 = .ok (.iload 5, 2) := by decide +kernel
theorem dX12_pays_209 : decode cX12_pays 209 = .ok (.if_icmp .lt 6, 3) := by decide +kernel
theorem dX12_pays_212 : decode cX12_pays 212 = .ok (.goto 11, 3) := by decide +kernel
theorem dX12_pays_215 : decode cX12_pays 215 = .ok (.iload 6, 2) := by decide +kernel
theorem dX12_pays_217 : decode cX12_pays 217 = .ok (.istore 4, 2) := by decide +kernel
theorem dX12_pays_219 : decode cX12_pays 219 = .ok (.iload 8, 2) := by decide +kernel
theorem dX12_pays_221 : decode cX12_pays 221 = .ok (.istore 5, 2) := by decide +kernel
theorem dX12_pays_223 : decode cX12_pays 223 = .ok (.iinc 6 1, 3) := by decide +kernel
theorem dX12_pays_226 : decode cX12_pays 226 = .ok (.goto (-166), 3) := by decide +kernel
theorem dX12_pays_229 : decode cX12_pays 229 = .ok (.iload 4, 2) := by decide +kernel
theorem dX12_pays_231 : decode cX12_pays 231 = .ok (.iconst (-1), 1) := by decide +kernel
theorem dX12_pays_232 : decode cX12_pays 232 = .ok (.if_icmp .eq 10, 3) := by decide +kernel
theorem dX12_pays_235 : decode cX12_pays 235 = .ok (.iload_n 3, 1) := by decide +kernel
theorem dX12_pays_236 : decode cX12_pays 236 = .ok (.iconst 2, 1) := by decide +kernel
theorem dX12_pays_237 : decode cX12_pays 237 = .ok (.irem, 1) := by decide +kernel
theorem dX12_pays_238 : decode cX12_pays 238 = .ok (.iconst 1, 1) := by decide +kernel
theorem dX12_pays_239 : decode cX12_pays 239 = .ok (.if_icmp .ne 8, 3) := by decide +kernel
theorem dX12_pays_242 : decode cX12_pays 242 = .ok (.iload 4, 2) := by decide +kernel
theorem dX12_pays_244 : decode cX12_pays 244 = .ok (.goto 5, 3) := by decide +kernel
theorem dX12_pays_247 : decode cX12_pays 247 = .ok (.iload 5, 2) := by decide +kernel
theorem dX12_pays_249 : decode cX12_pays 249 = .ok (.ireturn, 1) := by decide +kernel
theorem dX12_canPair_0 : decode cX12_canPair 0 = .ok (.aload_n 0, 1) := by decide +kernel
theorem dX12_canPair_1 : decode cX12_canPair 1 = .ok (.iload_n 1, 1) := by decide +kernel
theorem dX12_canPair_2 : decode cX12_canPair 2 = .ok (.iload_n 2, 1) := by decide +kernel
theorem dX12_canPair_3 : decode cX12_canPair 3 = .ok (.invokevirtual 264, 3) := by decide +kernel
theorem dX12_canPair_6 : decode cX12_canPair 6 = .ok (.ifCond .ne 30, 3) := by decide +kernel
theorem dX12_canPair_9 : decode cX12_canPair 9 = .ok (.aload_n 0, 1) := by decide +kernel
theorem dX12_canPair_10 : decode cX12_canPair 10 = .ok (.getfield 13, 3) := by decide +kernel
theorem dX12_canPair_13 : decode cX12_canPair 13 = .ok (.bipush 46, 2) := by decide +kernel
theorem dX12_canPair_15 : decode cX12_canPair 15 = .ok (.iload_n 1, 1) := by decide +kernel
theorem dX12_canPair_16 : decode cX12_canPair 16 = .ok (.iadd, 1) := by decide +kernel
theorem dX12_canPair_17 : decode cX12_canPair 17 = .ok (.iaload, 1) := by decide +kernel
theorem dX12_canPair_18 : decode cX12_canPair 18 = .ok (.aload_n 0, 1) := by decide +kernel
theorem dX12_canPair_19 : decode cX12_canPair 19 = .ok (.getfield 13, 3) := by decide +kernel
theorem dX12_canPair_22 : decode cX12_canPair 22 = .ok (.bipush 46, 2) := by decide +kernel
theorem dX12_canPair_24 : decode cX12_canPair 24 = .ok (.iload_n 2, 1) := by decide +kernel
theorem dX12_canPair_25 : decode cX12_canPair 25 = .ok (.iadd, 1) := by decide +kernel
theorem dX12_canPair_26 : decode cX12_canPair 26 = .ok (.iaload, 1) := by decide +kernel
theorem dX12_canPair_27 : decode cX12_canPair 27 = .ok (.iadd, 1) := by decide +kernel
theorem dX12_canPair_28 : decode cX12_canPair 28 = .ok (.iload_n 3, 1) := by decide +kernel
theorem dX12_canPair_29 : decode cX12_canPair 29 = .ok (.if_icmp .lt 7, 3) := by decide +kernel
theorem dX12_canPair_32 : decode cX12_canPair 32 = .ok (.iconst 1, 1) := by decide +kernel
theorem dX12_canPair_33 : decode cX12_canPair 33 = .ok (.goto 4, 3) := by decide +kernel
theorem dX12_canPair_36 : decode cX12_canPair 36 = .ok (.iconst 0, 1) := by decide +kernel
theorem dX12_canPair_37 : decode cX12_canPair 37 = .ok (.ireturn, 1) := by decide +kernel
theorem dX12_leastOf_0 : decode cX12_leastOf 0 = .ok (.iconst 0, 1) := by decide +kernel
theorem dX12_leastOf_1 : decode cX12_leastOf 1 = .ok (.istore_n 1, 1) := by decide +kernel
theorem dX12_leastOf_2 : decode cX12_leastOf 2 = .ok (.iload_n 0, 1) := by decide +kernel
theorem dX12_leastOf_3 : decode cX12_leastOf 3 = .ok (.i2l, 1) := by decide +kernel
theorem dX12_leastOf_4 : decode cX12_leastOf 4 = .ok (.iload_n 1, 1) := by decide +kernel
theorem dX12_leastOf_5 : decode cX12_leastOf 5 = .ok (.invokestatic 233, 3) := by decide +kernel
theorem dX12_leastOf_8 : decode cX12_leastOf 8 = .ok (.ifCond .ne 9, 3) := by decide +kernel
theorem dX12_leastOf_11 : decode cX12_leastOf 11 = .ok (.iinc 1 1, 3) := by decide +kernel
theorem dX12_leastOf_14 : decode cX12_leastOf 14 = .ok (.goto (-12), 3) := by decide +kernel
theorem dX12_leastOf_17 : decode cX12_leastOf 17 = .ok (.iload_n 1, 1) := by decide +kernel
theorem dX12_leastOf_18 : decode cX12_leastOf 18 = .ok (.ireturn, 1) := by decide +kernel
theorem dX12_laysPairs_0 : decode cX12_laysPairs 0 = .ok (.aload_n 0, 1) := by decide +kernel
theorem dX12_laysPairs_1 : decode cX12_laysPairs 1 = .ok (.getfield 64, 3) := by decide +kernel
theorem dX12_laysPairs_4 : decode cX12_laysPairs 4 = .ok (.iconst 0, 1) := by decide +kernel
theorem dX12_laysPairs_5 : decode cX12_laysPairs 5 = .ok (.iconst 0, 1) := by decide +kernel
theorem dX12_laysPairs_6 : decode cX12_laysPairs 6 = .ok (.iastore, 1) := by decide +kernel
theorem dX12_laysPairs_7 : decode cX12_laysPairs 7 = .ok (.iconst 1, 1) := by decide +kernel
theorem dX12_laysPairs_8 : decode cX12_laysPairs 8 = .ok (.istore_n 2, 1) := by decide +kernel
theorem dX12_laysPairs_9 : decode cX12_laysPairs 9 = .ok (.iload_n 2, 1) := by decide +kernel
theorem dX12_laysPairs_10 : decode cX12_laysPairs 10 = .ok (.iconst 1, 1) := by decide +kernel
theorem dX12_laysPairs_11 : decode cX12_laysPairs 11 = .ok (.aload_n 0, 1) := by decide +kernel
theorem dX12_laysPairs_12 : decode cX12_laysPairs 12 = .ok (.getfield 13, 3) := by decide +kernel
theorem dX12_laysPairs_15 : decode cX12_laysPairs 15 = .ok (.iconst 3, 1) := by decide +kernel
theorem dX12_laysPairs_16 : decode cX12_laysPairs 16 = .ok (.iaload, 1) := by decide +kernel
theorem dX12_laysPairs_17 : decode cX12_laysPairs 17 = .ok (.ishl, 1) := by decide +kernel
theorem dX12_laysPairs_18 : decode cX12_laysPairs 18 = .ok (.if_icmp .ge 121, 3) := by decide +kernel
theorem dX12_laysPairs_21 : decode cX12_laysPairs 21 = .ok (.iload_n 2, 1) := by decide +kernel
theorem dX12_laysPairs_22 : decode cX12_laysPairs 22 = .ok (.invokestatic 413, 3) := by decide +kernel
theorem dX12_laysPairs_25 : decode cX12_laysPairs 25 = .ok (.istore_n 3, 1) := by decide +kernel
theorem dX12_laysPairs_26 : decode cX12_laysPairs 26 = .ok (.iload_n 2, 1) := by decide +kernel
theorem dX12_laysPairs_27 : decode cX12_laysPairs 27 = .ok (.iconst 1, 1) := by decide +kernel
theorem dX12_laysPairs_28 : decode cX12_laysPairs 28 = .ok (.iload_n 3, 1) := by decide +kernel
theorem dX12_laysPairs_29 : decode cX12_laysPairs 29 = .ok (.ishl, 1) := by decide +kernel
theorem dX12_laysPairs_30 : decode cX12_laysPairs 30 = .ok (.iconst (-1), 1) := by decide +kernel
theorem dX12_laysPairs_31 : decode cX12_laysPairs 31 = .ok (.ixor, 1) := by decide +kernel
theorem dX12_laysPairs_32 : decode cX12_laysPairs 32 = .ok (.iand, 1) := by decide +kernel
theorem dX12_laysPairs_33 : decode cX12_laysPairs 33 = .ok (.istore 4, 2) := by decide +kernel
theorem dX12_laysPairs_35 : decode cX12_laysPairs 35 = .ok (.aload_n 0, 1) := by decide +kernel
theorem dX12_laysPairs_36 : decode cX12_laysPairs 36 = .ok (.getfield 64, 3) := by decide +kernel
theorem dX12_laysPairs_39 : decode cX12_laysPairs 39 = .ok (.iload 4, 2) := by decide +kernel
theorem dX12_laysPairs_41 : decode cX12_laysPairs 41 = .ok (.iaload, 1) := by decide +kernel
theorem dX12_laysPairs_42 : decode cX12_laysPairs 42 = .ok (.istore 5, 2) := by decide +kernel
theorem dX12_laysPairs_44 : decode cX12_laysPairs 44 = .ok (.iload_n 3, 1) := by decide +kernel
theorem dX12_laysPairs_45 : decode cX12_laysPairs 45 = .ok (.iconst 1, 1) := by decide +kernel
theorem dX12_laysPairs_46 : decode cX12_laysPairs 46 = .ok (.iadd, 1) := by decide +kernel
theorem dX12_laysPairs_47 : decode cX12_laysPairs 47 = .ok (.istore 6, 2) := by decide +kernel
theorem dX12_laysPairs_49 : decode cX12_laysPairs 49 = .ok (.iload 6, 2) := by decide +kernel
theorem dX12_laysPairs_51 : decode cX12_laysPairs 51 = .ok (.aload_n 0, 1) := by decide +kernel
theorem dX12_laysPairs_52 : decode cX12_laysPairs 52 = .ok (.getfield 13, 3) := by decide +kernel
theorem dX12_laysPairs_55 : decode cX12_laysPairs 55 = .ok (.iconst 3, 1) := by decide +kernel
theorem dX12_laysPairs_56 : decode cX12_laysPairs 56 = .ok (.iaload, 1) := by decide +kernel
theorem dX12_laysPairs_57 : decode cX12_laysPairs 57 = .ok (.if_icmp .ge 68, 3) := by decide +kernel
theorem dX12_laysPairs_60 : decode cX12_laysPairs 60 = .ok (.iload 4, 2) := by decide +kernel
theorem dX12_laysPairs_62 : decode cX12_laysPairs 62 = .ok (.i2l, 1) := by decide +kernel
theorem dX12_laysPairs_63 : decode cX12_laysPairs 63 = .ok (.iload 6, 2) := by decide +kernel
theorem dX12_laysPairs_65 : decode cX12_laysPairs 65 = .ok (.invokestatic 233, 3) := by decide +kernel
theorem dX12_laysPairs_68 : decode cX12_laysPairs 68 = .ok (.ifCond .eq 51, 3) := by decide +kernel
theorem dX12_laysPairs_71 : decode cX12_laysPairs 71 = .ok (.aload_n 0, 1) := by decide +kernel
theorem dX12_laysPairs_72 : decode cX12_laysPairs 72 = .ok (.iload_n 3, 1) := by decide +kernel
theorem dX12_laysPairs_73 : decode cX12_laysPairs 73 = .ok (.iload 6, 2) := by decide +kernel
theorem dX12_laysPairs_75 : decode cX12_laysPairs 75 = .ok (.iload_n 1, 1) := by decide +kernel
theorem dX12_laysPairs_76 : decode cX12_laysPairs 76 = .ok (.invokevirtual 416, 3) := by decide +kernel
theorem dX12_laysPairs_79 : decode cX12_laysPairs 79 = .ok (.ifCond .ne 6, 3) := by decide +kernel
theorem dX12_laysPairs_82 : decode cX12_laysPairs 82 = .ok (.goto 37, 3) := by decide +kernel
theorem dX12_laysPairs_85 : decode cX12_laysPairs 85 = .ok (.iconst 1, 1) := by decide +kernel
theorem dX12_laysPairs_86 : decode cX12_laysPairs 86 = .ok (.aload_n 0, 1) := by decide +kernel
theorem dX12_laysPairs_87 : decode cX12_laysPairs 87 = .ok (.getfield 64, 3) := by decide +kernel
theorem dX12_laysPairs_90 : decode cX12_laysPairs 90 = .ok (.iload 4, 2) := by decide +kernel
theorem dX12_laysPairs_92 : decode cX12_laysPairs 92 = .ok (.iconst 1, 1) := by decide +kernel
theorem dX12_laysPairs_93 : decode cX12_laysPairs 93 = .ok (.iload 6, 2) := by decide +kernel
theorem dX12_laysPairs_95 : decode cX12_laysPairs 95 = .ok (.ishl, 1) := by decide +kernel
theorem dX12_laysPairs_96 : decode cX12_laysPairs 96 = .ok (.iconst (-1), 1) := by decide +kernel
theorem dX12_laysPairs_97 : decode cX12_laysPairs 97 = .ok (.ixor, 1) := by decide +kernel
theorem dX12_laysPairs_98 : decode cX12_laysPairs 98 = .ok (.iand, 1) := by decide +kernel
theorem dX12_laysPairs_99 : decode cX12_laysPairs 99 = .ok (.iaload, 1) := by decide +kernel
theorem dX12_laysPairs_100 : decode cX12_laysPairs 100 = .ok (.iadd, 1) := by decide +kernel
theorem dX12_laysPairs_101 : decode cX12_laysPairs 101 = .ok (.istore 7, 2) := by decide +kernel
theorem dX12_laysPairs_103 : decode cX12_laysPairs 103 = .ok (.iload 7, 2) := by decide +kernel
theorem dX12_laysPairs_105 : decode cX12_laysPairs 105 = .ok (.iload 5, 2) := by decide +kernel
theorem dX12_laysPairs_107 : decode cX12_laysPairs 107 = .ok (.if_icmp .le 8, 3) := by decide +kernel
theorem dX12_laysPairs_110 : decode cX12_laysPairs 110 = .ok (.iload 7, 2) := by decide +kernel
theorem dX12_laysPairs_112 : decode cX12_laysPairs 112 = .ok (.goto 5, 3) := by decide +kernel
theorem dX12_laysPairs_115 : decode cX12_laysPairs 115 = .ok (.iload 5, 2) := by decide +kernel
theorem dX12_laysPairs_117 : decode cX12_laysPairs 117 = .ok (.istore 5, 2) := by decide +kernel
theorem dX12_laysPairs_119 : decode cX12_laysPairs 119 = .ok (.iinc 6 1, 3) := by decide +kernel
theorem dX12_laysPairs_122 : decode cX12_laysPairs 122 = .ok (.goto (-73), 3) := by decide +kernel
theorem dX12_laysPairs_125 : decode cX12_laysPairs 125 = .ok (.aload_n 0, 1) := by decide +kernel
theorem dX12_laysPairs_126 : decode cX12_laysPairs 126 = .ok (.getfield 64, 3) := by decide +kernel
theorem dX12_laysPairs_129 : decode cX12_laysPairs 129 = .ok (.iload_n 2, 1) := by decide +kernel
theorem dX12_laysPairs_130 : decode cX12_laysPairs 130 = .ok (.iload 5, 2) := by decide +kernel
theorem dX12_laysPairs_132 : decode cX12_laysPairs 132 = .ok (.iastore, 1) := by decide +kernel
theorem dX12_laysPairs_133 : decode cX12_laysPairs 133 = .ok (.iinc 2 1, 3) := by decide +kernel
theorem dX12_laysPairs_136 : decode cX12_laysPairs 136 = .ok (.goto (-127), 3) := by decide +kernel
theorem dX12_laysPairs_139 : decode cX12_laysPairs 139 = .ok (.return_, 1) := by decide +kernel
theorem dX12_everybody_0 : decode cX12_everybody 0 = .ok (.iconst 1, 1) := by decide +kernel
theorem dX12_everybody_1 : decode cX12_everybody 1 = .ok (.aload_n 0, 1) := by decide +kernel
theorem dX12_everybody_2 : decode cX12_everybody 2 = .ok (.getfield 13, 3) := by decide +kernel
theorem dX12_everybody_5 : decode cX12_everybody 5 = .ok (.iconst 3, 1) := by decide +kernel
theorem dX12_everybody_6 : decode cX12_everybody 6 = .ok (.iaload, 1) := by decide +kernel
theorem dX12_everybody_7 : decode cX12_everybody 7 = .ok (.ishl, 1) := by decide +kernel
theorem dX12_everybody_8 : decode cX12_everybody 8 = .ok (.iconst 1, 1) := by decide +kernel
theorem dX12_everybody_9 : decode cX12_everybody 9 = .ok (.isub, 1) := by decide +kernel
theorem dX12_everybody_10 : decode cX12_everybody 10 = .ok (.ireturn, 1) := by decide +kernel
theorem dX12_pairs_0 : decode cX12_pairs 0 = .ok (.aload_n 0, 1) := by decide +kernel
theorem dX12_pairs_1 : decode cX12_pairs 1 = .ok (.iconst 0, 1) := by decide +kernel
theorem dX12_pairs_2 : decode cX12_pairs 2 = .ok (.putfield 1, 3) := by decide +kernel
theorem dX12_pairs_5 : decode cX12_pairs 5 = .ok (.iload_n 1, 1) := by decide +kernel
theorem dX12_pairs_6 : decode cX12_pairs 6 = .ok (.i2l, 1) := by decide +kernel
theorem dX12_pairs_7 : decode cX12_pairs 7 = .ok (.lconst 0, 1) := by decide +kernel
theorem dX12_pairs_8 : decode cX12_pairs 8 = .ok (.ldc2_w 419, 3) := by decide +kernel
theorem dX12_pairs_11 : decode cX12_pairs 11 = .ok (.invokestatic 154, 3) := by decide +kernel
theorem dX12_pairs_14 : decode cX12_pairs 14 = .ok (.ifCond .ne 6, 3) := by decide +kernel
theorem dX12_pairs_17 : decode cX12_pairs 17 = .ok (.bipush (-3), 2) := by decide +kernel
theorem dX12_pairs_19 : decode cX12_pairs 19 = .ok (.ireturn, 1) := by decide +kernel
theorem dX12_pairs_20 : decode cX12_pairs 20 = .ok (.aload_n 0, 1) := by decide +kernel
theorem dX12_pairs_21 : decode cX12_pairs 21 = .ok (.iload_n 1, 1) := by decide +kernel
theorem dX12_pairs_22 : decode cX12_pairs 22 = .ok (.invokevirtual 421, 3) := by decide +kernel
theorem dX12_pairs_25 : decode cX12_pairs 25 = .ok (.aload_n 0, 1) := by decide +kernel
theorem dX12_pairs_26 : decode cX12_pairs 26 = .ok (.getfield 64, 3) := by decide +kernel
theorem dX12_pairs_29 : decode cX12_pairs 29 = .ok (.aload_n 0, 1) := by decide +kernel
theorem dX12_pairs_30 : decode cX12_pairs 30 = .ok (.invokevirtual 424, 3) := by decide +kernel
theorem dX12_pairs_33 : decode cX12_pairs 33 = .ok (.iaload, 1) := by decide +kernel
theorem dX12_pairs_34 : decode cX12_pairs 34 = .ok (.ireturn, 1) := by decide +kernel
theorem dX12_partnerIn_0 : decode cX12_partnerIn 0 = .ok (.iload_n 1, 1) := by decide +kernel
theorem dX12_partnerIn_1 : decode cX12_partnerIn 1 = .ok (.invokestatic 413, 3) := by decide +kernel
theorem dX12_partnerIn_4 : decode cX12_partnerIn 4 = .ok (.istore_n 3, 1) := by decide +kernel
theorem dX12_partnerIn_5 : decode cX12_partnerIn 5 = .ok (.iload_n 1, 1) := by decide +kernel
theorem dX12_partnerIn_6 : decode cX12_partnerIn 6 = .ok (.iconst 1, 1) := by decide +kernel
theorem dX12_partnerIn_7 : decode cX12_partnerIn 7 = .ok (.iload_n 3, 1) := by decide +kernel
theorem dX12_partnerIn_8 : decode cX12_partnerIn 8 = .ok (.ishl, 1) := by decide +kernel
theorem dX12_partnerIn_9 : decode cX12_partnerIn 9 = .ok (.iconst (-1), 1) := by decide +kernel
theorem dX12_partnerIn_10 : decode cX12_partnerIn 10 = .ok (.ixor, 1) := by decide +kernel
theorem dX12_partnerIn_11 : decode cX12_partnerIn 11 = .ok (.iand, 1) := by decide +kernel
theorem dX12_partnerIn_12 : decode cX12_partnerIn 12 = .ok (.istore 4, 2) := by decide +kernel
theorem dX12_partnerIn_14 : decode cX12_partnerIn 14 = .ok (.iload_n 3, 1) := by decide +kernel
theorem dX12_partnerIn_15 : decode cX12_partnerIn 15 = .ok (.iconst 1, 1) := by decide +kernel
theorem dX12_partnerIn_16 : decode cX12_partnerIn 16 = .ok (.iadd, 1) := by decide +kernel
theorem dX12_partnerIn_17 : decode cX12_partnerIn 17 = .ok (.istore 5, 2) := by decide +kernel
theorem dX12_partnerIn_19 : decode cX12_partnerIn 19 = .ok (.iload 5, 2) := by decide +kernel
theorem dX12_partnerIn_21 : decode cX12_partnerIn 21 = .ok (.aload_n 0, 1) := by decide +kernel
theorem dX12_partnerIn_22 : decode cX12_partnerIn 22 = .ok (.getfield 13, 3) := by decide +kernel
theorem dX12_partnerIn_25 : decode cX12_partnerIn 25 = .ok (.iconst 3, 1) := by decide +kernel
theorem dX12_partnerIn_26 : decode cX12_partnerIn 26 = .ok (.iaload, 1) := by decide +kernel
theorem dX12_partnerIn_27 : decode cX12_partnerIn 27 = .ok (.if_icmp .ge 59, 3) := by decide +kernel
theorem dX12_partnerIn_30 : decode cX12_partnerIn 30 = .ok (.iload 4, 2) := by decide +kernel
theorem dX12_partnerIn_32 : decode cX12_partnerIn 32 = .ok (.i2l, 1) := by decide +kernel
theorem dX12_partnerIn_33 : decode cX12_partnerIn 33 = .ok (.iload 5, 2) := by decide +kernel
theorem dX12_partnerIn_35 : decode cX12_partnerIn 35 = .ok (.invokestatic 233, 3) := by decide +kernel
theorem dX12_partnerIn_38 : decode cX12_partnerIn 38 = .ok (.ifCond .eq 42, 3) := by decide +kernel
theorem dX12_partnerIn_41 : decode cX12_partnerIn 41 = .ok (.aload_n 0, 1) := by decide +kernel
theorem dX12_partnerIn_42 : decode cX12_partnerIn 42 = .ok (.iload_n 3, 1) := by decide +kernel
theorem dX12_partnerIn_43 : decode cX12_partnerIn 43 = .ok (.iload 5, 2) := by decide +kernel
theorem dX12_partnerIn_45 : decode cX12_partnerIn 45 = .ok (.iload_n 2, 1) := by decide +kernel
theorem dX12_partnerIn_46 : decode cX12_partnerIn 46 = .ok (.invokevirtual 416, 3) := by decide +kernel
theorem dX12_partnerIn_49 : decode cX12_partnerIn 49 = .ok (.ifCond .eq 31, 3) := by decide +kernel
theorem dX12_partnerIn_52 : decode cX12_partnerIn 52 = .ok (.iconst 1, 1) := by decide +kernel
theorem dX12_partnerIn_53 : decode cX12_partnerIn 53 = .ok (.aload_n 0, 1) := by decide +kernel
theorem dX12_partnerIn_54 : decode cX12_partnerIn 54 = .ok (.getfield 64, 3) := by decide +kernel
theorem dX12_partnerIn_57 : decode cX12_partnerIn 57 = .ok (.iload 4, 2) := by decide +kernel
theorem dX12_partnerIn_59 : decode cX12_partnerIn 59 = .ok (.iconst 1, 1) := by decide +kernel
theorem dX12_partnerIn_60 : decode cX12_partnerIn 60 = .ok (.iload 5, 2) := by decide +kernel
theorem dX12_partnerIn_62 : decode cX12_partnerIn 62 = .ok (.ishl, 1) := by decide +kernel
theorem dX12_partnerIn_63 : decode cX12_partnerIn 63 = .ok (.iconst (-1), 1) := by decide +kernel
theorem dX12_partnerIn_64 : decode cX12_partnerIn 64 = .ok (.ixor, 1) := by decide +kernel
theorem dX12_partnerIn_65 : decode cX12_partnerIn 65 = .ok (.iand, 1) := by decide +kernel
theorem dX12_partnerIn_66 : decode cX12_partnerIn 66 = .ok (.iaload, 1) := by decide +kernel
theorem dX12_partnerIn_67 : decode cX12_partnerIn 67 = .ok (.iadd, 1) := by decide +kernel
theorem dX12_partnerIn_68 : decode cX12_partnerIn 68 = .ok (.aload_n 0, 1) := by decide +kernel
theorem dX12_partnerIn_69 : decode cX12_partnerIn 69 = .ok (.getfield 64, 3) := by decide +kernel
theorem dX12_partnerIn_72 : decode cX12_partnerIn 72 = .ok (.iload_n 1, 1) := by decide +kernel
theorem dX12_partnerIn_73 : decode cX12_partnerIn 73 = .ok (.iaload, 1) := by decide +kernel
theorem dX12_partnerIn_74 : decode cX12_partnerIn 74 = .ok (.if_icmp .ne 6, 3) := by decide +kernel
theorem dX12_partnerIn_77 : decode cX12_partnerIn 77 = .ok (.iload 5, 2) := by decide +kernel
theorem dX12_partnerIn_79 : decode cX12_partnerIn 79 = .ok (.ireturn, 1) := by decide +kernel
theorem dX12_partnerIn_80 : decode cX12_partnerIn 80 = .ok (.iinc 5 1, 3) := by decide +kernel
theorem dX12_partnerIn_83 : decode cX12_partnerIn 83 = .ok (.goto (-64), 3) := by decide +kernel
theorem dX12_partnerIn_86 : decode cX12_partnerIn 86 = .ok (.iconst (-1), 1) := by decide +kernel
theorem dX12_partnerIn_87 : decode cX12_partnerIn 87 = .ok (.ireturn, 1) := by decide +kernel
theorem dX12_with_0 : decode cX12_with 0 = .ok (.aload_n 0, 1) := by decide +kernel
theorem dX12_with_1 : decode cX12_with 1 = .ok (.iconst 0, 1) := by decide +kernel
theorem dX12_with_2 : decode cX12_with 2 = .ok (.putfield 1, 3) := by decide +kernel
theorem dX12_with_5 : decode cX12_with 5 = .ok (.aload_n 0, 1) := by decide +kernel
theorem dX12_with_6 : decode cX12_with 6 = .ok (.iload_n 2, 1) := by decide +kernel
theorem dX12_with_7 : decode cX12_with 7 = .ok (.i2l, 1) := by decide +kernel
theorem dX12_with_8 : decode cX12_with 8 = .ok (.invokevirtual 272, 3) := by decide +kernel
theorem dX12_with_11 : decode cX12_with 11 = .ok (.ifCond .ne 6, 3) := by decide +kernel
theorem dX12_with_14 : decode cX12_with 14 = .ok (.bipush (-2), 2) := by decide +kernel
theorem dX12_with_16 : decode cX12_with 16 = .ok (.ireturn, 1) := by decide +kernel
theorem dX12_with_17 : decode cX12_with 17 = .ok (.iload_n 1, 1) := by decide +kernel
theorem dX12_with_18 : decode cX12_with 18 = .ok (.i2l, 1) := by decide +kernel
theorem dX12_with_19 : decode cX12_with 19 = .ok (.lconst 0, 1) := by decide +kernel
theorem dX12_with_20 : decode cX12_with 20 = .ok (.ldc2_w 419, 3) := by decide +kernel
theorem dX12_with_23 : decode cX12_with 23 = .ok (.invokestatic 154, 3) := by decide +kernel
theorem dX12_with_26 : decode cX12_with 26 = .ok (.ifCond .ne 6, 3) := by decide +kernel
theorem dX12_with_29 : decode cX12_with 29 = .ok (.bipush (-3), 2) := by decide +kernel
theorem dX12_with_31 : decode cX12_with 31 = .ok (.ireturn, 1) := by decide +kernel
theorem dX12_with_32 : decode cX12_with 32 = .ok (.aload_n 0, 1) := by decide +kernel
theorem dX12_with_33 : decode cX12_with 33 = .ok (.iload_n 1, 1) := by decide +kernel
theorem dX12_with_34 : decode cX12_with 34 = .ok (.invokevirtual 421, 3) := by decide +kernel
theorem dX12_with_37 : decode cX12_with 37 = .ok (.aload_n 0, 1) := by decide +kernel
theorem dX12_with_38 : decode cX12_with 38 = .ok (.invokevirtual 424, 3) := by decide +kernel
theorem dX12_with_41 : decode cX12_with 41 = .ok (.istore_n 3, 1) := by decide +kernel
theorem dX12_with_42 : decode cX12_with 42 = .ok (.iload_n 3, 1) := by decide +kernel
theorem dX12_with_43 : decode cX12_with 43 = .ok (.ifCond .eq 62, 3) := by decide +kernel
theorem dX12_with_46 : decode cX12_with 46 = .ok (.iload_n 3, 1) := by decide +kernel
theorem dX12_with_47 : decode cX12_with 47 = .ok (.invokestatic 413, 3) := by decide +kernel
theorem dX12_with_50 : decode cX12_with 50 = .ok (.istore 4, 2) := by decide +kernel
theorem dX12_with_52 : decode cX12_with 52 = .ok (.aload_n 0, 1) := by decide +kernel
theorem dX12_with_53 : decode cX12_with 53 = .ok (.iload_n 3, 1) := by decide +kernel
theorem dX12_with_54 : decode cX12_with 54 = .ok (.iload_n 1, 1) := by decide +kernel
theorem dX12_with_55 : decode cX12_with 55 = .ok (.invokevirtual 427, 3) := by decide +kernel
theorem dX12_with_58 : decode cX12_with 58 = .ok (.istore 5, 2) := by decide +kernel
theorem dX12_with_60 : decode cX12_with 60 = .ok (.iload 4, 2) := by decide +kernel
theorem dX12_with_62 : decode cX12_with 62 = .ok (.iload_n 2, 1) := by decide +kernel
theorem dX12_with_63 : decode cX12_with 63 = .ok (.if_icmp .ne 6, 3) := by decide +kernel
theorem dX12_with_66 : decode cX12_with 66 = .ok (.iload 5, 2) := by decide +kernel
theorem dX12_with_68 : decode cX12_with 68 = .ok (.ireturn, 1) := by decide +kernel
theorem dX12_with_69 : decode cX12_with 69 = .ok (.iload 5, 2) := by decide +kernel
theorem dX12_with_71 : decode cX12_with 71 = .ok (.iload_n 2, 1) := by decide +kernel
theorem dX12_with_72 : decode cX12_with 72 = .ok (.if_icmp .ne 6, 3) := by decide +kernel
theorem dX12_with_75 : decode cX12_with 75 = .ok (.iload 4, 2) := by decide +kernel
theorem dX12_with_77 : decode cX12_with 77 = .ok (.ireturn, 1) := by decide +kernel
theorem dX12_with_78 : decode cX12_with 78 = .ok (.iload_n 3, 1) := by decide +kernel
theorem dX12_with_79 : decode cX12_with 79 = .ok (.iconst 1, 1) := by decide +kernel
theorem dX12_with_80 : decode cX12_with 80 = .ok (.iload 4, 2) := by decide +kernel
theorem dX12_with_82 : decode cX12_with 82 = .ok (.ishl, 1) := by decide +kernel
theorem dX12_with_83 : decode cX12_with 83 = .ok (.iconst (-1), 1) := by decide +kernel
theorem dX12_with_84 : decode cX12_with 84 = .ok (.ixor, 1) := by decide +kernel
theorem dX12_with_85 : decode cX12_with 85 = .ok (.iand, 1) := by decide +kernel
theorem dX12_with_86 : decode cX12_with 86 = .ok (.istore_n 3, 1) := by decide +kernel
theorem dX12_with_87 : decode cX12_with 87 = .ok (.iload 5, 2) := by decide +kernel
theorem dX12_with_89 : decode cX12_with 89 = .ok (.iconst (-1), 1) := by decide +kernel
theorem dX12_with_90 : decode cX12_with 90 = .ok (.if_icmp .eq 12, 3) := by decide +kernel
theorem dX12_with_93 : decode cX12_with 93 = .ok (.iload_n 3, 1) := by decide +kernel
theorem dX12_with_94 : decode cX12_with 94 = .ok (.iconst 1, 1) := by decide +kernel
theorem dX12_with_95 : decode cX12_with 95 = .ok (.iload 5, 2) := by decide +kernel
theorem dX12_with_97 : decode cX12_with 97 = .ok (.ishl, 1) := by decide +kernel
theorem dX12_with_98 : decode cX12_with 98 = .ok (.iconst (-1), 1) := by decide +kernel
theorem dX12_with_99 : decode cX12_with 99 = .ok (.ixor, 1) := by decide +kernel
theorem dX12_with_100 : decode cX12_with 100 = .ok (.iand, 1) := by decide +kernel
theorem dX12_with_101 : decode cX12_with 101 = .ok (.istore_n 3, 1) := by decide +kernel
theorem dX12_with_102 : decode cX12_with 102 = .ok (.goto (-60), 3) := by decide +kernel
theorem dX12_with_105 : decode cX12_with 105 = .ok (.iconst (-1), 1) := by decide +kernel
theorem dX12_with_106 : decode cX12_with 106 = .ok (.ireturn, 1) := by decide +kernel
theorem dX12_lifters_0 : decode cX12_lifters 0 = .ok (.aload_n 0, 1) := by decide +kernel
theorem dX12_lifters_1 : decode cX12_lifters 1 = .ok (.iconst 0, 1) := by decide +kernel
theorem dX12_lifters_2 : decode cX12_lifters 2 = .ok (.putfield 1, 3) := by decide +kernel
theorem dX12_lifters_5 : decode cX12_lifters 5 = .ok (.iload_n 2, 1) := by decide +kernel
theorem dX12_lifters_6 : decode cX12_lifters 6 = .ok (.i2l, 1) := by decide +kernel
theorem dX12_lifters_7 : decode cX12_lifters 7 = .ok (.lconst 0, 1) := by decide +kernel
theorem dX12_lifters_8 : decode cX12_lifters 8 = .ok (.lconst 1, 1) := by decide +kernel
theorem dX12_lifters_9 : decode cX12_lifters 9 = .ok (.invokestatic 154, 3) := by decide +kernel
theorem dX12_lifters_12 : decode cX12_lifters 12 = .ok (.ifCond .ne 6, 3) := by decide +kernel
theorem dX12_lifters_15 : decode cX12_lifters 15 = .ok (.bipush (-2), 2) := by decide +kernel
theorem dX12_lifters_17 : decode cX12_lifters 17 = .ok (.ireturn, 1) := by decide +kernel
theorem dX12_lifters_18 : decode cX12_lifters 18 = .ok (.iload_n 1, 1) := by decide +kernel
theorem dX12_lifters_19 : decode cX12_lifters 19 = .ok (.i2l, 1) := by decide +kernel
theorem dX12_lifters_20 : decode cX12_lifters 20 = .ok (.lconst 0, 1) := by decide +kernel
theorem dX12_lifters_21 : decode cX12_lifters 21 = .ok (.ldc2_w 419, 3) := by decide +kernel
theorem dX12_lifters_24 : decode cX12_lifters 24 = .ok (.invokestatic 154, 3) := by decide +kernel
theorem dX12_lifters_27 : decode cX12_lifters 27 = .ok (.ifCond .ne 6, 3) := by decide +kernel
theorem dX12_lifters_30 : decode cX12_lifters 30 = .ok (.bipush (-3), 2) := by decide +kernel
theorem dX12_lifters_32 : decode cX12_lifters 32 = .ok (.ireturn, 1) := by decide +kernel
theorem dX12_lifters_33 : decode cX12_lifters 33 = .ok (.iconst (-1), 1) := by decide +kernel
theorem dX12_lifters_34 : decode cX12_lifters 34 = .ok (.istore_n 3, 1) := by decide +kernel
theorem dX12_lifters_35 : decode cX12_lifters 35 = .ok (.iconst 0, 1) := by decide +kernel
theorem dX12_lifters_36 : decode cX12_lifters 36 = .ok (.istore 4, 2) := by decide +kernel
theorem dX12_lifters_38 : decode cX12_lifters 38 = .ok (.iload 4, 2) := by decide +kernel
theorem dX12_lifters_40 : decode cX12_lifters 40 = .ok (.aload_n 0, 1) := by decide +kernel
theorem dX12_lifters_41 : decode cX12_lifters 41 = .ok (.invokevirtual 424, 3) := by decide +kernel
theorem dX12_lifters_44 : decode cX12_lifters 44 = .ok (.if_icmp .gt 88, 3) := by decide +kernel
theorem dX12_lifters_47 : decode cX12_lifters 47 = .ok (.iconst 0, 1) := by decide +kernel
theorem dX12_lifters_48 : decode cX12_lifters 48 = .ok (.istore 5, 2) := by decide +kernel
theorem dX12_lifters_50 : decode cX12_lifters 50 = .ok (.iconst 0, 1) := by decide +kernel
theorem dX12_lifters_51 : decode cX12_lifters 51 = .ok (.istore 6, 2) := by decide +kernel
theorem dX12_lifters_53 : decode cX12_lifters 53 = .ok (.iload 6, 2) := by decide +kernel
theorem dX12_lifters_55 : decode cX12_lifters 55 = .ok (.aload_n 0, 1) := by decide +kernel
theorem dX12_lifters_56 : decode cX12_lifters 56 = .ok (.getfield 13, 3) := by decide +kernel
theorem dX12_lifters_59 : decode cX12_lifters 59 = .ok (.iconst 3, 1) := by decide +kernel
theorem dX12_lifters_60 : decode cX12_lifters 60 = .ok (.iaload, 1) := by decide +kernel
theorem dX12_lifters_61 : decode cX12_lifters 61 = .ok (.if_icmp .ge 39, 3) := by decide +kernel
theorem dX12_lifters_64 : decode cX12_lifters 64 = .ok (.iload 5, 2) := by decide +kernel
theorem dX12_lifters_66 : decode cX12_lifters 66 = .ok (.iload 4, 2) := by decide +kernel
theorem dX12_lifters_68 : decode cX12_lifters 68 = .ok (.i2l, 1) := by decide +kernel
theorem dX12_lifters_69 : decode cX12_lifters 69 = .ok (.iload 6, 2) := by decide +kernel
theorem dX12_lifters_71 : decode cX12_lifters 71 = .ok (.invokestatic 233, 3) := by decide +kernel
theorem dX12_lifters_74 : decode cX12_lifters 74 = .ok (.ifCond .eq 16, 3) := by decide +kernel
theorem dX12_lifters_77 : decode cX12_lifters 77 = .ok (.aload_n 0, 1) := by decide +kernel
theorem dX12_lifters_78 : decode cX12_lifters 78 = .ok (.getfield 13, 3) := by decide +kernel
theorem dX12_lifters_81 : decode cX12_lifters 81 = .ok (.bipush 46, 2) := by decide +kernel
theorem dX12_lifters_83 : decode cX12_lifters 83 = .ok (.iload 6, 2) := by decide +kernel
theorem dX12_lifters_85 : decode cX12_lifters 85 = .ok (.iadd, 1) := by decide +kernel
theorem dX12_lifters_86 : decode cX12_lifters 86 = .ok (.iaload, 1) := by decide +kernel
theorem dX12_lifters_87 : decode cX12_lifters 87 = .ok (.goto 4, 3) := by decide +kernel
theorem dX12_lifters_90 : decode cX12_lifters 90 = .ok (.iconst 0, 1) := by decide +kernel
theorem dX12_lifters_91 : decode cX12_lifters 91 = .ok (.iadd, 1) := by decide +kernel
theorem dX12_lifters_92 : decode cX12_lifters 92 = .ok (.istore 5, 2) := by decide +kernel
theorem dX12_lifters_94 : decode cX12_lifters 94 = .ok (.iinc 6 1, 3) := by decide +kernel
theorem dX12_lifters_97 : decode cX12_lifters 97 = .ok (.goto (-44), 3) := by decide +kernel
theorem dX12_lifters_100 : decode cX12_lifters 100 = .ok (.iload 5, 2) := by decide +kernel
theorem dX12_lifters_102 : decode cX12_lifters 102 = .ok (.iload_n 1, 1) := by decide +kernel
theorem dX12_lifters_103 : decode cX12_lifters 103 = .ok (.if_icmp .lt 23, 3) := by decide +kernel
theorem dX12_lifters_106 : decode cX12_lifters 106 = .ok (.iload_n 3, 1) := by decide +kernel
theorem dX12_lifters_107 : decode cX12_lifters 107 = .ok (.iconst (-1), 1) := by decide +kernel
theorem dX12_lifters_108 : decode cX12_lifters 108 = .ok (.if_icmp .eq 15, 3) := by decide +kernel
theorem dX12_lifters_111 : decode cX12_lifters 111 = .ok (.iload 4, 2) := by decide +kernel
theorem dX12_lifters_113 : decode cX12_lifters 113 = .ok (.invokestatic 430, 3) := by decide +kernel
theorem dX12_lifters_116 : decode cX12_lifters 116 = .ok (.iload_n 3, 1) := by decide +kernel
theorem dX12_lifters_117 : decode cX12_lifters 117 = .ok (.invokestatic 430, 3) := by decide +kernel
theorem dX12_lifters_120 : decode cX12_lifters 120 = .ok (.if_icmp .ge 6, 3) := by decide +kernel
theorem dX12_lifters_123 : decode cX12_lifters 123 = .ok (.iload 4, 2) := by decide +kernel
theorem dX12_lifters_125 : decode cX12_lifters 125 = .ok (.istore_n 3, 1) := by decide +kernel
theorem dX12_lifters_126 : decode cX12_lifters 126 = .ok (.iinc 4 1, 3) := by decide +kernel
theorem dX12_lifters_129 : decode cX12_lifters 129 = .ok (.goto (-91), 3) := by decide +kernel
theorem dX12_lifters_132 : decode cX12_lifters 132 = .ok (.iload_n 3, 1) := by decide +kernel
theorem dX12_lifters_133 : decode cX12_lifters 133 = .ok (.iconst (-1), 1) := by decide +kernel
theorem dX12_lifters_134 : decode cX12_lifters 134 = .ok (.if_icmp .eq 8, 3) := by decide +kernel
theorem dX12_lifters_137 : decode cX12_lifters 137 = .ok (.iload_n 2, 1) := by decide +kernel
theorem dX12_lifters_138 : decode cX12_lifters 138 = .ok (.iconst 1, 1) := by decide +kernel
theorem dX12_lifters_139 : decode cX12_lifters 139 = .ok (.if_icmp .ne 7, 3) := by decide +kernel
theorem dX12_lifters_142 : decode cX12_lifters 142 = .ok (.iload_n 3, 1) := by decide +kernel
theorem dX12_lifters_143 : decode cX12_lifters 143 = .ok (.goto 7, 3) := by decide +kernel
theorem dX12_lifters_146 : decode cX12_lifters 146 = .ok (.iload_n 3, 1) := by decide +kernel
theorem dX12_lifters_147 : decode cX12_lifters 147 = .ok (.invokestatic 430, 3) := by decide +kernel
theorem dX12_lifters_150 : decode cX12_lifters 150 = .ok (.ireturn, 1) := by decide +kernel
theorem dX12_leads_0 : decode cX12_leads 0 = .ok (.iconst 1, 1) := by decide +kernel
theorem dX12_leads_1 : decode cX12_leads 1 = .ok (.iload_n 1, 1) := by decide +kernel
theorem dX12_leads_2 : decode cX12_leads 2 = .ok (.ishl, 1) := by decide +kernel
theorem dX12_leads_3 : decode cX12_leads 3 = .ok (.istore 4, 2) := by decide +kernel
theorem dX12_leads_5 : decode cX12_leads 5 = .ok (.iconst 0, 1) := by decide +kernel
theorem dX12_leads_6 : decode cX12_leads 6 = .ok (.istore 5, 2) := by decide +kernel
theorem dX12_leads_8 : decode cX12_leads 8 = .ok (.iload 5, 2) := by decide +kernel
theorem dX12_leads_10 : decode cX12_leads 10 = .ok (.bipush 6, 2) := by decide +kernel
theorem dX12_leads_12 : decode cX12_leads 12 = .ok (.if_icmp .ge 81, 3) := by decide +kernel
theorem dX12_leads_15 : decode cX12_leads 15 = .ok (.iconst 0, 1) := by decide +kernel
theorem dX12_leads_16 : decode cX12_leads 16 = .ok (.istore 6, 2) := by decide +kernel
theorem dX12_leads_18 : decode cX12_leads 18 = .ok (.iload 6, 2) := by decide +kernel
theorem dX12_leads_20 : decode cX12_leads 20 = .ok (.aload_n 0, 1) := by decide +kernel
theorem dX12_leads_21 : decode cX12_leads 21 = .ok (.getfield 13, 3) := by decide +kernel
theorem dX12_leads_24 : decode cX12_leads 24 = .ok (.iconst 2, 1) := by decide +kernel
theorem dX12_leads_25 : decode cX12_leads 25 = .ok (.iaload, 1) := by decide +kernel
theorem dX12_leads_26 : decode cX12_leads 26 = .ok (.if_icmp .ge 61, 3) := by decide +kernel
theorem dX12_leads_29 : decode cX12_leads 29 = .ok (.iconst 1, 1) := by decide +kernel
theorem dX12_leads_30 : decode cX12_leads 30 = .ok (.aload_n 0, 1) := by decide +kernel
theorem dX12_leads_31 : decode cX12_leads 31 = .ok (.getfield 13, 3) := by decide +kernel
theorem dX12_leads_34 : decode cX12_leads 34 = .ok (.bipush 11, 2) := by decide +kernel
theorem dX12_leads_36 : decode cX12_leads 36 = .ok (.iconst 3, 1) := by decide +kernel
theorem dX12_leads_37 : decode cX12_leads 37 = .ok (.iload 6, 2) := by decide +kernel
theorem dX12_leads_39 : decode cX12_leads 39 = .ok (.imul, 1) := by decide +kernel
theorem dX12_leads_40 : decode cX12_leads 40 = .ok (.iadd, 1) := by decide +kernel
theorem dX12_leads_41 : decode cX12_leads 41 = .ok (.iaload, 1) := by decide +kernel
theorem dX12_leads_42 : decode cX12_leads 42 = .ok (.ishl, 1) := by decide +kernel
theorem dX12_leads_43 : decode cX12_leads 43 = .ok (.iconst 1, 1) := by decide +kernel
theorem dX12_leads_44 : decode cX12_leads 44 = .ok (.aload_n 0, 1) := by decide +kernel
theorem dX12_leads_45 : decode cX12_leads 45 = .ok (.getfield 13, 3) := by decide +kernel
theorem dX12_leads_48 : decode cX12_leads 48 = .ok (.bipush 11, 2) := by decide +kernel
theorem dX12_leads_50 : decode cX12_leads 50 = .ok (.iconst 3, 1) := by decide +kernel
theorem dX12_leads_51 : decode cX12_leads 51 = .ok (.iload 6, 2) := by decide +kernel
theorem dX12_leads_53 : decode cX12_leads 53 = .ok (.imul, 1) := by decide +kernel
theorem dX12_leads_54 : decode cX12_leads 54 = .ok (.iadd, 1) := by decide +kernel
theorem dX12_leads_55 : decode cX12_leads 55 = .ok (.iconst 1, 1) := by decide +kernel
theorem dX12_leads_56 : decode cX12_leads 56 = .ok (.iadd, 1) := by decide +kernel
theorem dX12_leads_57 : decode cX12_leads 57 = .ok (.iaload, 1) := by decide +kernel
theorem dX12_leads_58 : decode cX12_leads 58 = .ok (.ishl, 1) := by decide +kernel
theorem dX12_leads_59 : decode cX12_leads 59 = .ok (.ior, 1) := by decide +kernel
theorem dX12_leads_60 : decode cX12_leads 60 = .ok (.istore 7, 2) := by decide +kernel
theorem dX12_leads_62 : decode cX12_leads 62 = .ok (.iload 4, 2) := by decide +kernel
theorem dX12_leads_64 : decode cX12_leads 64 = .ok (.iload 7, 2) := by decide +kernel
theorem dX12_leads_66 : decode cX12_leads 66 = .ok (.iand, 1) := by decide +kernel
theorem dX12_leads_67 : decode cX12_leads 67 = .ok (.ifCond .eq 14, 3) := by decide +kernel
theorem dX12_leads_70 : decode cX12_leads 70 = .ok (.iload 4, 2) := by decide +kernel
theorem dX12_leads_72 : decode cX12_leads 72 = .ok (.iload 7, 2) := by decide +kernel
theorem dX12_leads_74 : decode cX12_leads 74 = .ok (.iload_n 3, 1) := by decide +kernel
theorem dX12_leads_75 : decode cX12_leads 75 = .ok (.iconst (-1), 1) := by decide +kernel
theorem dX12_leads_76 : decode cX12_leads 76 = .ok (.ixor, 1) := by decide +kernel
theorem dX12_leads_77 : decode cX12_leads 77 = .ok (.iand, 1) := by decide +kernel
theorem dX12_leads_78 : decode cX12_leads 78 = .ok (.ior, 1) := by decide +kernel
theorem dX12_leads_79 : decode cX12_leads 79 = .ok (.istore 4, 2) := by decide +kernel
theorem dX12_leads_81 : decode cX12_leads 81 = .ok (.iinc 6 1, 3) := by decide +kernel
theorem dX12_leads_84 : decode cX12_leads 84 = .ok (.goto (-66), 3) := by decide +kernel
theorem dX12_leads_87 : decode cX12_leads 87 = .ok (.iinc 5 1, 3) := by decide +kernel
theorem dX12_leads_90 : decode cX12_leads 90 = .ok (.goto (-82), 3) := by decide +kernel
theorem dX12_leads_93 : decode cX12_leads 93 = .ok (.iload 4, 2) := by decide +kernel
theorem dX12_leads_95 : decode cX12_leads 95 = .ok (.i2l, 1) := by decide +kernel
theorem dX12_leads_96 : decode cX12_leads 96 = .ok (.iload_n 2, 1) := by decide +kernel
theorem dX12_leads_97 : decode cX12_leads 97 = .ok (.invokestatic 233, 3) := by decide +kernel
theorem dX12_leads_100 : decode cX12_leads 100 = .ok (.ireturn, 1) := by decide +kernel
theorem dX12_guards_0 : decode cX12_guards 0 = .ok (.aload_n 0, 1) := by decide +kernel
theorem dX12_guards_1 : decode cX12_guards 1 = .ok (.iconst 0, 1) := by decide +kernel
theorem dX12_guards_2 : decode cX12_guards 2 = .ok (.putfield 1, 3) := by decide +kernel
theorem dX12_guards_5 : decode cX12_guards 5 = .ok (.aload_n 0, 1) := by decide +kernel
theorem dX12_guards_6 : decode cX12_guards 6 = .ok (.iload_n 1, 1) := by decide +kernel
theorem dX12_guards_7 : decode cX12_guards 7 = .ok (.i2l, 1) := by decide +kernel
theorem dX12_guards_8 : decode cX12_guards 8 = .ok (.invokevirtual 279, 3) := by decide +kernel
theorem dX12_guards_11 : decode cX12_guards 11 = .ok (.ifCond .eq 22, 3) := by decide +kernel
theorem dX12_guards_14 : decode cX12_guards 14 = .ok (.aload_n 0, 1) := by decide +kernel
theorem dX12_guards_15 : decode cX12_guards 15 = .ok (.iload_n 2, 1) := by decide +kernel
theorem dX12_guards_16 : decode cX12_guards 16 = .ok (.i2l, 1) := by decide +kernel
theorem dX12_guards_17 : decode cX12_guards 17 = .ok (.invokevirtual 279, 3) := by decide +kernel
theorem dX12_guards_20 : decode cX12_guards 20 = .ok (.ifCond .eq 13, 3) := by decide +kernel
theorem dX12_guards_23 : decode cX12_guards 23 = .ok (.iload_n 3, 1) := by decide +kernel
theorem dX12_guards_24 : decode cX12_guards 24 = .ok (.i2l, 1) := by decide +kernel
theorem dX12_guards_25 : decode cX12_guards 25 = .ok (.lconst 0, 1) := by decide +kernel
theorem dX12_guards_26 : decode cX12_guards 26 = .ok (.lconst 1, 1) := by decide +kernel
theorem dX12_guards_27 : decode cX12_guards 27 = .ok (.invokestatic 154, 3) := by decide +kernel
theorem dX12_guards_30 : decode cX12_guards 30 = .ok (.ifCond .ne 6, 3) := by decide +kernel
theorem dX12_guards_33 : decode cX12_guards 33 = .ok (.bipush (-2), 2) := by decide +kernel
theorem dX12_guards_35 : decode cX12_guards 35 = .ok (.ireturn, 1) := by decide +kernel
theorem dX12_guards_36 : decode cX12_guards 36 = .ok (.iload_n 1, 1) := by decide +kernel
theorem dX12_guards_37 : decode cX12_guards 37 = .ok (.iload_n 2, 1) := by decide +kernel
theorem dX12_guards_38 : decode cX12_guards 38 = .ok (.if_icmp .eq 12, 3) := by decide +kernel
theorem dX12_guards_41 : decode cX12_guards 41 = .ok (.aload_n 0, 1) := by decide +kernel
theorem dX12_guards_42 : decode cX12_guards 42 = .ok (.iload_n 1, 1) := by decide +kernel
theorem dX12_guards_43 : decode cX12_guards 43 = .ok (.iload_n 2, 1) := by decide +kernel
theorem dX12_guards_44 : decode cX12_guards 44 = .ok (.invokevirtual 282, 3) := by decide +kernel
theorem dX12_guards_47 : decode cX12_guards 47 = .ok (.ifCond .eq 5, 3) := by decide +kernel
theorem dX12_guards_50 : decode cX12_guards 50 = .ok (.iconst (-1), 1) := by decide +kernel
theorem dX12_guards_51 : decode cX12_guards 51 = .ok (.ireturn, 1) := by decide +kernel
theorem dX12_guards_52 : decode cX12_guards 52 = .ok (.iconst 1, 1) := by decide +kernel
theorem dX12_guards_53 : decode cX12_guards 53 = .ok (.aload_n 0, 1) := by decide +kernel
theorem dX12_guards_54 : decode cX12_guards 54 = .ok (.getfield 13, 3) := by decide +kernel
theorem dX12_guards_57 : decode cX12_guards 57 = .ok (.iconst 1, 1) := by decide +kernel
theorem dX12_guards_58 : decode cX12_guards 58 = .ok (.iaload, 1) := by decide +kernel
theorem dX12_guards_59 : decode cX12_guards 59 = .ok (.ishl, 1) := by decide +kernel
theorem dX12_guards_60 : decode cX12_guards 60 = .ok (.iconst 1, 1) := by decide +kernel
theorem dX12_guards_61 : decode cX12_guards 61 = .ok (.isub, 1) := by decide +kernel
theorem dX12_guards_62 : decode cX12_guards 62 = .ok (.iconst 1, 1) := by decide +kernel
theorem dX12_guards_63 : decode cX12_guards 63 = .ok (.iload_n 1, 1) := by decide +kernel
theorem dX12_guards_64 : decode cX12_guards 64 = .ok (.ishl, 1) := by decide +kernel
theorem dX12_guards_65 : decode cX12_guards 65 = .ok (.iconst 1, 1) := by decide +kernel
theorem dX12_guards_66 : decode cX12_guards 66 = .ok (.iload_n 2, 1) := by decide +kernel
theorem dX12_guards_67 : decode cX12_guards 67 = .ok (.ishl, 1) := by decide +kernel
theorem dX12_guards_68 : decode cX12_guards 68 = .ok (.ior, 1) := by decide +kernel
theorem dX12_guards_69 : decode cX12_guards 69 = .ok (.iconst (-1), 1) := by decide +kernel
theorem dX12_guards_70 : decode cX12_guards 70 = .ok (.ixor, 1) := by decide +kernel
theorem dX12_guards_71 : decode cX12_guards 71 = .ok (.iand, 1) := by decide +kernel
theorem dX12_guards_72 : decode cX12_guards 72 = .ok (.istore 4, 2) := by decide +kernel
theorem dX12_guards_74 : decode cX12_guards 74 = .ok (.iload 4, 2) := by decide +kernel
theorem dX12_guards_76 : decode cX12_guards 76 = .ok (.istore 5, 2) := by decide +kernel
theorem dX12_guards_78 : decode cX12_guards 78 = .ok (.iload 5, 2) := by decide +kernel
theorem dX12_guards_80 : decode cX12_guards 80 = .ok (.ifCond .lt 50, 3) := by decide +kernel
theorem dX12_guards_83 : decode cX12_guards 83 = .ok (.iload 5, 2) := by decide +kernel
theorem dX12_guards_85 : decode cX12_guards 85 = .ok (.iconst 1, 1) := by decide +kernel
theorem dX12_guards_86 : decode cX12_guards 86 = .ok (.iload_n 1, 1) := by decide +kernel
theorem dX12_guards_87 : decode cX12_guards 87 = .ok (.ishl, 1) := by decide +kernel
theorem dX12_guards_88 : decode cX12_guards 88 = .ok (.iconst 1, 1) := by decide +kernel
theorem dX12_guards_89 : decode cX12_guards 89 = .ok (.iload_n 2, 1) := by decide +kernel
theorem dX12_guards_90 : decode cX12_guards 90 = .ok (.ishl, 1) := by decide +kernel
theorem dX12_guards_91 : decode cX12_guards 91 = .ok (.ior, 1) := by decide +kernel
theorem dX12_guards_92 : decode cX12_guards 92 = .ok (.iand, 1) := by decide +kernel
theorem dX12_guards_93 : decode cX12_guards 93 = .ok (.ifCond .ne 31, 3) := by decide +kernel
theorem dX12_guards_96 : decode cX12_guards 96 = .ok (.iload 5, 2) := by decide +kernel
theorem dX12_guards_98 : decode cX12_guards 98 = .ok (.invokestatic 430, 3) := by decide +kernel
theorem dX12_guards_101 : decode cX12_guards 101 = .ok (.iload 4, 2) := by decide +kernel
theorem dX12_guards_103 : decode cX12_guards 103 = .ok (.invokestatic 430, 3) := by decide +kernel
theorem dX12_guards_106 : decode cX12_guards 106 = .ok (.if_icmp .gt 18, 3) := by decide +kernel
theorem dX12_guards_109 : decode cX12_guards 109 = .ok (.aload_n 0, 1) := by decide +kernel
theorem dX12_guards_110 : decode cX12_guards 110 = .ok (.iload_n 1, 1) := by decide +kernel
theorem dX12_guards_111 : decode cX12_guards 111 = .ok (.iload_n 2, 1) := by decide +kernel
theorem dX12_guards_112 : decode cX12_guards 112 = .ok (.iload 5, 2) := by decide +kernel
theorem dX12_guards_114 : decode cX12_guards 114 = .ok (.invokevirtual 433, 3) := by decide +kernel
theorem dX12_guards_117 : decode cX12_guards 117 = .ok (.ifCond .ne 7, 3) := by decide +kernel
theorem dX12_guards_120 : decode cX12_guards 120 = .ok (.iload 5, 2) := by decide +kernel
theorem dX12_guards_122 : decode cX12_guards 122 = .ok (.istore 4, 2) := by decide +kernel
theorem dX12_guards_124 : decode cX12_guards 124 = .ok (.iinc 5 (-1), 3) := by decide +kernel
theorem dX12_guards_127 : decode cX12_guards 127 = .ok (.goto (-49), 3) := by decide +kernel
theorem dX12_guards_130 : decode cX12_guards 130 = .ok (.iload_n 3, 1) := by decide +kernel
theorem dX12_guards_131 : decode cX12_guards 131 = .ok (.ifCond .ne 11, 3) := by decide +kernel
theorem dX12_guards_134 : decode cX12_guards 134 = .ok (.iload 4, 2) := by decide +kernel
theorem dX12_guards_136 : decode cX12_guards 136 = .ok (.invokestatic 430, 3) := by decide +kernel
theorem dX12_guards_139 : decode cX12_guards 139 = .ok (.goto 5, 3) := by decide +kernel
theorem dX12_guards_142 : decode cX12_guards 142 = .ok (.iload 4, 2) := by decide +kernel
theorem dX12_guards_144 : decode cX12_guards 144 = .ok (.ireturn, 1) := by decide +kernel
theorem dX12_liftsTo_0 : decode cX12_liftsTo 0 = .ok (.iconst 0, 1) := by decide +kernel
theorem dX12_liftsTo_1 : decode cX12_liftsTo 1 = .ok (.istore_n 3, 1) := by decide +kernel
theorem dX12_liftsTo_2 : decode cX12_liftsTo 2 = .ok (.iconst 0, 1) := by decide +kernel
theorem dX12_liftsTo_3 : decode cX12_liftsTo 3 = .ok (.istore 4, 2) := by decide +kernel
theorem dX12_liftsTo_5 : decode cX12_liftsTo 5 = .ok (.iload 4, 2) := by decide +kernel
theorem dX12_liftsTo_7 : decode cX12_liftsTo 7 = .ok (.aload_n 0, 1) := by decide +kernel
theorem dX12_liftsTo_8 : decode cX12_liftsTo 8 = .ok (.getfield 13, 3) := by decide +kernel
theorem dX12_liftsTo_11 : decode cX12_liftsTo 11 = .ok (.iconst 3, 1) := by decide +kernel
theorem dX12_liftsTo_12 : decode cX12_liftsTo 12 = .ok (.iaload, 1) := by decide +kernel
theorem dX12_liftsTo_13 : decode cX12_liftsTo 13 = .ok (.if_icmp .ge 48, 3) := by decide +kernel
theorem dX12_liftsTo_16 : decode cX12_liftsTo 16 = .ok (.iload_n 3, 1) := by decide +kernel
theorem dX12_liftsTo_17 : decode cX12_liftsTo 17 = .ok (.iload_n 1, 1) := by decide +kernel
theorem dX12_liftsTo_18 : decode cX12_liftsTo 18 = .ok (.aload_n 0, 1) := by decide +kernel
theorem dX12_liftsTo_19 : decode cX12_liftsTo 19 = .ok (.getfield 13, 3) := by decide +kernel
theorem dX12_liftsTo_22 : decode cX12_liftsTo 22 = .ok (.bipush 70, 2) := by decide +kernel
theorem dX12_liftsTo_24 : decode cX12_liftsTo 24 = .ok (.iload 4, 2) := by decide +kernel
theorem dX12_liftsTo_26 : decode cX12_liftsTo 26 = .ok (.iadd, 1) := by decide +kernel
theorem dX12_liftsTo_27 : decode cX12_liftsTo 27 = .ok (.iaload, 1) := by decide +kernel
theorem dX12_liftsTo_28 : decode cX12_liftsTo 28 = .ok (.iconst (-1), 1) := by decide +kernel
theorem dX12_liftsTo_29 : decode cX12_liftsTo 29 = .ok (.ixor, 1) := by decide +kernel
theorem dX12_liftsTo_30 : decode cX12_liftsTo 30 = .ok (.iand, 1) := by decide +kernel
theorem dX12_liftsTo_31 : decode cX12_liftsTo 31 = .ok (.iconst 1, 1) := by decide +kernel
theorem dX12_liftsTo_32 : decode cX12_liftsTo 32 = .ok (.iload 4, 2) := by decide +kernel
theorem dX12_liftsTo_34 : decode cX12_liftsTo 34 = .ok (.ishl, 1) := by decide +kernel
theorem dX12_liftsTo_35 : decode cX12_liftsTo 35 = .ok (.iconst (-1), 1) := by decide +kernel
theorem dX12_liftsTo_36 : decode cX12_liftsTo 36 = .ok (.ixor, 1) := by decide +kernel
theorem dX12_liftsTo_37 : decode cX12_liftsTo 37 = .ok (.iand, 1) := by decide +kernel
theorem dX12_liftsTo_38 : decode cX12_liftsTo 38 = .ok (.invokestatic 430, 3) := by decide +kernel
theorem dX12_liftsTo_41 : decode cX12_liftsTo 41 = .ok (.iload_n 2, 1) := by decide +kernel
theorem dX12_liftsTo_42 : decode cX12_liftsTo 42 = .ok (.if_icmp .lt 10, 3) := by decide +kernel
theorem dX12_liftsTo_45 : decode cX12_liftsTo 45 = .ok (.iconst 1, 1) := by decide +kernel
theorem dX12_liftsTo_46 : decode cX12_liftsTo 46 = .ok (.iload 4, 2) := by decide +kernel
theorem dX12_liftsTo_48 : decode cX12_liftsTo 48 = .ok (.ishl, 1) := by decide +kernel
theorem dX12_liftsTo_49 : decode cX12_liftsTo 49 = .ok (.goto 4, 3) := by decide +kernel
theorem dX12_liftsTo_52 : decode cX12_liftsTo 52 = .ok (.iconst 0, 1) := by decide +kernel
theorem dX12_liftsTo_53 : decode cX12_liftsTo 53 = .ok (.ior, 1) := by decide +kernel
theorem dX12_liftsTo_54 : decode cX12_liftsTo 54 = .ok (.istore_n 3, 1) := by decide +kernel
theorem dX12_liftsTo_55 : decode cX12_liftsTo 55 = .ok (.iinc 4 1, 3) := by decide +kernel
theorem dX12_liftsTo_58 : decode cX12_liftsTo 58 = .ok (.goto (-53), 3) := by decide +kernel
theorem dX12_liftsTo_61 : decode cX12_liftsTo 61 = .ok (.iload_n 3, 1) := by decide +kernel
theorem dX12_liftsTo_62 : decode cX12_liftsTo 62 = .ok (.ireturn, 1) := by decide +kernel
theorem dX12_rests_0 : decode cX12_rests 0 = .ok (.aload_n 0, 1) := by decide +kernel
theorem dX12_rests_1 : decode cX12_rests 1 = .ok (.iconst 0, 1) := by decide +kernel
theorem dX12_rests_2 : decode cX12_rests 2 = .ok (.putfield 1, 3) := by decide +kernel
theorem dX12_rests_5 : decode cX12_rests 5 = .ok (.iload_n 2, 1) := by decide +kernel
theorem dX12_rests_6 : decode cX12_rests 6 = .ok (.i2l, 1) := by decide +kernel
theorem dX12_rests_7 : decode cX12_rests 7 = .ok (.lconst 0, 1) := by decide +kernel
theorem dX12_rests_8 : decode cX12_rests 8 = .ok (.ldc2_w 298, 3) := by decide +kernel
theorem dX12_rests_11 : decode cX12_rests 11 = .ok (.invokestatic 154, 3) := by decide +kernel
theorem dX12_rests_14 : decode cX12_rests 14 = .ok (.ifCond .ne 6, 3) := by decide +kernel
theorem dX12_rests_17 : decode cX12_rests 17 = .ok (.bipush (-2), 2) := by decide +kernel
theorem dX12_rests_19 : decode cX12_rests 19 = .ok (.ireturn, 1) := by decide +kernel
theorem dX12_rests_20 : decode cX12_rests 20 = .ok (.iload_n 1, 1) := by decide +kernel
theorem dX12_rests_21 : decode cX12_rests 21 = .ok (.i2l, 1) := by decide +kernel
theorem dX12_rests_22 : decode cX12_rests 22 = .ok (.lconst 0, 1) := by decide +kernel
theorem dX12_rests_23 : decode cX12_rests 23 = .ok (.ldc2_w 404, 3) := by decide +kernel
theorem dX12_rests_26 : decode cX12_rests 26 = .ok (.invokestatic 154, 3) := by decide +kernel
theorem dX12_rests_29 : decode cX12_rests 29 = .ok (.ifCond .ne 6, 3) := by decide +kernel
theorem dX12_rests_32 : decode cX12_rests 32 = .ok (.bipush (-3), 2) := by decide +kernel
theorem dX12_rests_34 : decode cX12_rests 34 = .ok (.ireturn, 1) := by decide +kernel
theorem dX12_rests_35 : decode cX12_rests 35 = .ok (.iconst 0, 1) := by decide +kernel
theorem dX12_rests_36 : decode cX12_rests 36 = .ok (.istore_n 3, 1) := by decide +kernel
theorem dX12_rests_37 : decode cX12_rests 37 = .ok (.iconst (-1), 1) := by decide +kernel
theorem dX12_rests_38 : decode cX12_rests 38 = .ok (.istore 4, 2) := by decide +kernel
theorem dX12_rests_40 : decode cX12_rests 40 = .ok (.iconst (-1), 1) := by decide +kernel
theorem dX12_rests_41 : decode cX12_rests 41 = .ok (.istore 5, 2) := by decide +kernel
theorem dX12_rests_43 : decode cX12_rests 43 = .ok (.iconst 0, 1) := by decide +kernel
theorem dX12_rests_44 : decode cX12_rests 44 = .ok (.istore 6, 2) := by decide +kernel
theorem dX12_rests_46 : decode cX12_rests 46 = .ok (.iload 6, 2) := by decide +kernel
theorem dX12_rests_48 : decode cX12_rests 48 = .ok (.aload_n 0, 1) := by decide +kernel
theorem dX12_rests_49 : decode cX12_rests 49 = .ok (.invokevirtual 424, 3) := by decide +kernel
theorem dX12_rests_52 : decode cX12_rests 52 = .ok (.if_icmp .gt 77, 3) := by decide +kernel
theorem dX12_rests_55 : decode cX12_rests 55 = .ok (.aload_n 0, 1) := by decide +kernel
theorem dX12_rests_56 : decode cX12_rests 56 = .ok (.iload 6, 2) := by decide +kernel
theorem dX12_rests_58 : decode cX12_rests 58 = .ok (.iload_n 1, 1) := by decide +kernel
theorem dX12_rests_59 : decode cX12_rests 59 = .ok (.invokevirtual 436, 3) := by decide +kernel
theorem dX12_rests_62 : decode cX12_rests 62 = .ok (.iload 6, 2) := by decide +kernel
theorem dX12_rests_64 : decode cX12_rests 64 = .ok (.if_icmp .eq 6, 3) := by decide +kernel
theorem dX12_rests_67 : decode cX12_rests 67 = .ok (.goto 56, 3) := by decide +kernel
theorem dX12_rests_70 : decode cX12_rests 70 = .ok (.iinc 3 1, 3) := by decide +kernel
theorem dX12_rests_73 : decode cX12_rests 73 = .ok (.iload 4, 2) := by decide +kernel
theorem dX12_rests_75 : decode cX12_rests 75 = .ok (.iconst (-1), 1) := by decide +kernel
theorem dX12_rests_76 : decode cX12_rests 76 = .ok (.if_icmp .eq 13, 3) := by decide +kernel
theorem dX12_rests_79 : decode cX12_rests 79 = .ok (.iload 6, 2) := by decide +kernel
theorem dX12_rests_81 : decode cX12_rests 81 = .ok (.invokestatic 430, 3) := by decide +kernel
theorem dX12_rests_84 : decode cX12_rests 84 = .ok (.iload 4, 2) := by decide +kernel
theorem dX12_rests_86 : decode cX12_rests 86 = .ok (.if_icmp .ge 11, 3) := by decide +kernel
theorem dX12_rests_89 : decode cX12_rests 89 = .ok (.iload 6, 2) := by decide +kernel
theorem dX12_rests_91 : decode cX12_rests 91 = .ok (.invokestatic 430, 3) := by decide +kernel
theorem dX12_rests_94 : decode cX12_rests 94 = .ok (.goto 5, 3) := by decide +kernel
theorem dX12_rests_97 : decode cX12_rests 97 = .ok (.iload 4, 2) := by decide +kernel
theorem dX12_rests_99 : decode cX12_rests 99 = .ok (.istore 4, 2) := by decide +kernel
theorem dX12_rests_101 : decode cX12_rests 101 = .ok (.iload 6, 2) := by decide +kernel
theorem dX12_rests_103 : decode cX12_rests 103 = .ok (.invokestatic 430, 3) := by decide +kernel
theorem dX12_rests_106 : decode cX12_rests 106 = .ok (.iload 5, 2) := by decide +kernel
theorem dX12_rests_108 : decode cX12_rests 108 = .ok (.if_icmp .le 11, 3) := by decide +kernel
theorem dX12_rests_111 : decode cX12_rests 111 = .ok (.iload 6, 2) := by decide +kernel
theorem dX12_rests_113 : decode cX12_rests 113 = .ok (.invokestatic 430, 3) := by decide +kernel
theorem dX12_rests_116 : decode cX12_rests 116 = .ok (.goto 5, 3) := by decide +kernel
theorem dX12_rests_119 : decode cX12_rests 119 = .ok (.iload 5, 2) := by decide +kernel
theorem dX12_rests_121 : decode cX12_rests 121 = .ok (.istore 5, 2) := by decide +kernel
theorem dX12_rests_123 : decode cX12_rests 123 = .ok (.iinc 6 1, 3) := by decide +kernel
theorem dX12_rests_126 : decode cX12_rests 126 = .ok (.goto (-80), 3) := by decide +kernel
theorem dX12_rests_129 : decode cX12_rests 129 = .ok (.iload_n 2, 1) := by decide +kernel
theorem dX12_rests_130 : decode cX12_rests 130 = .ok (.ifCond .ne 7, 3) := by decide +kernel
theorem dX12_rests_133 : decode cX12_rests 133 = .ok (.iload_n 3, 1) := by decide +kernel
theorem dX12_rests_134 : decode cX12_rests 134 = .ok (.goto 15, 3) := by decide +kernel
theorem dX12_rests_137 : decode cX12_rests 137 = .ok (.iload_n 2, 1) := by decide +kernel
theorem dX12_rests_138 : decode cX12_rests 138 = .ok (.iconst 1, 1) := by decide +kernel
theorem dX12_rests_139 : decode cX12_rests 139 = .ok (.if_icmp .ne 8, 3) := by decide +kernel
theorem dX12_rests_142 : decode cX12_rests 142 = .ok (.iload 4, 2) := by decide +kernel
theorem dX12_rests_144 : decode cX12_rests 144 = .ok (.goto 5, 3) := by decide +kernel
theorem dX12_rests_147 : decode cX12_rests 147 = .ok (.iload 5, 2) := by decide +kernel
theorem dX12_rests_149 : decode cX12_rests 149 = .ok (.ireturn, 1) := by decide +kernel
theorem dX12_lifting_0 : decode cX12_lifting 0 = .ok (.aload_n 0, 1) := by decide +kernel
theorem dX12_lifting_1 : decode cX12_lifting 1 = .ok (.iconst 0, 1) := by decide +kernel
theorem dX12_lifting_2 : decode cX12_lifting 2 = .ok (.putfield 1, 3) := by decide +kernel
theorem dX12_lifting_5 : decode cX12_lifting 5 = .ok (.iload_n 1, 1) := by decide +kernel
theorem dX12_lifting_6 : decode cX12_lifting 6 = .ok (.i2l, 1) := by decide +kernel
theorem dX12_lifting_7 : decode cX12_lifting 7 = .ok (.lconst 0, 1) := by decide +kernel
theorem dX12_lifting_8 : decode cX12_lifting 8 = .ok (.aload_n 0, 1) := by decide +kernel
theorem dX12_lifting_9 : decode cX12_lifting 9 = .ok (.invokevirtual 424, 3) := by decide +kernel
theorem dX12_lifting_12 : decode cX12_lifting 12 = .ok (.i2l, 1) := by decide +kernel
theorem dX12_lifting_13 : decode cX12_lifting 13 = .ok (.invokestatic 154, 3) := by decide +kernel
theorem dX12_lifting_16 : decode cX12_lifting 16 = .ok (.ifCond .ne 6, 3) := by decide +kernel
theorem dX12_lifting_19 : decode cX12_lifting 19 = .ok (.bipush (-2), 2) := by decide +kernel
theorem dX12_lifting_21 : decode cX12_lifting 21 = .ok (.ireturn, 1) := by decide +kernel
theorem dX12_lifting_22 : decode cX12_lifting 22 = .ok (.iload_n 2, 1) := by decide +kernel
theorem dX12_lifting_23 : decode cX12_lifting 23 = .ok (.i2l, 1) := by decide +kernel
theorem dX12_lifting_24 : decode cX12_lifting 24 = .ok (.lconst 0, 1) := by decide +kernel
theorem dX12_lifting_25 : decode cX12_lifting 25 = .ok (.ldc2_w 404, 3) := by decide +kernel
theorem dX12_lifting_28 : decode cX12_lifting 28 = .ok (.invokestatic 154, 3) := by decide +kernel
theorem dX12_lifting_31 : decode cX12_lifting 31 = .ok (.ifCond .eq 15, 3) := by decide +kernel
theorem dX12_lifting_34 : decode cX12_lifting 34 = .ok (.iload_n 3, 1) := by decide +kernel
theorem dX12_lifting_35 : decode cX12_lifting 35 = .ok (.i2l, 1) := by decide +kernel
theorem dX12_lifting_36 : decode cX12_lifting 36 = .ok (.lconst 0, 1) := by decide +kernel
theorem dX12_lifting_37 : decode cX12_lifting 37 = .ok (.ldc2_w 408, 3) := by decide +kernel
theorem dX12_lifting_40 : decode cX12_lifting 40 = .ok (.invokestatic 154, 3) := by decide +kernel
theorem dX12_lifting_43 : decode cX12_lifting 43 = .ok (.ifCond .ne 6, 3) := by decide +kernel
theorem dX12_lifting_46 : decode cX12_lifting 46 = .ok (.bipush (-3), 2) := by decide +kernel
theorem dX12_lifting_48 : decode cX12_lifting 48 = .ok (.ireturn, 1) := by decide +kernel
theorem dX12_lifting_49 : decode cX12_lifting 49 = .ok (.iload_n 1, 1) := by decide +kernel
theorem dX12_lifting_50 : decode cX12_lifting 50 = .ok (.istore 4, 2) := by decide +kernel
theorem dX12_lifting_52 : decode cX12_lifting 52 = .ok (.iconst 0, 1) := by decide +kernel
theorem dX12_lifting_53 : decode cX12_lifting 53 = .ok (.istore 5, 2) := by decide +kernel
theorem dX12_lifting_55 : decode cX12_lifting 55 = .ok (.iload 5, 2) := by decide +kernel
theorem dX12_lifting_57 : decode cX12_lifting 57 = .ok (.iload_n 3, 1) := by decide +kernel
theorem dX12_lifting_58 : decode cX12_lifting 58 = .ok (.if_icmp .ge 18, 3) := by decide +kernel
theorem dX12_lifting_61 : decode cX12_lifting 61 = .ok (.aload_n 0, 1) := by decide +kernel
theorem dX12_lifting_62 : decode cX12_lifting 62 = .ok (.iload 4, 2) := by decide +kernel
theorem dX12_lifting_64 : decode cX12_lifting 64 = .ok (.iload_n 2, 1) := by decide +kernel
theorem dX12_lifting_65 : decode cX12_lifting 65 = .ok (.invokevirtual 436, 3) := by decide +kernel
theorem dX12_lifting_68 : decode cX12_lifting 68 = .ok (.istore 4, 2) := by decide +kernel
theorem dX12_lifting_70 : decode cX12_lifting 70 = .ok (.iinc 5 1, 3) := by decide +kernel
theorem dX12_lifting_73 : decode cX12_lifting 73 = .ok (.goto (-18), 3) := by decide +kernel
theorem dX12_lifting_76 : decode cX12_lifting 76 = .ok (.iload 4, 2) := by decide +kernel
theorem dX12_lifting_78 : decode cX12_lifting 78 = .ok (.ireturn, 1) := by decide +kernel
theorem dX12_heardTo_0 : decode cX12_heardTo 0 = .ok (.iload_n 1, 1) := by decide +kernel
theorem dX12_heardTo_1 : decode cX12_heardTo 1 = .ok (.istore_n 2, 1) := by decide +kernel
theorem dX12_heardTo_2 : decode cX12_heardTo 2 = .ok (.iconst 0, 1) := by decide +kernel
theorem dX12_heardTo_3 : decode cX12_heardTo 3 = .ok (.istore_n 3, 1) := by decide +kernel
theorem dX12_heardTo_4 : decode cX12_heardTo 4 = .ok (.iload_n 3, 1) := by decide +kernel
theorem dX12_heardTo_5 : decode cX12_heardTo 5 = .ok (.aload_n 0, 1) := by decide +kernel
theorem dX12_heardTo_6 : decode cX12_heardTo 6 = .ok (.getfield 13, 3) := by decide +kernel
theorem dX12_heardTo_9 : decode cX12_heardTo 9 = .ok (.iconst 3, 1) := by decide +kernel
theorem dX12_heardTo_10 : decode cX12_heardTo 10 = .ok (.iaload, 1) := by decide +kernel
theorem dX12_heardTo_11 : decode cX12_heardTo 11 = .ok (.if_icmp .ge 41, 3) := by decide +kernel
theorem dX12_heardTo_14 : decode cX12_heardTo 14 = .ok (.iload_n 2, 1) := by decide +kernel
theorem dX12_heardTo_15 : decode cX12_heardTo 15 = .ok (.iload_n 1, 1) := by decide +kernel
theorem dX12_heardTo_16 : decode cX12_heardTo 16 = .ok (.i2l, 1) := by decide +kernel
theorem dX12_heardTo_17 : decode cX12_heardTo 17 = .ok (.iload_n 3, 1) := by decide +kernel
theorem dX12_heardTo_18 : decode cX12_heardTo 18 = .ok (.invokestatic 233, 3) := by decide +kernel
theorem dX12_heardTo_21 : decode cX12_heardTo 21 = .ok (.ifCond .eq 22, 3) := by decide +kernel
theorem dX12_heardTo_24 : decode cX12_heardTo 24 = .ok (.aload_n 0, 1) := by decide +kernel
theorem dX12_heardTo_25 : decode cX12_heardTo 25 = .ok (.invokevirtual 424, 3) := by decide +kernel
theorem dX12_heardTo_28 : decode cX12_heardTo 28 = .ok (.aload_n 0, 1) := by decide +kernel
theorem dX12_heardTo_29 : decode cX12_heardTo 29 = .ok (.getfield 13, 3) := by decide +kernel
theorem dX12_heardTo_32 : decode cX12_heardTo 32 = .ok (.bipush 70, 2) := by decide +kernel
theorem dX12_heardTo_34 : decode cX12_heardTo 34 = .ok (.iload_n 3, 1) := by decide +kernel
theorem dX12_heardTo_35 : decode cX12_heardTo 35 = .ok (.iadd, 1) := by decide +kernel
theorem dX12_heardTo_36 : decode cX12_heardTo 36 = .ok (.iaload, 1) := by decide +kernel
theorem dX12_heardTo_37 : decode cX12_heardTo 37 = .ok (.iconst (-1), 1) := by decide +kernel
theorem dX12_heardTo_38 : decode cX12_heardTo 38 = .ok (.ixor, 1) := by decide +kernel
theorem dX12_heardTo_39 : decode cX12_heardTo 39 = .ok (.iand, 1) := by decide +kernel
theorem dX12_heardTo_40 : decode cX12_heardTo 40 = .ok (.goto 4, 3) := by decide +kernel
theorem dX12_heardTo_43 : decode cX12_heardTo 43 = .ok (.iconst 0, 1) := by decide +kernel
theorem dX12_heardTo_44 : decode cX12_heardTo 44 = .ok (.ior, 1) := by decide +kernel
theorem dX12_heardTo_45 : decode cX12_heardTo 45 = .ok (.istore_n 2, 1) := by decide +kernel
theorem dX12_heardTo_46 : decode cX12_heardTo 46 = .ok (.iinc 3 1, 3) := by decide +kernel
theorem dX12_heardTo_49 : decode cX12_heardTo 49 = .ok (.goto (-45), 3) := by decide +kernel
theorem dX12_heardTo_52 : decode cX12_heardTo 52 = .ok (.iload_n 2, 1) := by decide +kernel
theorem dX12_heardTo_53 : decode cX12_heardTo 53 = .ok (.ireturn, 1) := by decide +kernel
theorem dX12_talk_0 : decode cX12_talk 0 = .ok (.aload_n 0, 1) := by decide +kernel
theorem dX12_talk_1 : decode cX12_talk 1 = .ok (.iconst 0, 1) := by decide +kernel
theorem dX12_talk_2 : decode cX12_talk 2 = .ok (.putfield 1, 3) := by decide +kernel
theorem dX12_talk_5 : decode cX12_talk 5 = .ok (.aload_n 0, 1) := by decide +kernel
theorem dX12_talk_6 : decode cX12_talk 6 = .ok (.iload_n 1, 1) := by decide +kernel
theorem dX12_talk_7 : decode cX12_talk 7 = .ok (.i2l, 1) := by decide +kernel
theorem dX12_talk_8 : decode cX12_talk 8 = .ok (.invokevirtual 272, 3) := by decide +kernel
theorem dX12_talk_11 : decode cX12_talk 11 = .ok (.ifCond .ne 6, 3) := by decide +kernel
theorem dX12_talk_14 : decode cX12_talk 14 = .ok (.bipush (-2), 2) := by decide +kernel
theorem dX12_talk_16 : decode cX12_talk 16 = .ok (.ireturn, 1) := by decide +kernel
theorem dX12_talk_17 : decode cX12_talk 17 = .ok (.iload_n 2, 1) := by decide +kernel
theorem dX12_talk_18 : decode cX12_talk 18 = .ok (.i2l, 1) := by decide +kernel
theorem dX12_talk_19 : decode cX12_talk 19 = .ok (.lconst 0, 1) := by decide +kernel
theorem dX12_talk_20 : decode cX12_talk 20 = .ok (.ldc2_w 404, 3) := by decide +kernel
theorem dX12_talk_23 : decode cX12_talk 23 = .ok (.invokestatic 154, 3) := by decide +kernel
