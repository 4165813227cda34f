theorem dX0_init_0 : decode cX0_init 0 = .ok (.aload_n 0, 1) := by decide +kernel
theorem dX0_init_1 : decode cX0_init 1 = .ok (.invokespecial 3, 3) := by decide +kernel
theorem dX0_init_4 : decode cX0_init 4 = .ok (.aload_n 0, 1) := by decide +kernel
theorem dX0_init_5 : decode cX0_init 5 = .ok (.bipush 6, 2) := by decide +kernel
theorem dX0_init_7 : decode cX0_init 7 = .ok (.newarray .int, 2) := by decide +kernel
theorem dX0_init_9 : decode cX0_init 9 = .ok (.putfield 11, 3) := by decide +kernel
theorem dX0_init_12 : decode cX0_init 12 = .ok (.aload_n 0, 1) := by decide +kernel
theorem dX0_init_13 : decode cX0_init 13 = .ok (.aload_n 1, 1) := by decide +kernel
theorem dX0_init_14 : decode cX0_init 14 = .ok (.putfield 17, 3) := by decide +kernel
theorem dX0_init_17 : decode cX0_init 17 = .ok (.aload_n 0, 1) := by decide +kernel
theorem dX0_init_18 : decode cX0_init 18 = .ok (.aload_n 2, 1) := by decide +kernel
theorem dX0_init_19 : decode cX0_init 19 = .ok (.putfield 21, 3) := by decide +kernel
theorem dX0_init_22 : decode cX0_init 22 = .ok (.return_, 1) := by decide +kernel
theorem dX0_wearAt_0 : decode cX0_wearAt 0 = .ok (.aload_n 0, 1) := by decide +kernel
theorem dX0_wearAt_1 : decode cX0_wearAt 1 = .ok (.iload_n 1, 1) := by decide +kernel
theorem dX0_wearAt_2 : decode cX0_wearAt 2 = .ok (.iload_n 2, 1) := by decide +kernel
theorem dX0_wearAt_3 : decode cX0_wearAt 3 = .ok (.invokevirtual 25, 3) := by decide +kernel
theorem dX0_wearAt_6 : decode cX0_wearAt 6 = .ok (.ifCond .eq 26, 3) := by decide +kernel
theorem dX0_wearAt_9 : decode cX0_wearAt 9 = .ok (.aload_n 0, 1) := by decide +kernel
theorem dX0_wearAt_10 : decode cX0_wearAt 10 = .ok (.getfield 17, 3) := by decide +kernel
theorem dX0_wearAt_13 : decode cX0_wearAt 13 = .ok (.iload_n 3, 1) := by decide +kernel
theorem dX0_wearAt_14 : decode cX0_wearAt 14 = .ok (.invokevirtual 29, 3) := by decide +kernel
theorem dX0_wearAt_17 : decode cX0_wearAt 17 = .ok (.ifCond .eq 15, 3) := by decide +kernel
theorem dX0_wearAt_20 : decode cX0_wearAt 20 = .ok (.aload_n 0, 1) := by decide +kernel
theorem dX0_wearAt_21 : decode cX0_wearAt 21 = .ok (.getfield 17, 3) := by decide +kernel
theorem dX0_wearAt_24 : decode cX0_wearAt 24 = .ok (.iload 4, 2) := by decide +kernel
theorem dX0_wearAt_26 : decode cX0_wearAt 26 = .ok (.invokevirtual 35, 3) := by decide +kernel
theorem dX0_wearAt_29 : decode cX0_wearAt 29 = .ok (.ifCond .ne 5, 3) := by decide +kernel
theorem dX0_wearAt_32 : decode cX0_wearAt 32 = .ok (.iconst (-1), 1) := by decide +kernel
theorem dX0_wearAt_33 : decode cX0_wearAt 33 = .ok (.ireturn, 1) := by decide +kernel
theorem dX0_wearAt_34 : decode cX0_wearAt 34 = .ok (.aload_n 0, 1) := by decide +kernel
theorem dX0_wearAt_35 : decode cX0_wearAt 35 = .ok (.iload_n 1, 1) := by decide +kernel
theorem dX0_wearAt_36 : decode cX0_wearAt 36 = .ok (.iload_n 2, 1) := by decide +kernel
theorem dX0_wearAt_37 : decode cX0_wearAt 37 = .ok (.iload_n 3, 1) := by decide +kernel
theorem dX0_wearAt_38 : decode cX0_wearAt 38 = .ok (.aload_n 0, 1) := by decide +kernel
theorem dX0_wearAt_39 : decode cX0_wearAt 39 = .ok (.getfield 21, 3) := by decide +kernel
theorem dX0_wearAt_42 : decode cX0_wearAt 42 = .ok (.getfield 38, 3) := by decide +kernel
theorem dX0_wearAt_45 : decode cX0_wearAt 45 = .ok (.iload_n 3, 1) := by decide +kernel
theorem dX0_wearAt_46 : decode cX0_wearAt 46 = .ok (.iaload, 1) := by decide +kernel
theorem dX0_wearAt_47 : decode cX0_wearAt 47 = .ok (.iload 4, 2) := by decide +kernel
theorem dX0_wearAt_49 : decode cX0_wearAt 49 = .ok (.iload 5, 2) := by decide +kernel
theorem dX0_wearAt_51 : decode cX0_wearAt 51 = .ok (.invokevirtual 43, 3) := by decide +kernel
theorem dX0_wearAt_54 : decode cX0_wearAt 54 = .ok (.ireturn, 1) := by decide +kernel
theorem dX0_wearFrom_0 : decode cX0_wearFrom 0 = .ok (.aload_n 0, 1) := by decide +kernel
theorem dX0_wearFrom_1 : decode cX0_wearFrom 1 = .ok (.iload_n 1, 1) := by decide +kernel
theorem dX0_wearFrom_2 : decode cX0_wearFrom 2 = .ok (.iload_n 2, 1) := by decide +kernel
theorem dX0_wearFrom_3 : decode cX0_wearFrom 3 = .ok (.iload_n 3, 1) := by decide +kernel
theorem dX0_wearFrom_4 : decode cX0_wearFrom 4 = .ok (.iload 4, 2) := by decide +kernel
theorem dX0_wearFrom_6 : decode cX0_wearFrom 6 = .ok (.iload 5, 2) := by decide +kernel
theorem dX0_wearFrom_8 : decode cX0_wearFrom 8 = .ok (.iload 6, 2) := by decide +kernel
theorem dX0_wearFrom_10 : decode cX0_wearFrom 10 = .ok (.invokevirtual 47, 3) := by decide +kernel
theorem dX0_wearFrom_13 : decode cX0_wearFrom 13 = .ok (.istore 7, 2) := by decide +kernel
theorem dX0_wearFrom_15 : decode cX0_wearFrom 15 = .ok (.iload 7, 2) := by decide +kernel
theorem dX0_wearFrom_17 : decode cX0_wearFrom 17 = .ok (.ifCond .ge 6, 3) := by decide +kernel
theorem dX0_wearFrom_20 : decode cX0_wearFrom 20 = .ok (.iload 7, 2) := by decide +kernel
theorem dX0_wearFrom_22 : decode cX0_wearFrom 22 = .ok (.ireturn, 1) := by decide +kernel
theorem dX0_wearFrom_23 : decode cX0_wearFrom 23 = .ok (.iconst 0, 1) := by decide +kernel
theorem dX0_wearFrom_24 : decode cX0_wearFrom 24 = .ok (.bipush 9, 2) := by decide +kernel
theorem dX0_wearFrom_26 : decode cX0_wearFrom 26 = .ok (.aload_n 0, 1) := by decide +kernel
theorem dX0_wearFrom_27 : decode cX0_wearFrom 27 = .ok (.getfield 17, 3) := by decide +kernel
theorem dX0_wearFrom_30 : decode cX0_wearFrom 30 = .ok (.getfield 50, 3) := by decide +kernel
theorem dX0_wearFrom_33 : decode cX0_wearFrom 33 = .ok (.iconst 0, 1) := by decide +kernel
theorem dX0_wearFrom_34 : decode cX0_wearFrom 34 = .ok (.aload_n 0, 1) := by decide +kernel
theorem dX0_wearFrom_35 : decode cX0_wearFrom 35 = .ok (.getfield 11, 3) := by decide +kernel
theorem dX0_wearFrom_38 : decode cX0_wearFrom 38 = .ok (.invokevirtual 54, 3) := by decide +kernel
theorem dX0_wearFrom_41 : decode cX0_wearFrom 41 = .ok (.invokestatic 58, 3) := by decide +kernel
theorem dX0_wearFrom_44 : decode cX0_wearFrom 44 = .ok (.invokestatic 64, 3) := by decide +kernel
theorem dX0_wearFrom_47 : decode cX0_wearFrom 47 = .ok (.ireturn, 1) := by decide +kernel
theorem dX0_roadTaken_0 : decode cX0_roadTaken 0 = .ok (.aload_n 0, 1) := by decide +kernel
theorem dX0_roadTaken_1 : decode cX0_roadTaken 1 = .ok (.getfield 17, 3) := by decide +kernel
theorem dX0_roadTaken_4 : decode cX0_roadTaken 4 = .ok (.iload 4, 2) := by decide +kernel
theorem dX0_roadTaken_6 : decode cX0_roadTaken 6 = .ok (.iload 5, 2) := by decide +kernel
theorem dX0_roadTaken_8 : decode cX0_roadTaken 8 = .ok (.invokevirtual 67, 3) := by decide +kernel
theorem dX0_roadTaken_11 : decode cX0_roadTaken 11 = .ok (.ifCond .ne 6, 3) := by decide +kernel
theorem dX0_roadTaken_14 : decode cX0_roadTaken 14 = .ok (.bipush (-2), 2) := by decide +kernel
theorem dX0_roadTaken_16 : decode cX0_roadTaken 16 = .ok (.ireturn, 1) := by decide +kernel
theorem dX0_roadTaken_17 : decode cX0_roadTaken 17 = .ok (.aload_n 0, 1) := by decide +kernel
theorem dX0_roadTaken_18 : decode cX0_roadTaken 18 = .ok (.getfield 21, 3) := by decide +kernel
theorem dX0_roadTaken_21 : decode cX0_roadTaken 21 = .ok (.iload_n 1, 1) := by decide +kernel
theorem dX0_roadTaken_22 : decode cX0_roadTaken 22 = .ok (.iload_n 2, 1) := by decide +kernel
theorem dX0_roadTaken_23 : decode cX0_roadTaken 23 = .ok (.invokevirtual 70, 3) := by decide +kernel
theorem dX0_roadTaken_26 : decode cX0_roadTaken 26 = .ok (.ifCond .eq 6, 3) := by decide +kernel
theorem dX0_roadTaken_29 : decode cX0_roadTaken 29 = .ok (.bipush (-3), 2) := by decide +kernel
theorem dX0_roadTaken_31 : decode cX0_roadTaken 31 = .ok (.ireturn, 1) := by decide +kernel
theorem dX0_roadTaken_32 : decode cX0_roadTaken 32 = .ok (.aload_n 0, 1) := by decide +kernel
theorem dX0_roadTaken_33 : decode cX0_roadTaken 33 = .ok (.iload_n 1, 1) := by decide +kernel
theorem dX0_roadTaken_34 : decode cX0_roadTaken 34 = .ok (.iload_n 2, 1) := by decide +kernel
theorem dX0_roadTaken_35 : decode cX0_roadTaken 35 = .ok (.iload_n 3, 1) := by decide +kernel
theorem dX0_roadTaken_36 : decode cX0_roadTaken 36 = .ok (.iload 4, 2) := by decide +kernel
theorem dX0_roadTaken_38 : decode cX0_roadTaken 38 = .ok (.iload 6, 2) := by decide +kernel
theorem dX0_roadTaken_40 : decode cX0_roadTaken 40 = .ok (.invokevirtual 73, 3) := by decide +kernel
theorem dX0_roadTaken_43 : decode cX0_roadTaken 43 = .ok (.iconst 0, 1) := by decide +kernel
theorem dX0_roadTaken_44 : decode cX0_roadTaken 44 = .ok (.istore 7, 2) := by decide +kernel
theorem dX0_roadTaken_46 : decode cX0_roadTaken 46 = .ok (.iload 7, 2) := by decide +kernel
theorem dX0_roadTaken_48 : decode cX0_roadTaken 48 = .ok (.aload_n 0, 1) := by decide +kernel
theorem dX0_roadTaken_49 : decode cX0_roadTaken 49 = .ok (.getfield 17, 3) := by decide +kernel
theorem dX0_roadTaken_52 : decode cX0_roadTaken 52 = .ok (.getfield 77, 3) := by decide +kernel
theorem dX0_roadTaken_55 : decode cX0_roadTaken 55 = .ok (.if_icmp .ge 62, 3) := by decide +kernel
theorem dX0_roadTaken_58 : decode cX0_roadTaken 58 = .ok (.aload_n 0, 1) := by decide +kernel
theorem dX0_roadTaken_59 : decode cX0_roadTaken 59 = .ok (.getfield 17, 3) := by decide +kernel
theorem dX0_roadTaken_62 : decode cX0_roadTaken 62 = .ok (.iload 7, 2) := by decide +kernel
theorem dX0_roadTaken_64 : decode cX0_roadTaken 64 = .ok (.iload 4, 2) := by decide +kernel
theorem dX0_roadTaken_66 : decode cX0_roadTaken 66 = .ok (.iload 5, 2) := by decide +kernel
theorem dX0_roadTaken_68 : decode cX0_roadTaken 68 = .ok (.invokevirtual 81, 3) := by decide +kernel
theorem dX0_roadTaken_71 : decode cX0_roadTaken 71 = .ok (.ifCond .eq 40, 3) := by decide +kernel
theorem dX0_roadTaken_74 : decode cX0_roadTaken 74 = .ok (.aload_n 0, 1) := by decide +kernel
theorem dX0_roadTaken_75 : decode cX0_roadTaken 75 = .ok (.getfield 11, 3) := by decide +kernel
theorem dX0_roadTaken_78 : decode cX0_roadTaken 78 = .ok (.iconst 3, 1) := by decide +kernel
theorem dX0_roadTaken_79 : decode cX0_roadTaken 79 = .ok (.aload_n 0, 1) := by decide +kernel
theorem dX0_roadTaken_80 : decode cX0_roadTaken 80 = .ok (.getfield 17, 3) := by decide +kernel
theorem dX0_roadTaken_83 : decode cX0_roadTaken 83 = .ok (.getfield 85, 3) := by decide +kernel
theorem dX0_roadTaken_86 : decode cX0_roadTaken 86 = .ok (.iload 7, 2) := by decide +kernel
theorem dX0_roadTaken_88 : decode cX0_roadTaken 88 = .ok (.iaload, 1) := by decide +kernel
theorem dX0_roadTaken_89 : decode cX0_roadTaken 89 = .ok (.iastore, 1) := by decide +kernel
theorem dX0_roadTaken_90 : decode cX0_roadTaken 90 = .ok (.aload_n 0, 1) := by decide +kernel
theorem dX0_roadTaken_91 : decode cX0_roadTaken 91 = .ok (.getfield 17, 3) := by decide +kernel
theorem dX0_roadTaken_94 : decode cX0_roadTaken 94 = .ok (.getfield 50, 3) := by decide +kernel
theorem dX0_roadTaken_97 : decode cX0_roadTaken 97 = .ok (.iconst 1, 1) := by decide +kernel
theorem dX0_roadTaken_98 : decode cX0_roadTaken 98 = .ok (.aload_n 0, 1) := by decide +kernel
theorem dX0_roadTaken_99 : decode cX0_roadTaken 99 = .ok (.getfield 11, 3) := by decide +kernel
theorem dX0_roadTaken_102 : decode cX0_roadTaken 102 = .ok (.invokevirtual 54, 3) := by decide +kernel
theorem dX0_roadTaken_105 : decode cX0_roadTaken 105 = .ok (.ifCond .eq 6, 3) := by decide +kernel
theorem dX0_roadTaken_108 : decode cX0_roadTaken 108 = .ok (.iload 7, 2) := by decide +kernel
theorem dX0_roadTaken_110 : decode cX0_roadTaken 110 = .ok (.ireturn, 1) := by decide +kernel
theorem dX0_roadTaken_111 : decode cX0_roadTaken 111 = .ok (.iinc 7 1, 3) := by decide +kernel
theorem dX0_roadTaken_114 : decode cX0_roadTaken 114 = .ok (.goto (-68), 3) := by decide +kernel
theorem dX0_roadTaken_117 : decode cX0_roadTaken 117 = .ok (.bipush (-4), 2) := by decide +kernel
theorem dX0_roadTaken_119 : decode cX0_roadTaken 119 = .ok (.ireturn, 1) := by decide +kernel
theorem dX0_someMayOn_0 : decode cX0_someMayOn 0 = .ok (.iconst 0, 1) := by decide +kernel
theorem dX0_someMayOn_1 : decode cX0_someMayOn 1 = .ok (.istore 4, 2) := by decide +kernel
theorem dX0_someMayOn_3 : decode cX0_someMayOn 3 = .ok (.iload 4, 2) := by decide +kernel
theorem dX0_someMayOn_5 : decode cX0_someMayOn 5 = .ok (.bipush 28, 2) := by decide +kernel
theorem dX0_someMayOn_7 : decode cX0_someMayOn 7 = .ok (.if_icmp .ge 103, 3) := by decide +kernel
theorem dX0_someMayOn_10 : decode cX0_someMayOn 10 = .ok (.getstatic 88, 3) := by decide +kernel
theorem dX0_someMayOn_13 : decode cX0_someMayOn 13 = .ok (.iload 4, 2) := by decide +kernel
theorem dX0_someMayOn_15 : decode cX0_someMayOn 15 = .ok (.iaload, 1) := by decide +kernel
theorem dX0_someMayOn_16 : decode cX0_someMayOn 16 = .ok (.istore 5, 2) := by decide +kernel
theorem dX0_someMayOn_18 : decode cX0_someMayOn 18 = .ok (.getstatic 91, 3) := by decide +kernel
theorem dX0_someMayOn_21 : decode cX0_someMayOn 21 = .ok (.iload 4, 2) := by decide +kernel
theorem dX0_someMayOn_23 : decode cX0_someMayOn 23 = .ok (.iaload, 1) := by decide +kernel
theorem dX0_someMayOn_24 : decode cX0_someMayOn 24 = .ok (.istore 6, 2) := by decide +kernel
theorem dX0_someMayOn_26 : decode cX0_someMayOn 26 = .ok (.aload_n 0, 1) := by decide +kernel
theorem dX0_someMayOn_27 : decode cX0_someMayOn 27 = .ok (.getfield 17, 3) := by decide +kernel
theorem dX0_someMayOn_30 : decode cX0_someMayOn 30 = .ok (.iload 6, 2) := by decide +kernel
theorem dX0_someMayOn_32 : decode cX0_someMayOn 32 = .ok (.invokevirtual 94, 3) := by decide +kernel
theorem dX0_someMayOn_35 : decode cX0_someMayOn 35 = .ok (.ifCond .eq 69, 3) := by decide +kernel
theorem dX0_someMayOn_38 : decode cX0_someMayOn 38 = .ok (.aload_n 0, 1) := by decide +kernel
theorem dX0_someMayOn_39 : decode cX0_someMayOn 39 = .ok (.getfield 21, 3) := by decide +kernel
theorem dX0_someMayOn_42 : decode cX0_someMayOn 42 = .ok (.iload 5, 2) := by decide +kernel
theorem dX0_someMayOn_44 : decode cX0_someMayOn 44 = .ok (.iload 6, 2) := by decide +kernel
theorem dX0_someMayOn_46 : decode cX0_someMayOn 46 = .ok (.invokevirtual 70, 3) := by decide +kernel
theorem dX0_someMayOn_49 : decode cX0_someMayOn 49 = .ok (.ifCond .ne 55, 3) := by decide +kernel
theorem dX0_someMayOn_52 : decode cX0_someMayOn 52 = .ok (.aload_n 0, 1) := by decide +kernel
theorem dX0_someMayOn_53 : decode cX0_someMayOn 53 = .ok (.iload 5, 2) := by decide +kernel
theorem dX0_someMayOn_55 : decode cX0_someMayOn 55 = .ok (.iload 6, 2) := by decide +kernel
theorem dX0_someMayOn_57 : decode cX0_someMayOn 57 = .ok (.iload_n 1, 1) := by decide +kernel
theorem dX0_someMayOn_58 : decode cX0_someMayOn 58 = .ok (.iload_n 2, 1) := by decide +kernel
theorem dX0_someMayOn_59 : decode cX0_someMayOn 59 = .ok (.aload_n 0, 1) := by decide +kernel
theorem dX0_someMayOn_60 : decode cX0_someMayOn 60 = .ok (.getfield 21, 3) := by decide +kernel
theorem dX0_someMayOn_63 : decode cX0_someMayOn 63 = .ok (.getfield 97, 3) := by decide +kernel
theorem dX0_someMayOn_66 : decode cX0_someMayOn 66 = .ok (.invokevirtual 73, 3) := by decide +kernel
theorem dX0_someMayOn_69 : decode cX0_someMayOn 69 = .ok (.aload_n 0, 1) := by decide +kernel
theorem dX0_someMayOn_70 : decode cX0_someMayOn 70 = .ok (.getfield 11, 3) := by decide +kernel
theorem dX0_someMayOn_73 : decode cX0_someMayOn 73 = .ok (.iconst 3, 1) := by decide +kernel
theorem dX0_someMayOn_74 : decode cX0_someMayOn 74 = .ok (.aload_n 0, 1) := by decide +kernel
theorem dX0_someMayOn_75 : decode cX0_someMayOn 75 = .ok (.getfield 17, 3) := by decide +kernel
theorem dX0_someMayOn_78 : decode cX0_someMayOn 78 = .ok (.getfield 85, 3) := by decide +kernel
theorem dX0_someMayOn_81 : decode cX0_someMayOn 81 = .ok (.iload_n 3, 1) := by decide +kernel
theorem dX0_someMayOn_82 : decode cX0_someMayOn 82 = .ok (.iaload, 1) := by decide +kernel
theorem dX0_someMayOn_83 : decode cX0_someMayOn 83 = .ok (.iastore, 1) := by decide +kernel
theorem dX0_someMayOn_84 : decode cX0_someMayOn 84 = .ok (.aload_n 0, 1) := by decide +kernel
theorem dX0_someMayOn_85 : decode cX0_someMayOn 85 = .ok (.getfield 17, 3) := by decide +kernel
theorem dX0_someMayOn_88 : decode cX0_someMayOn 88 = .ok (.getfield 50, 3) := by decide +kernel
theorem dX0_someMayOn_91 : decode cX0_someMayOn 91 = .ok (.iconst 1, 1) := by decide +kernel
theorem dX0_someMayOn_92 : decode cX0_someMayOn 92 = .ok (.aload_n 0, 1) := by decide +kernel
theorem dX0_someMayOn_93 : decode cX0_someMayOn 93 = .ok (.getfield 11, 3) := by decide +kernel
theorem dX0_someMayOn_96 : decode cX0_someMayOn 96 = .ok (.invokevirtual 54, 3) := by decide +kernel
theorem dX0_someMayOn_99 : decode cX0_someMayOn 99 = .ok (.ifCond .eq 5, 3) := by decide +kernel
theorem dX0_someMayOn_102 : decode cX0_someMayOn 102 = .ok (.iconst 1, 1) := by decide +kernel
theorem dX0_someMayOn_103 : decode cX0_someMayOn 103 = .ok (.ireturn, 1) := by decide +kernel
theorem dX0_someMayOn_104 : decode cX0_someMayOn 104 = .ok (.iinc 4 1, 3) := by decide +kernel
theorem dX0_someMayOn_107 : decode cX0_someMayOn 107 = .ok (.goto (-104), 3) := by decide +kernel
theorem dX0_someMayOn_110 : decode cX0_someMayOn 110 = .ok (.iconst 0, 1) := by decide +kernel
theorem dX0_someMayOn_111 : decode cX0_someMayOn 111 = .ok (.ireturn, 1) := by decide +kernel
theorem dX0_face_0 : decode cX0_face 0 = .ok (.aload_n 0, 1) := by decide +kernel
theorem dX0_face_1 : decode cX0_face 1 = .ok (.getfield 11, 3) := by decide +kernel
theorem dX0_face_4 : decode cX0_face 4 = .ok (.iconst 0, 1) := by decide +kernel
theorem dX0_face_5 : decode cX0_face 5 = .ok (.aload_n 0, 1) := by decide +kernel
theorem dX0_face_6 : decode cX0_face 6 = .ok (.getfield 17, 3) := by decide +kernel
theorem dX0_face_9 : decode cX0_face 9 = .ok (.getfield 100, 3) := by decide +kernel
theorem dX0_face_12 : decode cX0_face 12 = .ok (.iload_n 1, 1) := by decide +kernel
theorem dX0_face_13 : decode cX0_face 13 = .ok (.iaload, 1) := by decide +kernel
theorem dX0_face_14 : decode cX0_face 14 = .ok (.aload_n 0, 1) := by decide +kernel
theorem dX0_face_15 : decode cX0_face 15 = .ok (.getfield 17, 3) := by decide +kernel
theorem dX0_face_18 : decode cX0_face 18 = .ok (.getfield 100, 3) := by decide +kernel
theorem dX0_face_21 : decode cX0_face 21 = .ok (.iload_n 2, 1) := by decide +kernel
theorem dX0_face_22 : decode cX0_face 22 = .ok (.iaload, 1) := by decide +kernel
theorem dX0_face_23 : decode cX0_face 23 = .ok (.iadd, 1) := by decide +kernel
theorem dX0_face_24 : decode cX0_face 24 = .ok (.iastore, 1) := by decide +kernel
theorem dX0_face_25 : decode cX0_face 25 = .ok (.aload_n 0, 1) := by decide +kernel
theorem dX0_face_26 : decode cX0_face 26 = .ok (.getfield 11, 3) := by decide +kernel
theorem dX0_face_29 : decode cX0_face 29 = .ok (.iconst 5, 1) := by decide +kernel
theorem dX0_face_30 : decode cX0_face 30 = .ok (.aload_n 0, 1) := by decide +kernel
theorem dX0_face_31 : decode cX0_face 31 = .ok (.getfield 17, 3) := by decide +kernel
theorem dX0_face_34 : decode cX0_face 34 = .ok (.getfield 100, 3) := by decide +kernel
theorem dX0_face_37 : decode cX0_face 37 = .ok (.iload_n 1, 1) := by decide +kernel
theorem dX0_face_38 : decode cX0_face 38 = .ok (.iaload, 1) := by decide +kernel
theorem dX0_face_39 : decode cX0_face 39 = .ok (.aload_n 0, 1) := by decide +kernel
theorem dX0_face_40 : decode cX0_face 40 = .ok (.getfield 17, 3) := by decide +kernel
theorem dX0_face_43 : decode cX0_face 43 = .ok (.getfield 100, 3) := by decide +kernel
theorem dX0_face_46 : decode cX0_face 46 = .ok (.iload_n 2, 1) := by decide +kernel
theorem dX0_face_47 : decode cX0_face 47 = .ok (.iaload, 1) := by decide +kernel
theorem dX0_face_48 : decode cX0_face 48 = .ok (.invokestatic 58, 3) := by decide +kernel
theorem dX0_face_51 : decode cX0_face 51 = .ok (.iastore, 1) := by decide +kernel
theorem dX0_face_52 : decode cX0_face 52 = .ok (.aload_n 0, 1) := by decide +kernel
theorem dX0_face_53 : decode cX0_face 53 = .ok (.getfield 11, 3) := by decide +kernel
theorem dX0_face_56 : decode cX0_face 56 = .ok (.iconst 1, 1) := by decide +kernel
theorem dX0_face_57 : decode cX0_face 57 = .ok (.aload_n 0, 1) := by decide +kernel
theorem dX0_face_58 : decode cX0_face 58 = .ok (.getfield 17, 3) := by decide +kernel
theorem dX0_face_61 : decode cX0_face 61 = .ok (.getfield 103, 3) := by decide +kernel
theorem dX0_face_64 : decode cX0_face 64 = .ok (.iload_n 3, 1) := by decide +kernel
theorem dX0_face_65 : decode cX0_face 65 = .ok (.iaload, 1) := by decide +kernel
theorem dX0_face_66 : decode cX0_face 66 = .ok (.iastore, 1) := by decide +kernel
theorem dX0_face_67 : decode cX0_face 67 = .ok (.aload_n 0, 1) := by decide +kernel
theorem dX0_face_68 : decode cX0_face 68 = .ok (.getfield 11, 3) := by decide +kernel
theorem dX0_face_71 : decode cX0_face 71 = .ok (.iconst 2, 1) := by decide +kernel
theorem dX0_face_72 : decode cX0_face 72 = .ok (.aload_n 0, 1) := by decide +kernel
theorem dX0_face_73 : decode cX0_face 73 = .ok (.getfield 17, 3) := by decide +kernel
theorem dX0_face_76 : decode cX0_face 76 = .ok (.aload_n 0, 1) := by decide +kernel
theorem dX0_face_77 : decode cX0_face 77 = .ok (.getfield 17, 3) := by decide +kernel
theorem dX0_face_80 : decode cX0_face 80 = .ok (.getfield 106, 3) := by decide +kernel
theorem dX0_face_83 : decode cX0_face 83 = .ok (.iload_n 1, 1) := by decide +kernel
theorem dX0_face_84 : decode cX0_face 84 = .ok (.iaload, 1) := by decide +kernel
theorem dX0_face_85 : decode cX0_face 85 = .ok (.iload 4, 2) := by decide +kernel
theorem dX0_face_87 : decode cX0_face 87 = .ok (.invokevirtual 109, 3) := by decide +kernel
theorem dX0_face_90 : decode cX0_face 90 = .ok (.aload_n 0, 1) := by decide +kernel
theorem dX0_face_91 : decode cX0_face 91 = .ok (.getfield 17, 3) := by decide +kernel
theorem dX0_face_94 : decode cX0_face 94 = .ok (.aload_n 0, 1) := by decide +kernel
theorem dX0_face_95 : decode cX0_face 95 = .ok (.getfield 17, 3) := by decide +kernel
theorem dX0_face_98 : decode cX0_face 98 = .ok (.getfield 106, 3) := by decide +kernel
theorem dX0_face_101 : decode cX0_face 101 = .ok (.iload_n 2, 1) := by decide +kernel
theorem dX0_face_102 : decode cX0_face 102 = .ok (.iaload, 1) := by decide +kernel
theorem dX0_face_103 : decode cX0_face 103 = .ok (.iload 4, 2) := by decide +kernel
theorem dX0_face_105 : decode cX0_face 105 = .ok (.invokevirtual 109, 3) := by decide +kernel
theorem dX0_face_108 : decode cX0_face 108 = .ok (.iadd, 1) := by decide +kernel
theorem dX0_face_109 : decode cX0_face 109 = .ok (.iastore, 1) := by decide +kernel
theorem dX0_face_110 : decode cX0_face 110 = .ok (.aload_n 0, 1) := by decide +kernel
theorem dX0_face_111 : decode cX0_face 111 = .ok (.getfield 11, 3) := by decide +kernel
theorem dX0_face_114 : decode cX0_face 114 = .ok (.iconst 4, 1) := by decide +kernel
theorem dX0_face_115 : decode cX0_face 115 = .ok (.iload 5, 2) := by decide +kernel
theorem dX0_face_117 : decode cX0_face 117 = .ok (.iastore, 1) := by decide +kernel
theorem dX0_face_118 : decode cX0_face 118 = .ok (.return_, 1) := by decide +kernel
theorem dX0_areTwo_0 : decode cX0_areTwo 0 = .ok (.aload_n 0, 1) := by decide +kernel
theorem dX0_areTwo_1 : decode cX0_areTwo 1 = .ok (.getfield 17, 3) := by decide +kernel
theorem dX0_areTwo_4 : decode cX0_areTwo 4 = .ok (.iload_n 1, 1) := by decide +kernel
theorem dX0_areTwo_5 : decode cX0_areTwo 5 = .ok (.invokevirtual 94, 3) := by decide +kernel
theorem dX0_areTwo_8 : decode cX0_areTwo 8 = .ok (.ifCond .eq 23, 3) := by decide +kernel
theorem dX0_areTwo_11 : decode cX0_areTwo 11 = .ok (.aload_n 0, 1) := by decide +kernel
theorem dX0_areTwo_12 : decode cX0_areTwo 12 = .ok (.getfield 17, 3) := by decide +kernel
theorem dX0_areTwo_15 : decode cX0_areTwo 15 = .ok (.iload_n 2, 1) := by decide +kernel
theorem dX0_areTwo_16 : decode cX0_areTwo 16 = .ok (.invokevirtual 94, 3) := by decide +kernel
theorem dX0_areTwo_19 : decode cX0_areTwo 19 = .ok (.ifCond .eq 12, 3) := by decide +kernel
theorem dX0_areTwo_22 : decode cX0_areTwo 22 = .ok (.iload_n 1, 1) := by decide +kernel
theorem dX0_areTwo_23 : decode cX0_areTwo 23 = .ok (.iload_n 2, 1) := by decide +kernel
theorem dX0_areTwo_24 : decode cX0_areTwo 24 = .ok (.if_icmp .eq 7, 3) := by decide +kernel
theorem dX0_areTwo_27 : decode cX0_areTwo 27 = .ok (.iconst 1, 1) := by decide +kernel
theorem dX0_areTwo_28 : decode cX0_areTwo 28 = .ok (.goto 4, 3) := by decide +kernel
theorem dX0_areTwo_31 : decode cX0_areTwo 31 = .ok (.iconst 0, 1) := by decide +kernel
theorem dX0_areTwo_32 : decode cX0_areTwo 32 = .ok (.ireturn, 1) := by decide +kernel
theorem dX0_quarrelNow_0 : decode cX0_quarrelNow 0 = .ok (.aload_n 0, 1) := by decide +kernel
theorem dX0_quarrelNow_1 : decode cX0_quarrelNow 1 = .ok (.iload_n 1, 1) := by decide +kernel
theorem dX0_quarrelNow_2 : decode cX0_quarrelNow 2 = .ok (.iload_n 2, 1) := by decide +kernel
theorem dX0_quarrelNow_3 : decode cX0_quarrelNow 3 = .ok (.invokevirtual 25, 3) := by decide +kernel
theorem dX0_quarrelNow_6 : decode cX0_quarrelNow 6 = .ok (.ifCond .ne 5, 3) := by decide +kernel
theorem dX0_quarrelNow_9 : decode cX0_quarrelNow 9 = .ok (.iconst 1, 1) := by decide +kernel
theorem dX0_quarrelNow_10 : decode cX0_quarrelNow 10 = .ok (.ireturn, 1) := by decide +kernel
theorem dX0_quarrelNow_11 : decode cX0_quarrelNow 11 = .ok (.aload_n 0, 1) := by decide +kernel
theorem dX0_quarrelNow_12 : decode cX0_quarrelNow 12 = .ok (.getfield 21, 3) := by decide +kernel
theorem dX0_quarrelNow_15 : decode cX0_quarrelNow 15 = .ok (.getfield 112, 3) := by decide +kernel
theorem dX0_quarrelNow_18 : decode cX0_quarrelNow 18 = .ok (.iload_n 1, 1) := by decide +kernel
theorem dX0_quarrelNow_19 : decode cX0_quarrelNow 19 = .ok (.dup2, 1) := by decide +kernel
theorem dX0_quarrelNow_20 : decode cX0_quarrelNow 20 = .ok (.iaload, 1) := by decide +kernel
theorem dX0_quarrelNow_21 : decode cX0_quarrelNow 21 = .ok (.iconst 1, 1) := by decide +kernel
theorem dX0_quarrelNow_22 : decode cX0_quarrelNow 22 = .ok (.iload_n 2, 1) := by decide +kernel
theorem dX0_quarrelNow_23 : decode cX0_quarrelNow 23 = .ok (.ishl, 1) := by decide +kernel
theorem dX0_quarrelNow_24 : decode cX0_quarrelNow 24 = .ok (.ixor, 1) := by decide +kernel
theorem dX0_quarrelNow_25 : decode cX0_quarrelNow 25 = .ok (.iastore, 1) := by decide +kernel
theorem dX0_quarrelNow_26 : decode cX0_quarrelNow 26 = .ok (.aload_n 0, 1) := by decide +kernel
theorem dX0_quarrelNow_27 : decode cX0_quarrelNow 27 = .ok (.getfield 21, 3) := by decide +kernel
theorem dX0_quarrelNow_30 : decode cX0_quarrelNow 30 = .ok (.getfield 112, 3) := by decide +kernel
theorem dX0_quarrelNow_33 : decode cX0_quarrelNow 33 = .ok (.iload_n 2, 1) := by decide +kernel
theorem dX0_quarrelNow_34 : decode cX0_quarrelNow 34 = .ok (.dup2, 1) := by decide +kernel
theorem dX0_quarrelNow_35 : decode cX0_quarrelNow 35 = .ok (.iaload, 1) := by decide +kernel
theorem dX0_quarrelNow_36 : decode cX0_quarrelNow 36 = .ok (.iconst 1, 1) := by decide +kernel
theorem dX0_quarrelNow_37 : decode cX0_quarrelNow 37 = .ok (.iload_n 1, 1) := by decide +kernel
theorem dX0_quarrelNow_38 : decode cX0_quarrelNow 38 = .ok (.ishl, 1) := by decide +kernel
theorem dX0_quarrelNow_39 : decode cX0_quarrelNow 39 = .ok (.ixor, 1) := by decide +kernel
theorem dX0_quarrelNow_40 : decode cX0_quarrelNow 40 = .ok (.iastore, 1) := by decide +kernel
theorem dX0_quarrelNow_41 : decode cX0_quarrelNow 41 = .ok (.iconst 0, 1) := by decide +kernel
theorem dX0_quarrelNow_42 : decode cX0_quarrelNow 42 = .ok (.ireturn, 1) := by decide +kernel
theorem dX0_hourNow_0 : decode cX0_hourNow 0 = .ok (.iload_n 1, 1) := by decide +kernel
theorem dX0_hourNow_1 : decode cX0_hourNow 1 = .ok (.ifCond .lt 9, 3) := by decide +kernel
theorem dX0_hourNow_4 : decode cX0_hourNow 4 = .ok (.iload_n 1, 1) := by decide +kernel
theorem dX0_hourNow_5 : decode cX0_hourNow 5 = .ok (.bipush 10, 2) := by decide +kernel
theorem dX0_hourNow_7 : decode cX0_hourNow 7 = .ok (.if_icmp .lt 5, 3) := by decide +kernel
theorem dX0_hourNow_10 : decode cX0_hourNow 10 = .ok (.iconst 1, 1) := by decide +kernel
theorem dX0_hourNow_11 : decode cX0_hourNow 11 = .ok (.ireturn, 1) := by decide +kernel
theorem dX0_hourNow_12 : decode cX0_hourNow 12 = .ok (.aload_n 0, 1) := by decide +kernel
theorem dX0_hourNow_13 : decode cX0_hourNow 13 = .ok (.getfield 21, 3) := by decide +kernel
theorem dX0_hourNow_16 : decode cX0_hourNow 16 = .ok (.iload_n 1, 1) := by decide +kernel
theorem dX0_hourNow_17 : decode cX0_hourNow 17 = .ok (.putfield 97, 3) := by decide +kernel
theorem dX0_hourNow_20 : decode cX0_hourNow 20 = .ok (.iconst 0, 1) := by decide +kernel
theorem dX0_hourNow_21 : decode cX0_hourNow 21 = .ok (.ireturn, 1) := by decide +kernel
theorem dX0_tryDeed_0 : decode cX0_tryDeed 0 = .ok (.lload_n 1, 1) := by decide +kernel
theorem dX0_tryDeed_1 : decode cX0_tryDeed 1 = .ok (.ldc2_w 115, 3) := by decide +kernel
theorem dX0_tryDeed_4 : decode cX0_tryDeed 4 = .ok (.lcmp, 1) := by decide +kernel
theorem dX0_tryDeed_5 : decode cX0_tryDeed 5 = .ok (.ifCond .lt 21, 3) := by decide +kernel
theorem dX0_tryDeed_8 : decode cX0_tryDeed 8 = .ok (.lload_n 1, 1) := by decide +kernel
theorem dX0_tryDeed_9 : decode cX0_tryDeed 9 = .ok (.ldc2_w 117, 3) := by decide +kernel
theorem dX0_tryDeed_12 : decode cX0_tryDeed 12 = .ok (.lcmp, 1) := by decide +kernel
theorem dX0_tryDeed_13 : decode cX0_tryDeed 13 = .ok (.ifCond .gt 13, 3) := by decide +kernel
theorem dX0_tryDeed_16 : decode cX0_tryDeed 16 = .ok (.aload_n 0, 1) := by decide +kernel
theorem dX0_tryDeed_17 : decode cX0_tryDeed 17 = .ok (.lload_n 1, 1) := by decide +kernel
theorem dX0_tryDeed_18 : decode cX0_tryDeed 18 = .ok (.l2i, 1) := by decide +kernel
theorem dX0_tryDeed_19 : decode cX0_tryDeed 19 = .ok (.bipush 10, 2) := by decide +kernel
theorem dX0_tryDeed_21 : decode cX0_tryDeed 21 = .ok (.isub, 1) := by decide +kernel
theorem dX0_tryDeed_22 : decode cX0_tryDeed 22 = .ok (.invokevirtual 119, 3) := by decide +kernel
theorem dX0_tryDeed_25 : decode cX0_tryDeed 25 = .ok (.ireturn, 1) := by decide +kernel
theorem dX0_tryDeed_26 : decode cX0_tryDeed 26 = .ok (.lload_n 1, 1) := by decide +kernel
theorem dX0_tryDeed_27 : decode cX0_tryDeed 27 = .ok (.ldc2_w 123, 3) := by decide +kernel
theorem dX0_tryDeed_30 : decode cX0_tryDeed 30 = .ok (.lcmp, 1) := by decide +kernel
theorem dX0_tryDeed_31 : decode cX0_tryDeed 31 = .ok (.ifCond .lt 29, 3) := by decide +kernel
theorem dX0_tryDeed_34 : decode cX0_tryDeed 34 = .ok (.lload_n 1, 1) := by decide +kernel
theorem dX0_tryDeed_35 : decode cX0_tryDeed 35 = .ok (.ldc2_w 125, 3) := by decide +kernel
theorem dX0_tryDeed_38 : decode cX0_tryDeed 38 = .ok (.lcmp, 1) := by decide +kernel
theorem dX0_tryDeed_39 : decode cX0_tryDeed 39 = .ok (.ifCond .gt 21, 3) := by decide +kernel
theorem dX0_tryDeed_42 : decode cX0_tryDeed 42 = .ok (.aload_n 0, 1) := by decide +kernel
theorem dX0_tryDeed_43 : decode cX0_tryDeed 43 = .ok (.lload_n 1, 1) := by decide +kernel
theorem dX0_tryDeed_44 : decode cX0_tryDeed 44 = .ok (.l2i, 1) := by decide +kernel
theorem dX0_tryDeed_45 : decode cX0_tryDeed 45 = .ok (.bipush 100, 2) := by decide +kernel
theorem dX0_tryDeed_47 : decode cX0_tryDeed 47 = .ok (.isub, 1) := by decide +kernel
theorem dX0_tryDeed_48 : decode cX0_tryDeed 48 = .ok (.bipush 10, 2) := by decide +kernel
theorem dX0_tryDeed_50 : decode cX0_tryDeed 50 = .ok (.idiv, 1) := by decide +kernel
theorem dX0_tryDeed_51 : decode cX0_tryDeed 51 = .ok (.lload_n 1, 1) := by decide +kernel
theorem dX0_tryDeed_52 : decode cX0_tryDeed 52 = .ok (.l2i, 1) := by decide +kernel
theorem dX0_tryDeed_53 : decode cX0_tryDeed 53 = .ok (.bipush 10, 2) := by decide +kernel
theorem dX0_tryDeed_55 : decode cX0_tryDeed 55 = .ok (.irem, 1) := by decide +kernel
theorem dX0_tryDeed_56 : decode cX0_tryDeed 56 = .ok (.invokevirtual 127, 3) := by decide +kernel
theorem dX0_tryDeed_59 : decode cX0_tryDeed 59 = .ok (.ireturn, 1) := by decide +kernel
theorem dX0_tryDeed_60 : decode cX0_tryDeed 60 = .ok (.lload_n 1, 1) := by decide +kernel
theorem dX0_tryDeed_61 : decode cX0_tryDeed 61 = .ok (.ldc2_w 130, 3) := by decide +kernel
theorem dX0_tryDeed_64 : decode cX0_tryDeed 64 = .ok (.lcmp, 1) := by decide +kernel
theorem dX0_tryDeed_65 : decode cX0_tryDeed 65 = .ok (.ifCond .lt 11, 3) := by decide +kernel
theorem dX0_tryDeed_68 : decode cX0_tryDeed 68 = .ok (.lload_n 1, 1) := by decide +kernel
theorem dX0_tryDeed_69 : decode cX0_tryDeed 69 = .ok (.ldc2_w 132, 3) := by decide +kernel
theorem dX0_tryDeed_72 : decode cX0_tryDeed 72 = .ok (.lcmp, 1) := by decide +kernel
theorem dX0_tryDeed_73 : decode cX0_tryDeed 73 = .ok (.ifCond .le 5, 3) := by decide +kernel
theorem dX0_tryDeed_76 : decode cX0_tryDeed 76 = .ok (.iconst 1, 1) := by decide +kernel
theorem dX0_tryDeed_77 : decode cX0_tryDeed 77 = .ok (.ireturn, 1) := by decide +kernel
theorem dX0_tryDeed_78 : decode cX0_tryDeed 78 = .ok (.lload_n 1, 1) := by decide +kernel
theorem dX0_tryDeed_79 : decode cX0_tryDeed 79 = .ok (.l2i, 1) := by decide +kernel
theorem dX0_tryDeed_80 : decode cX0_tryDeed 80 = .ok (.sipush 10000, 3) := by decide +kernel
theorem dX0_tryDeed_83 : decode cX0_tryDeed 83 = .ok (.isub, 1) := by decide +kernel
theorem dX0_tryDeed_84 : decode cX0_tryDeed 84 = .ok (.istore_n 3, 1) := by decide +kernel
theorem dX0_tryDeed_85 : decode cX0_tryDeed 85 = .ok (.iload_n 3, 1) := by decide +kernel
theorem dX0_tryDeed_86 : decode cX0_tryDeed 86 = .ok (.sipush 1000, 3) := by decide +kernel
theorem dX0_tryDeed_89 : decode cX0_tryDeed 89 = .ok (.idiv, 1) := by decide +kernel
theorem dX0_tryDeed_90 : decode cX0_tryDeed 90 = .ok (.istore 4, 2) := by decide +kernel
theorem dX0_tryDeed_92 : decode cX0_tryDeed 92 = .ok (.iload_n 3, 1) := by decide +kernel
theorem dX0_tryDeed_93 : decode cX0_tryDeed 93 = .ok (.bipush 100, 2) := by decide +kernel
theorem dX0_tryDeed_95 : decode cX0_tryDeed 95 = .ok (.idiv, 1) := by decide +kernel
theorem dX0_tryDeed_96 : decode cX0_tryDeed 96 = .ok (.bipush 10, 2) := by decide +kernel
theorem dX0_tryDeed_98 : decode cX0_tryDeed 98 = .ok (.irem, 1) := by decide +kernel
theorem dX0_tryDeed_99 : decode cX0_tryDeed 99 = .ok (.istore 5, 2) := by decide +kernel
theorem dX0_tryDeed_101 : decode cX0_tryDeed 101 = .ok (.iload_n 3, 1) := by decide +kernel
theorem dX0_tryDeed_102 : decode cX0_tryDeed 102 = .ok (.bipush 10, 2) := by decide +kernel
theorem dX0_tryDeed_104 : decode cX0_tryDeed 104 = .ok (.idiv, 1) := by decide +kernel
theorem dX0_tryDeed_105 : decode cX0_tryDeed 105 = .ok (.bipush 10, 2) := by decide +kernel
theorem dX0_tryDeed_107 : decode cX0_tryDeed 107 = .ok (.irem, 1) := by decide +kernel
theorem dX0_tryDeed_108 : decode cX0_tryDeed 108 = .ok (.istore 6, 2) := by decide +kernel
theorem dX0_tryDeed_110 : decode cX0_tryDeed 110 = .ok (.iload 4, 2) := by decide +kernel
theorem dX0_tryDeed_112 : decode cX0_tryDeed 112 = .ok (.iload 5, 2) := by decide +kernel
theorem dX0_tryDeed_114 : decode cX0_tryDeed 114 = .ok (.if_icmp .ge 27, 3) := by decide +kernel
theorem dX0_tryDeed_117 : decode cX0_tryDeed 117 = .ok (.aload_n 0, 1) := by decide +kernel
theorem dX0_tryDeed_118 : decode cX0_tryDeed 118 = .ok (.iload 4, 2) := by decide +kernel
theorem dX0_tryDeed_120 : decode cX0_tryDeed 120 = .ok (.iload 5, 2) := by decide +kernel
theorem dX0_tryDeed_122 : decode cX0_tryDeed 122 = .ok (.iload 6, 2) := by decide +kernel
theorem dX0_tryDeed_124 : decode cX0_tryDeed 124 = .ok (.iload_n 3, 1) := by decide +kernel
theorem dX0_tryDeed_125 : decode cX0_tryDeed 125 = .ok (.bipush 10, 2) := by decide +kernel
theorem dX0_tryDeed_127 : decode cX0_tryDeed 127 = .ok (.irem, 1) := by decide +kernel
theorem dX0_tryDeed_128 : decode cX0_tryDeed 128 = .ok (.aload_n 0, 1) := by decide +kernel
theorem dX0_tryDeed_129 : decode cX0_tryDeed 129 = .ok (.getfield 21, 3) := by decide +kernel
theorem dX0_tryDeed_132 : decode cX0_tryDeed 132 = .ok (.getfield 97, 3) := by decide +kernel
theorem dX0_tryDeed_135 : decode cX0_tryDeed 135 = .ok (.invokevirtual 134, 3) := by decide +kernel
theorem dX0_tryDeed_138 : decode cX0_tryDeed 138 = .ok (.goto 4, 3) := by decide +kernel
theorem dX0_tryDeed_141 : decode cX0_tryDeed 141 = .ok (.iconst (-1), 1) := by decide +kernel
theorem dX0_tryDeed_142 : decode cX0_tryDeed 142 = .ok (.istore 7, 2) := by decide +kernel
theorem dX0_tryDeed_144 : decode cX0_tryDeed 144 = .ok (.iload 7, 2) := by decide +kernel
theorem dX0_tryDeed_146 : decode cX0_tryDeed 146 = .ok (.ifCond .ge 7, 3) := by decide +kernel
theorem dX0_tryDeed_149 : decode cX0_tryDeed 149 = .ok (.iload 7, 2) := by decide +kernel
theorem dX0_tryDeed_151 : decode cX0_tryDeed 151 = .ok (.ineg, 1) := by decide +kernel
theorem dX0_tryDeed_152 : decode cX0_tryDeed 152 = .ok (.ireturn, 1) := by decide +kernel
theorem dX0_tryDeed_153 : decode cX0_tryDeed 153 = .ok (.aload_n 0, 1) := by decide +kernel
theorem dX0_tryDeed_154 : decode cX0_tryDeed 154 = .ok (.getfield 21, 3) := by decide +kernel
theorem dX0_tryDeed_157 : decode cX0_tryDeed 157 = .ok (.iload 6, 2) := by decide +kernel
theorem dX0_tryDeed_159 : decode cX0_tryDeed 159 = .ok (.iload_n 3, 1) := by decide +kernel
theorem dX0_tryDeed_160 : decode cX0_tryDeed 160 = .ok (.bipush 10, 2) := by decide +kernel
theorem dX0_tryDeed_162 : decode cX0_tryDeed 162 = .ok (.irem, 1) := by decide +kernel
theorem dX0_tryDeed_163 : decode cX0_tryDeed 163 = .ok (.iload 7, 2) := by decide +kernel
theorem dX0_tryDeed_165 : decode cX0_tryDeed 165 = .ok (.invokevirtual 138, 3) := by decide +kernel
theorem dX0_tryDeed_168 : decode cX0_tryDeed 168 = .ok (.iconst 0, 1) := by decide +kernel
theorem dX0_tryDeed_169 : decode cX0_tryDeed 169 = .ok (.ireturn, 1) := by decide +kernel
theorem dX0_hoursOf_0 : decode cX0_hoursOf 0 = .ok (.iconst 0, 1) := by decide +kernel
theorem dX0_hoursOf_1 : decode cX0_hoursOf 1 = .ok (.istore_n 2, 1) := by decide +kernel
theorem dX0_hoursOf_2 : decode cX0_hoursOf 2 = .ok (.iconst 0, 1) := by decide +kernel
theorem dX0_hoursOf_3 : decode cX0_hoursOf 3 = .ok (.istore_n 3, 1) := by decide +kernel
theorem dX0_hoursOf_4 : decode cX0_hoursOf 4 = .ok (.iload_n 3, 1) := by decide +kernel
theorem dX0_hoursOf_5 : decode cX0_hoursOf 5 = .ok (.bipush 10, 2) := by decide +kernel
theorem dX0_hoursOf_7 : decode cX0_hoursOf 7 = .ok (.if_icmp .ge 24, 3) := by decide +kernel
theorem dX0_hoursOf_10 : decode cX0_hoursOf 10 = .ok (.aload_n 0, 1) := by decide +kernel
theorem dX0_hoursOf_11 : decode cX0_hoursOf 11 = .ok (.aload_n 1, 1) := by decide +kernel
theorem dX0_hoursOf_12 : decode cX0_hoursOf 12 = .ok (.iload_n 3, 1) := by decide +kernel
theorem dX0_hoursOf_13 : decode cX0_hoursOf 13 = .ok (.invokevirtual 142, 3) := by decide +kernel
theorem dX0_hoursOf_16 : decode cX0_hoursOf 16 = .ok (.ifCond .eq 9, 3) := by decide +kernel
theorem dX0_hoursOf_19 : decode cX0_hoursOf 19 = .ok (.iload_n 2, 1) := by decide +kernel
theorem dX0_hoursOf_20 : decode cX0_hoursOf 20 = .ok (.iconst 1, 1) := by decide +kernel
theorem dX0_hoursOf_21 : decode cX0_hoursOf 21 = .ok (.iload_n 3, 1) := by decide +kernel
theorem dX0_hoursOf_22 : decode cX0_hoursOf 22 = .ok (.ishl, 1) := by decide +kernel
theorem dX0_hoursOf_23 : decode cX0_hoursOf 23 = .ok (.ior, 1) := by decide +kernel
theorem dX0_hoursOf_24 : decode cX0_hoursOf 24 = .ok (.istore_n 2, 1) := by decide +kernel
theorem dX0_hoursOf_25 : decode cX0_hoursOf 25 = .ok (.iinc 3 1, 3) := by decide +kernel
theorem dX0_hoursOf_28 : decode cX0_hoursOf 28 = .ok (.goto (-24), 3) := by decide +kernel
theorem dX0_hoursOf_31 : decode cX0_hoursOf 31 = .ok (.iload_n 2, 1) := by decide +kernel
theorem dX0_hoursOf_32 : decode cX0_hoursOf 32 = .ok (.ireturn, 1) := by decide +kernel
theorem dX0_allSoAt_0 : decode cX0_allSoAt 0 = .ok (.iconst 0, 1) := by decide +kernel
theorem dX0_allSoAt_1 : decode cX0_allSoAt 1 = .ok (.istore_n 3, 1) := by decide +kernel
theorem dX0_allSoAt_2 : decode cX0_allSoAt 2 = .ok (.iload_n 3, 1) := by decide +kernel
theorem dX0_allSoAt_3 : decode cX0_allSoAt 3 = .ok (.aload_n 1, 1) := by decide +kernel
theorem dX0_allSoAt_4 : decode cX0_allSoAt 4 = .ok (.getfield 146, 3) := by decide +kernel
theorem dX0_allSoAt_7 : decode cX0_allSoAt 7 = .ok (.if_icmp .ge 82, 3) := by decide +kernel
theorem dX0_allSoAt_10 : decode cX0_allSoAt 10 = .ok (.aload_n 1, 1) := by decide +kernel
theorem dX0_allSoAt_11 : decode cX0_allSoAt 11 = .ok (.getfield 151, 3) := by decide +kernel
theorem dX0_allSoAt_14 : decode cX0_allSoAt 14 = .ok (.iload_n 3, 1) := by decide +kernel
theorem dX0_allSoAt_15 : decode cX0_allSoAt 15 = .ok (.laload, 1) := by decide +kernel
theorem dX0_allSoAt_16 : decode cX0_allSoAt 16 = .ok (.l2i, 1) := by decide +kernel
theorem dX0_allSoAt_17 : decode cX0_allSoAt 17 = .ok (.istore 4, 2) := by decide +kernel
theorem dX0_allSoAt_19 : decode cX0_allSoAt 19 = .ok (.iload 4, 2) := by decide +kernel
theorem dX0_allSoAt_21 : decode cX0_allSoAt 21 = .ok (.bipush 10, 2) := by decide +kernel
theorem dX0_allSoAt_23 : decode cX0_allSoAt 23 = .ok (.idiv, 1) := by decide +kernel
theorem dX0_allSoAt_24 : decode cX0_allSoAt 24 = .ok (.istore 5, 2) := by decide +kernel
theorem dX0_allSoAt_26 : decode cX0_allSoAt 26 = .ok (.iload 5, 2) := by decide +kernel
theorem dX0_allSoAt_28 : decode cX0_allSoAt 28 = .ok (.sipush 1000, 3) := by decide +kernel
theorem dX0_allSoAt_31 : decode cX0_allSoAt 31 = .ok (.idiv, 1) := by decide +kernel
theorem dX0_allSoAt_32 : decode cX0_allSoAt 32 = .ok (.istore 6, 2) := by decide +kernel
theorem dX0_allSoAt_34 : decode cX0_allSoAt 34 = .ok (.iload 5, 2) := by decide +kernel
theorem dX0_allSoAt_36 : decode cX0_allSoAt 36 = .ok (.bipush 100, 2) := by decide +kernel
theorem dX0_allSoAt_38 : decode cX0_allSoAt 38 = .ok (.idiv, 1) := by decide +kernel
theorem dX0_allSoAt_39 : decode cX0_allSoAt 39 = .ok (.bipush 10, 2) := by decide +kernel
theorem dX0_allSoAt_41 : decode cX0_allSoAt 41 = .ok (.irem, 1) := by decide +kernel
theorem dX0_allSoAt_42 : decode cX0_allSoAt 42 = .ok (.istore 7, 2) := by decide +kernel
theorem dX0_allSoAt_44 : decode cX0_allSoAt 44 = .ok (.iload 6, 2) := by decide +kernel
theorem dX0_allSoAt_46 : decode cX0_allSoAt 46 = .ok (.iload 7, 2) := by decide +kernel
theorem dX0_allSoAt_48 : decode cX0_allSoAt 48 = .ok (.if_icmp .ge 33, 3) := by decide +kernel
theorem dX0_allSoAt_51 : decode cX0_allSoAt 51 = .ok (.aload_n 0, 1) := by decide +kernel
theorem dX0_allSoAt_52 : decode cX0_allSoAt 52 = .ok (.iload 6, 2) := by decide +kernel
theorem dX0_allSoAt_54 : decode cX0_allSoAt 54 = .ok (.iload 7, 2) := by decide +kernel
theorem dX0_allSoAt_56 : decode cX0_allSoAt 56 = .ok (.iload 5, 2) := by decide +kernel
theorem dX0_allSoAt_58 : decode cX0_allSoAt 58 = .ok (.bipush 10, 2) := by decide +kernel
theorem dX0_allSoAt_60 : decode cX0_allSoAt 60 = .ok (.idiv, 1) := by decide +kernel
theorem dX0_allSoAt_61 : decode cX0_allSoAt 61 = .ok (.bipush 10, 2) := by decide +kernel
theorem dX0_allSoAt_63 : decode cX0_allSoAt 63 = .ok (.irem, 1) := by decide +kernel
theorem dX0_allSoAt_64 : decode cX0_allSoAt 64 = .ok (.iload 5, 2) := by decide +kernel
theorem dX0_allSoAt_66 : decode cX0_allSoAt 66 = .ok (.bipush 10, 2) := by decide +kernel
theorem dX0_allSoAt_68 : decode cX0_allSoAt 68 = .ok (.irem, 1) := by decide +kernel
theorem dX0_allSoAt_69 : decode cX0_allSoAt 69 = .ok (.iload_n 2, 1) := by decide +kernel
theorem dX0_allSoAt_70 : decode cX0_allSoAt 70 = .ok (.invokevirtual 134, 3) := by decide +kernel
theorem dX0_allSoAt_73 : decode cX0_allSoAt 73 = .ok (.iload 4, 2) := by decide +kernel
theorem dX0_allSoAt_75 : decode cX0_allSoAt 75 = .ok (.bipush 10, 2) := by decide +kernel
theorem dX0_allSoAt_77 : decode cX0_allSoAt 77 = .ok (.irem, 1) := by decide +kernel
theorem dX0_allSoAt_78 : decode cX0_allSoAt 78 = .ok (.if_icmp .eq 5, 3) := by decide +kernel
theorem dX0_allSoAt_81 : decode cX0_allSoAt 81 = .ok (.iconst 0, 1) := by decide +kernel
theorem dX0_allSoAt_82 : decode cX0_allSoAt 82 = .ok (.ireturn, 1) := by decide +kernel
theorem dX0_allSoAt_83 : decode cX0_allSoAt 83 = .ok (.iinc 3 1, 3) := by decide +kernel
theorem dX0_allSoAt_86 : decode cX0_allSoAt 86 = .ok (.goto (-84), 3) := by decide +kernel
theorem dX0_allSoAt_89 : decode cX0_allSoAt 89 = .ok (.iconst 1, 1) := by decide +kernel
theorem dX0_allSoAt_90 : decode cX0_allSoAt 90 = .ok (.ireturn, 1) := by decide +kernel
theorem dX1_init_0 : decode cX1_init 0 = .ok (.aload_n 0, 1) := by decide +kernel
theorem dX1_init_1 : decode cX1_init 1 = .ok (.invokespecial 3, 3) := by decide +kernel
theorem dX1_init_4 : decode cX1_init 4 = .ok (.aload_n 0, 1) := by decide +kernel
theorem dX1_init_5 : decode cX1_init 5 = .ok (.sipush 256, 3) := by decide +kernel
theorem dX1_init_8 : decode cX1_init 8 = .ok (.newarray .int, 2) := by decide +kernel
theorem dX1_init_10 : decode cX1_init 10 = .ok (.putfield 9, 3) := by decide +kernel
theorem dX1_init_13 : decode cX1_init 13 = .ok (.aload_n 0, 1) := by decide +kernel
theorem dX1_init_14 : decode cX1_init 14 = .ok (.bipush 8, 2) := by decide +kernel
theorem dX1_init_16 : decode cX1_init 16 = .ok (.newarray .int, 2) := by decide +kernel
theorem dX1_init_18 : decode cX1_init 18 = .ok (.putfield 15, 3) := by decide +kernel
theorem dX1_init_21 : decode cX1_init 21 = .ok (.aload_n 0, 1) := by decide +kernel
theorem dX1_init_22 : decode cX1_init 22 = .ok (.aload_n 1, 1) := by decide +kernel
theorem dX1_init_23 : decode cX1_init 23 = .ok (.putfield 18, 3) := by decide +kernel
theorem dX1_init_26 : decode cX1_init 26 = .ok (.aload_n 0, 1) := by decide +kernel
theorem dX1_init_27 : decode cX1_init 27 = .ok (.aload_n 2, 1) := by decide +kernel
theorem dX1_init_28 : decode cX1_init 28 = .ok (.putfield 22, 3) := by decide +kernel
theorem dX1_init_31 : decode cX1_init 31 = .ok (.return_, 1) := by decide +kernel
theorem dX1_everybody_0 : decode cX1_everybody 0 = .ok (.iconst 1, 1) := by decide +kernel
theorem dX1_everybody_1 : decode cX1_everybody 1 = .ok (.aload_n 0, 1) := by decide +kernel
theorem dX1_everybody_2 : decode cX1_everybody 2 = .ok (.getfield 18, 3) := by decide +kernel
theorem dX1_everybody_5 : decode cX1_everybody 5 = .ok (.getfield 26, 3) := by decide +kernel
theorem dX1_everybody_8 : decode cX1_everybody 8 = .ok (.ishl, 1) := by decide +kernel
theorem dX1_everybody_9 : decode cX1_everybody 9 = .ok (.iconst 1, 1) := by decide +kernel
theorem dX1_everybody_10 : decode cX1_everybody 10 = .ok (.isub, 1) := by decide +kernel
theorem dX1_everybody_11 : decode cX1_everybody 11 = .ok (.ireturn, 1) := by decide +kernel
theorem dX1_friendsOf_0 : decode cX1_friendsOf 0 = .ok (.aload_n 0, 1) := by decide +kernel
theorem dX1_friendsOf_1 : decode cX1_friendsOf 1 = .ok (.invokevirtual 32, 3) := by decide +kernel
theorem dX1_friendsOf_4 : decode cX1_friendsOf 4 = .ok (.aload_n 0, 1) := by decide +kernel
theorem dX1_friendsOf_5 : decode cX1_friendsOf 5 = .ok (.getfield 22, 3) := by decide +kernel
theorem dX1_friendsOf_8 : decode cX1_friendsOf 8 = .ok (.getfield 36, 3) := by decide +kernel
theorem dX1_friendsOf_11 : decode cX1_friendsOf 11 = .ok (.iload_n 1, 1) := by decide +kernel
theorem dX1_friendsOf_12 : decode cX1_friendsOf 12 = .ok (.iaload, 1) := by decide +kernel
theorem dX1_friendsOf_13 : decode cX1_friendsOf 13 = .ok (.iconst (-1), 1) := by decide +kernel
theorem dX1_friendsOf_14 : decode cX1_friendsOf 14 = .ok (.ixor, 1) := by decide +kernel
theorem dX1_friendsOf_15 : decode cX1_friendsOf 15 = .ok (.iand, 1) := by decide +kernel
theorem dX1_friendsOf_16 : decode cX1_friendsOf 16 = .ok (.iconst 1, 1) := by decide +kernel
theorem dX1_friendsOf_17 : decode cX1_friendsOf 17 = .ok (.iload_n 1, 1) := by decide +kernel
theorem dX1_friendsOf_18 : decode cX1_friendsOf 18 = .ok (.ishl, 1) := by decide +kernel
theorem dX1_friendsOf_19 : decode cX1_friendsOf 19 = .ok (.iconst (-1), 1) := by decide +kernel
theorem dX1_friendsOf_20 : decode cX1_friendsOf 20 = .ok (.ixor, 1) := by decide +kernel
theorem dX1_friendsOf_21 : decode cX1_friendsOf 21 = .ok (.iand, 1) := by decide +kernel
theorem dX1_friendsOf_22 : decode cX1_friendsOf 22 = .ok (.ireturn, 1) := by decide +kernel
theorem dX1_part_0 : decode cX1_part 0 = .ok (.iconst 0, 1) := by decide +kernel
theorem dX1_part_1 : decode cX1_part 1 = .ok (.istore_n 2, 1) := by decide +kernel
theorem dX1_part_2 : decode cX1_part 2 = .ok (.iload_n 2, 1) := by decide +kernel
theorem dX1_part_3 : decode cX1_part 3 = .ok (.aload_n 0, 1) := by decide +kernel
theorem dX1_part_4 : decode cX1_part 4 = .ok (.invokevirtual 32, 3) := by decide +kernel
theorem dX1_part_7 : decode cX1_part 7 = .ok (.if_icmp .gt 21, 3) := by decide +kernel
theorem dX1_part_10 : decode cX1_part 10 = .ok (.aload_n 0, 1) := by decide +kernel
theorem dX1_part_11 : decode cX1_part 11 = .ok (.getfield 9, 3) := by decide +kernel
theorem dX1_part_14 : decode cX1_part 14 = .ok (.iload_n 2, 1) := by decide +kernel
theorem dX1_part_15 : decode cX1_part 15 = .ok (.aload_n 0, 1) := by decide +kernel
theorem dX1_part_16 : decode cX1_part 16 = .ok (.iload_n 2, 1) := by decide +kernel
theorem dX1_part_17 : decode cX1_part 17 = .ok (.iload_n 1, 1) := by decide +kernel
theorem dX1_part_18 : decode cX1_part 18 = .ok (.invokevirtual 41, 3) := by decide +kernel
theorem dX1_part_21 : decode cX1_part 21 = .ok (.iastore, 1) := by decide +kernel
theorem dX1_part_22 : decode cX1_part 22 = .ok (.iinc 2 1, 3) := by decide +kernel
theorem dX1_part_25 : decode cX1_part 25 = .ok (.goto (-23), 3) := by decide +kernel
theorem dX1_part_28 : decode cX1_part 28 = .ok (.aload_n 0, 1) := by decide +kernel
theorem dX1_part_29 : decode cX1_part 29 = .ok (.getfield 15, 3) := by decide +kernel
theorem dX1_part_32 : decode cX1_part 32 = .ok (.iconst (-1), 1) := by decide +kernel
theorem dX1_part_33 : decode cX1_part 33 = .ok (.invokestatic 45, 3) := by decide +kernel
theorem dX1_part_36 : decode cX1_part 36 = .ok (.aload_n 0, 1) := by decide +kernel
theorem dX1_part_37 : decode cX1_part 37 = .ok (.invokevirtual 32, 3) := by decide +kernel
theorem dX1_part_40 : decode cX1_part 40 = .ok (.istore_n 2, 1) := by decide +kernel
theorem dX1_part_41 : decode cX1_part 41 = .ok (.iconst 0, 1) := by decide +kernel
theorem dX1_part_42 : decode cX1_part 42 = .ok (.istore_n 3, 1) := by decide +kernel
theorem dX1_part_43 : decode cX1_part 43 = .ok (.iload_n 3, 1) := by decide +kernel
theorem dX1_part_44 : decode cX1_part 44 = .ok (.aload_n 0, 1) := by decide +kernel
theorem dX1_part_45 : decode cX1_part 45 = .ok (.getfield 18, 3) := by decide +kernel
theorem dX1_part_48 : decode cX1_part 48 = .ok (.getfield 26, 3) := by decide +kernel
theorem dX1_part_51 : decode cX1_part 51 = .ok (.if_icmp .ge 65, 3) := by decide +kernel
theorem dX1_part_54 : decode cX1_part 54 = .ok (.iload_n 2, 1) := by decide +kernel
theorem dX1_part_55 : decode cX1_part 55 = .ok (.iload_n 3, 1) := by decide +kernel
theorem dX1_part_56 : decode cX1_part 56 = .ok (.invokestatic 51, 3) := by decide +kernel
theorem dX1_part_59 : decode cX1_part 59 = .ok (.ifCond .eq 51, 3) := by decide +kernel
theorem dX1_part_62 : decode cX1_part 62 = .ok (.aload_n 0, 1) := by decide +kernel
theorem dX1_part_63 : decode cX1_part 63 = .ok (.iload_n 2, 1) := by decide +kernel
theorem dX1_part_64 : decode cX1_part 64 = .ok (.iload_n 3, 1) := by decide +kernel
theorem dX1_part_65 : decode cX1_part 65 = .ok (.iload_n 1, 1) := by decide +kernel
theorem dX1_part_66 : decode cX1_part 66 = .ok (.invokevirtual 55, 3) := by decide +kernel
theorem dX1_part_69 : decode cX1_part 69 = .ok (.istore 4, 2) := by decide +kernel
theorem dX1_part_71 : decode cX1_part 71 = .ok (.iload_n 2, 1) := by decide +kernel
theorem dX1_part_72 : decode cX1_part 72 = .ok (.iconst 1, 1) := by decide +kernel
theorem dX1_part_73 : decode cX1_part 73 = .ok (.iload_n 3, 1) := by decide +kernel
theorem dX1_part_74 : decode cX1_part 74 = .ok (.ishl, 1) := by decide +kernel
theorem dX1_part_75 : decode cX1_part 75 = .ok (.iconst (-1), 1) := by decide +kernel
theorem dX1_part_76 : decode cX1_part 76 = .ok (.ixor, 1) := by decide +kernel
theorem dX1_part_77 : decode cX1_part 77 = .ok (.iand, 1) := by decide +kernel
theorem dX1_part_78 : decode cX1_part 78 = .ok (.istore_n 2, 1) := by decide +kernel
theorem dX1_part_79 : decode cX1_part 79 = .ok (.iload 4, 2) := by decide +kernel
theorem dX1_part_81 : decode cX1_part 81 = .ok (.iconst (-1), 1) := by decide +kernel
theorem dX1_part_82 : decode cX1_part 82 = .ok (.if_icmp .eq 28, 3) := by decide +kernel
theorem dX1_part_85 : decode cX1_part 85 = .ok (.iload_n 2, 1) := by decide +kernel
theorem dX1_part_86 : decode cX1_part 86 = .ok (.iconst 1, 1) := by decide +kernel
theorem dX1_part_87 : decode cX1_part 87 = .ok (.iload 4, 2) := by decide +kernel
theorem dX1_part_89 : decode cX1_part 89 = .ok (.ishl, 1) := by decide +kernel
theorem dX1_part_90 : decode cX1_part 90 = .ok (.iconst (-1), 1) := by decide +kernel
theorem dX1_part_91 : decode cX1_part 91 = .ok (.ixor, 1) := by decide +kernel
theorem dX1_part_92 : decode cX1_part 92 = .ok (.iand, 1) := by decide +kernel
theorem dX1_part_93 : decode cX1_part 93 = .ok (.istore_n 2, 1) := by decide +kernel
theorem dX1_part_94 : decode cX1_part 94 = .ok (.aload_n 0, 1) := by decide +kernel
theorem dX1_part_95 : decode cX1_part 95 = .ok (.getfield 15, 3) := by decide +kernel
theorem dX1_part_98 : decode cX1_part 98 = .ok (.iload_n 3, 1) := by decide +kernel
theorem dX1_part_99 : decode cX1_part 99 = .ok (.iload 4, 2) := by decide +kernel
theorem dX1_part_101 : decode cX1_part 101 = .ok (.iastore, 1) := by decide +kernel
theorem dX1_part_102 : decode cX1_part 102 = .ok (.aload_n 0, 1) := by decide +kernel
theorem dX1_part_103 : decode cX1_part 103 = .ok (.getfield 15, 3) := by decide +kernel
theorem dX1_part_106 : decode cX1_part 106 = .ok (.iload 4, 2) := by decide +kernel
theorem dX1_part_108 : decode cX1_part 108 = .ok (.iload_n 3, 1) := by decide +kernel
theorem dX1_part_109 : decode cX1_part 109 = .ok (.iastore, 1) := by decide +kernel
theorem dX1_part_110 : decode cX1_part 110 = .ok (.iinc 3 1, 3) := by decide +kernel
theorem dX1_part_113 : decode cX1_part 113 = .ok (.goto (-70), 3) := by decide +kernel
theorem dX1_part_116 : decode cX1_part 116 = .ok (.return_, 1) := by decide +kernel
theorem dX1_mostPairsIn_0 : decode cX1_mostPairsIn 0 = .ok (.iload_n 1, 1) := by decide +kernel
theorem dX1_mostPairsIn_1 : decode cX1_mostPairsIn 1 = .ok (.ifCond .ne 5, 3) := by decide +kernel
theorem dX1_mostPairsIn_4 : decode cX1_mostPairsIn 4 = .ok (.iconst 0, 1) := by decide +kernel
theorem dX1_mostPairsIn_5 : decode cX1_mostPairsIn 5 = .ok (.ireturn, 1) := by decide +kernel
theorem dX1_mostPairsIn_6 : decode cX1_mostPairsIn 6 = .ok (.aload_n 0, 1) := by decide +kernel
theorem dX1_mostPairsIn_7 : decode cX1_mostPairsIn 7 = .ok (.iload_n 1, 1) := by decide +kernel
theorem dX1_mostPairsIn_8 : decode cX1_mostPairsIn 8 = .ok (.invokevirtual 59, 3) := by decide +kernel
theorem dX1_mostPairsIn_11 : decode cX1_mostPairsIn 11 = .ok (.istore_n 3, 1) := by decide +kernel
theorem dX1_mostPairsIn_12 : decode cX1_mostPairsIn 12 = .ok (.iload_n 1, 1) := by decide +kernel
theorem dX1_mostPairsIn_13 : decode cX1_mostPairsIn 13 = .ok (.iconst 1, 1) := by decide +kernel
theorem dX1_mostPairsIn_14 : decode cX1_mostPairsIn 14 = .ok (.iload_n 3, 1) := by decide +kernel
theorem dX1_mostPairsIn_15 : decode cX1_mostPairsIn 15 = .ok (.ishl, 1) := by decide +kernel
theorem dX1_mostPairsIn_16 : decode cX1_mostPairsIn 16 = .ok (.iconst (-1), 1) := by decide +kernel
theorem dX1_mostPairsIn_17 : decode cX1_mostPairsIn 17 = .ok (.ixor, 1) := by decide +kernel
theorem dX1_mostPairsIn_18 : decode cX1_mostPairsIn 18 = .ok (.iand, 1) := by decide +kernel
theorem dX1_mostPairsIn_19 : decode cX1_mostPairsIn 19 = .ok (.istore 4, 2) := by decide +kernel
theorem dX1_mostPairsIn_21 : decode cX1_mostPairsIn 21 = .ok (.aload_n 0, 1) := by decide +kernel
theorem dX1_mostPairsIn_22 : decode cX1_mostPairsIn 22 = .ok (.getfield 9, 3) := by decide +kernel
theorem dX1_mostPairsIn_25 : decode cX1_mostPairsIn 25 = .ok (.iload 4, 2) := by decide +kernel
theorem dX1_mostPairsIn_27 : decode cX1_mostPairsIn 27 = .ok (.iaload, 1) := by decide +kernel
theorem dX1_mostPairsIn_28 : decode cX1_mostPairsIn 28 = .ok (.istore 5, 2) := by decide +kernel
theorem dX1_mostPairsIn_30 : decode cX1_mostPairsIn 30 = .ok (.iload_n 3, 1) := by decide +kernel
theorem dX1_mostPairsIn_31 : decode cX1_mostPairsIn 31 = .ok (.iconst 1, 1) := by decide +kernel
theorem dX1_mostPairsIn_32 : decode cX1_mostPairsIn 32 = .ok (.iadd, 1) := by decide +kernel
theorem dX1_mostPairsIn_33 : decode cX1_mostPairsIn 33 = .ok (.istore 6, 2) := by decide +kernel
theorem dX1_mostPairsIn_35 : decode cX1_mostPairsIn 35 = .ok (.iload 6, 2) := by decide +kernel
theorem dX1_mostPairsIn_37 : decode cX1_mostPairsIn 37 = .ok (.aload_n 0, 1) := by decide +kernel
theorem dX1_mostPairsIn_38 : decode cX1_mostPairsIn 38 = .ok (.getfield 18, 3) := by decide +kernel
theorem dX1_mostPairsIn_41 : decode cX1_mostPairsIn 41 = .ok (.getfield 26, 3) := by decide +kernel
theorem dX1_mostPairsIn_44 : decode cX1_mostPairsIn 44 = .ok (.if_icmp .ge 53, 3) := by decide +kernel
theorem dX1_mostPairsIn_47 : decode cX1_mostPairsIn 47 = .ok (.iload 4, 2) := by decide +kernel
theorem dX1_mostPairsIn_49 : decode cX1_mostPairsIn 49 = .ok (.iload 6, 2) := by decide +kernel
theorem dX1_mostPairsIn_51 : decode cX1_mostPairsIn 51 = .ok (.invokestatic 51, 3) := by decide +kernel
theorem dX1_mostPairsIn_54 : decode cX1_mostPairsIn 54 = .ok (.ifCond .eq 37, 3) := by decide +kernel
theorem dX1_mostPairsIn_57 : decode cX1_mostPairsIn 57 = .ok (.aload_n 0, 1) := by decide +kernel
theorem dX1_mostPairsIn_58 : decode cX1_mostPairsIn 58 = .ok (.iload_n 3, 1) := by decide +kernel
theorem dX1_mostPairsIn_59 : decode cX1_mostPairsIn 59 = .ok (.iload 6, 2) := by decide +kernel
theorem dX1_mostPairsIn_61 : decode cX1_mostPairsIn 61 = .ok (.iload_n 2, 1) := by decide +kernel
theorem dX1_mostPairsIn_62 : decode cX1_mostPairsIn 62 = .ok (.invokevirtual 63, 3) := by decide +kernel
theorem dX1_mostPairsIn_65 : decode cX1_mostPairsIn 65 = .ok (.ifCond .eq 26, 3) := by decide +kernel
theorem dX1_mostPairsIn_68 : decode cX1_mostPairsIn 68 = .ok (.iload 5, 2) := by decide +kernel
theorem dX1_mostPairsIn_70 : decode cX1_mostPairsIn 70 = .ok (.iconst 1, 1) := by decide +kernel
theorem dX1_mostPairsIn_71 : decode cX1_mostPairsIn 71 = .ok (.aload_n 0, 1) := by decide +kernel
theorem dX1_mostPairsIn_72 : decode cX1_mostPairsIn 72 = .ok (.getfield 9, 3) := by decide +kernel
theorem dX1_mostPairsIn_75 : decode cX1_mostPairsIn 75 = .ok (.iload 4, 2) := by decide +kernel
theorem dX1_mostPairsIn_77 : decode cX1_mostPairsIn 77 = .ok (.iconst 1, 1) := by decide +kernel
theorem dX1_mostPairsIn_78 : decode cX1_mostPairsIn 78 = .ok (.iload 6, 2) := by decide +kernel
theorem dX1_mostPairsIn_80 : decode cX1_mostPairsIn 80 = .ok (.ishl, 1) := by decide +kernel
theorem dX1_mostPairsIn_81 : decode cX1_mostPairsIn 81 = .ok (.iconst (-1), 1) := by decide +kernel
theorem dX1_mostPairsIn_82 : decode cX1_mostPairsIn 82 = .ok (.ixor, 1) := by decide +kernel
theorem dX1_mostPairsIn_83 : decode cX1_mostPairsIn 83 = .ok (.iand, 1) := by decide +kernel
theorem dX1_mostPairsIn_84 : decode cX1_mostPairsIn 84 = .ok (.iaload, 1) := by decide +kernel
theorem dX1_mostPairsIn_85 : decode cX1_mostPairsIn 85 = .ok (.iadd, 1) := by decide +kernel
theorem dX1_mostPairsIn_86 : decode cX1_mostPairsIn 86 = .ok (.invokestatic 67, 3) := by decide +kernel
theorem dX1_mostPairsIn_89 : decode cX1_mostPairsIn 89 = .ok (.istore 5, 2) := by decide +kernel
theorem dX1_mostPairsIn_91 : decode cX1_mostPairsIn 91 = .ok (.iinc 6 1, 3) := by decide +kernel
theorem dX1_mostPairsIn_94 : decode cX1_mostPairsIn 94 = .ok (.goto (-59), 3) := by decide +kernel
theorem dX1_mostPairsIn_97 : decode cX1_mostPairsIn 97 = .ok (.iload 5, 2) := by decide +kernel
theorem dX1_mostPairsIn_99 : decode cX1_mostPairsIn 99 = .ok (.ireturn, 1) := by decide +kernel
theorem dX1_leastIn_0 : decode cX1_leastIn 0 = .ok (.iconst 0, 1) := by decide +kernel
theorem dX1_leastIn_1 : decode cX1_leastIn 1 = .ok (.istore_n 2, 1) := by decide +kernel
theorem dX1_leastIn_2 : decode cX1_leastIn 2 = .ok (.iload_n 2, 1) := by decide +kernel
theorem dX1_leastIn_3 : decode cX1_leastIn 3 = .ok (.aload_n 0, 1) := by decide +kernel
theorem dX1_leastIn_4 : decode cX1_leastIn 4 = .ok (.getfield 18, 3) := by decide +kernel
theorem dX1_leastIn_7 : decode cX1_leastIn 7 = .ok (.getfield 26, 3) := by decide +kernel
theorem dX1_leastIn_10 : decode cX1_leastIn 10 = .ok (.iconst 1, 1) := by decide +kernel
theorem dX1_leastIn_11 : decode cX1_leastIn 11 = .ok (.isub, 1) := by decide +kernel
theorem dX1_leastIn_12 : decode cX1_leastIn 12 = .ok (.if_icmp .ge 17, 3) := by decide +kernel
theorem dX1_leastIn_15 : decode cX1_leastIn 15 = .ok (.iload_n 1, 1) := by decide +kernel
theorem dX1_leastIn_16 : decode cX1_leastIn 16 = .ok (.iload_n 2, 1) := by decide +kernel
theorem dX1_leastIn_17 : decode cX1_leastIn 17 = .ok (.invokestatic 51, 3) := by decide +kernel
theorem dX1_leastIn_20 : decode cX1_leastIn 20 = .ok (.ifCond .ne 9, 3) := by decide +kernel
theorem dX1_leastIn_23 : decode cX1_leastIn 23 = .ok (.iinc 2 1, 3) := by decide +kernel
theorem dX1_leastIn_26 : decode cX1_leastIn 26 = .ok (.goto (-24), 3) := by decide +kernel
theorem dX1_leastIn_29 : decode cX1_leastIn 29 = .ok (.iload_n 2, 1) := by decide +kernel
theorem dX1_leastIn_30 : decode cX1_leastIn 30 = .ok (.ireturn, 1) := by decide +kernel
theorem dX1_firstPartner_0 : decode cX1_firstPartner 0 = .ok (.iload_n 1, 1) := by decide +kernel
theorem dX1_firstPartner_1 : decode cX1_firstPartner 1 = .ok (.iconst 1, 1) := by decide +kernel
theorem dX1_firstPartner_2 : decode cX1_firstPartner 2 = .ok (.iload_n 2, 1) := by decide +kernel
theorem dX1_firstPartner_3 : decode cX1_firstPartner 3 = .ok (.ishl, 1) := by decide +kernel
theorem dX1_firstPartner_4 : decode cX1_firstPartner 4 = .ok (.iconst (-1), 1) := by decide +kernel
theorem dX1_firstPartner_5 : decode cX1_firstPartner 5 = .ok (.ixor, 1) := by decide +kernel
theorem dX1_firstPartner_6 : decode cX1_firstPartner 6 = .ok (.iand, 1) := by decide +kernel
theorem dX1_firstPartner_7 : decode cX1_firstPartner 7 = .ok (.istore 4, 2) := by decide +kernel
theorem dX1_firstPartner_9 : decode cX1_firstPartner 9 = .ok (.iload_n 2, 1) := by decide +kernel
theorem dX1_firstPartner_10 : decode cX1_firstPartner 10 = .ok (.iconst 1, 1) := by decide +kernel
theorem dX1_firstPartner_11 : decode cX1_firstPartner 11 = .ok (.iadd, 1) := by decide +kernel
theorem dX1_firstPartner_12 : decode cX1_firstPartner 12 = .ok (.istore 5, 2) := by decide +kernel
theorem dX1_firstPartner_14 : decode cX1_firstPartner 14 = .ok (.iload 5, 2) := by decide +kernel
theorem dX1_firstPartner_16 : decode cX1_firstPartner 16 = .ok (.aload_n 0, 1) := by decide +kernel
theorem dX1_firstPartner_17 : decode cX1_firstPartner 17 = .ok (.getfield 18, 3) := by decide +kernel
theorem dX1_firstPartner_20 : decode cX1_firstPartner 20 = .ok (.getfield 26, 3) := by decide +kernel
theorem dX1_firstPartner_23 : decode cX1_firstPartner 23 = .ok (.if_icmp .ge 58, 3) := by decide +kernel
theorem dX1_firstPartner_26 : decode cX1_firstPartner 26 = .ok (.iload 4, 2) := by decide +kernel
theorem dX1_firstPartner_28 : decode cX1_firstPartner 28 = .ok (.iload 5, 2) := by decide +kernel
theorem dX1_firstPartner_30 : decode cX1_firstPartner 30 = .ok (.invokestatic 51, 3) := by decide +kernel
theorem dX1_firstPartner_33 : decode cX1_firstPartner 33 = .ok (.ifCond .eq 42, 3) := by decide +kernel
theorem dX1_firstPartner_36 : decode cX1_firstPartner 36 = .ok (.aload_n 0, 1) := by decide +kernel
theorem dX1_firstPartner_37 : decode cX1_firstPartner 37 = .ok (.iload_n 2, 1) := by decide +kernel
theorem dX1_firstPartner_38 : decode cX1_firstPartner 38 = .ok (.iload 5, 2) := by decide +kernel
theorem dX1_firstPartner_40 : decode cX1_firstPartner 40 = .ok (.iload_n 3, 1) := by decide +kernel
theorem dX1_firstPartner_41 : decode cX1_firstPartner 41 = .ok (.invokevirtual 63, 3) := by decide +kernel
theorem dX1_firstPartner_44 : decode cX1_firstPartner 44 = .ok (.ifCond .eq 31, 3) := by decide +kernel
theorem dX1_firstPartner_47 : decode cX1_firstPartner 47 = .ok (.iconst 1, 1) := by decide +kernel
theorem dX1_firstPartner_48 : decode cX1_firstPartner 48 = .ok (.aload_n 0, 1) := by decide +kernel
theorem dX1_firstPartner_49 : decode cX1_firstPartner 49 = .ok (.getfield 9, 3) := by decide +kernel
theorem dX1_firstPartner_52 : decode cX1_firstPartner 52 = .ok (.iload 4, 2) := by decide +kernel
theorem dX1_firstPartner_54 : decode cX1_firstPartner 54 = .ok (.iconst 1, 1) := by decide +kernel
theorem dX1_firstPartner_55 : decode cX1_firstPartner 55 = .ok (.iload 5, 2) := by decide +kernel
theorem dX1_firstPartner_57 : decode cX1_firstPartner 57 = .ok (.ishl, 1) := by decide +kernel
theorem dX1_firstPartner_58 : decode cX1_firstPartner 58 = .ok (.iconst (-1), 1) := by decide +kernel
theorem dX1_firstPartner_59 : decode cX1_firstPartner 59 = .ok (.ixor, 1) := by decide +kernel
theorem dX1_firstPartner_60 : decode cX1_firstPartner 60 = .ok (.iand, 1) := by decide +kernel
theorem dX1_firstPartner_61 : decode cX1_firstPartner 61 = .ok (.iaload, 1) := by decide +kernel
theorem dX1_firstPartner_62 : decode cX1_firstPartner 62 = .ok (.iadd, 1) := by decide +kernel
theorem dX1_firstPartner_63 : decode cX1_firstPartner 63 = .ok (.aload_n 0, 1) := by decide +kernel
theorem dX1_firstPartner_64 : decode cX1_firstPartner 64 = .ok (.getfield 9, 3) := by decide +kernel
theorem dX1_firstPartner_67 : decode cX1_firstPartner 67 = .ok (.iload_n 1, 1) := by decide +kernel
theorem dX1_firstPartner_68 : decode cX1_firstPartner 68 = .ok (.iaload, 1) := by decide +kernel
theorem dX1_firstPartner_69 : decode cX1_firstPartner 69 = .ok (.if_icmp .ne 6, 3) := by decide +kernel
theorem dX1_firstPartner_72 : decode cX1_firstPartner 72 = .ok (.iload 5, 2) := by decide +kernel
theorem dX1_firstPartner_74 : decode cX1_firstPartner 74 = .ok (.ireturn, 1) := by decide +kernel
theorem dX1_firstPartner_75 : decode cX1_firstPartner 75 = .ok (.iinc 5 1, 3) := by decide +kernel
theorem dX1_firstPartner_78 : decode cX1_firstPartner 78 = .ok (.goto (-64), 3) := by decide +kernel
theorem dX1_firstPartner_81 : decode cX1_firstPartner 81 = .ok (.iconst (-1), 1) := by decide +kernel
theorem dX1_firstPartner_82 : decode cX1_firstPartner 82 = .ok (.ireturn, 1) := by decide +kernel
theorem dX1_canPair_0 : decode cX1_canPair 0 = .ok (.aload_n 0, 1) := by decide +kernel
theorem dX1_canPair_1 : decode cX1_canPair 1 = .ok (.getfield 22, 3) := by decide +kernel
theorem dX1_canPair_4 : decode cX1_canPair 4 = .ok (.iload_n 1, 1) := by decide +kernel
theorem dX1_canPair_5 : decode cX1_canPair 5 = .ok (.iload_n 2, 1) := by decide +kernel
theorem dX1_canPair_6 : decode cX1_canPair 6 = .ok (.invokevirtual 72, 3) := by decide +kernel
theorem dX1_canPair_9 : decode cX1_canPair 9 = .ok (.ifCond .ne 30, 3) := by decide +kernel
theorem dX1_canPair_12 : decode cX1_canPair 12 = .ok (.aload_n 0, 1) := by decide +kernel
theorem dX1_canPair_13 : decode cX1_canPair 13 = .ok (.getfield 18, 3) := by decide +kernel
theorem dX1_canPair_16 : decode cX1_canPair 16 = .ok (.getfield 75, 3) := by decide +kernel
theorem dX1_canPair_19 : decode cX1_canPair 19 = .ok (.iload_n 1, 1) := by decide +kernel
theorem dX1_canPair_20 : decode cX1_canPair 20 = .ok (.iaload, 1) := by decide +kernel
theorem dX1_canPair_21 : decode cX1_canPair 21 = .ok (.aload_n 0, 1) := by decide +kernel
theorem dX1_canPair_22 : decode cX1_canPair 22 = .ok (.getfield 18, 3) := by decide +kernel
theorem dX1_canPair_25 : decode cX1_canPair 25 = .ok (.getfield 75, 3) := by decide +kernel
theorem dX1_canPair_28 : decode cX1_canPair 28 = .ok (.iload_n 2, 1) := by decide +kernel
theorem dX1_canPair_29 : decode cX1_canPair 29 = .ok (.iaload, 1) := by decide +kernel
theorem dX1_canPair_30 : decode cX1_canPair 30 = .ok (.iadd, 1) := by decide +kernel
theorem dX1_canPair_31 : decode cX1_canPair 31 = .ok (.iload_n 3, 1) := by decide +kernel
theorem dX1_canPair_32 : decode cX1_canPair 32 = .ok (.if_icmp .lt 7, 3) := by decide +kernel
theorem dX1_canPair_35 : decode cX1_canPair 35 = .ok (.iconst 1, 1) := by decide +kernel
theorem dX1_canPair_36 : decode cX1_canPair 36 = .ok (.goto 4, 3) := by decide +kernel
theorem dX1_canPair_39 : decode cX1_canPair 39 = .ok (.iconst 0, 1) := by decide +kernel
theorem dX1_canPair_40 : decode cX1_canPair 40 = .ok (.ireturn, 1) := by decide +kernel
theorem dX1_fewestLifters_0 : decode cX1_fewestLifters 0 = .ok (.iconst (-1), 1) := by decide +kernel
theorem dX1_fewestLifters_1 : decode cX1_fewestLifters 1 = .ok (.istore_n 2, 1) := by decide +kernel
theorem dX1_fewestLifters_2 : decode cX1_fewestLifters 2 = .ok (.iconst 0, 1) := by decide +kernel
theorem dX1_fewestLifters_3 : decode cX1_fewestLifters 3 = .ok (.istore_n 3, 1) := by decide +kernel
theorem dX1_fewestLifters_4 : decode cX1_fewestLifters 4 = .ok (.iload_n 3, 1) := by decide +kernel
theorem dX1_fewestLifters_5 : decode cX1_fewestLifters 5 = .ok (.aload_n 0, 1) := by decide +kernel
theorem dX1_fewestLifters_6 : decode cX1_fewestLifters 6 = .ok (.invokevirtual 32, 3) := by decide +kernel
theorem dX1_fewestLifters_9 : decode cX1_fewestLifters 9 = .ok (.if_icmp .gt 48, 3) := by decide +kernel
theorem dX1_fewestLifters_12 : decode cX1_fewestLifters 12 = .ok (.iload_n 2, 1) := by decide +kernel
theorem dX1_fewestLifters_13 : decode cX1_fewestLifters 13 = .ok (.iconst (-1), 1) := by decide +kernel
theorem dX1_fewestLifters_14 : decode cX1_fewestLifters 14 = .ok (.if_icmp .eq 14, 3) := by decide +kernel
theorem dX1_fewestLifters_17 : decode cX1_fewestLifters 17 = .ok (.iload_n 3, 1) := by decide +kernel
theorem dX1_fewestLifters_18 : decode cX1_fewestLifters 18 = .ok (.invokestatic 78, 3) := by decide +kernel
theorem dX1_fewestLifters_21 : decode cX1_fewestLifters 21 = .ok (.iload_n 2, 1) := by decide +kernel
theorem dX1_fewestLifters_22 : decode cX1_fewestLifters 22 = .ok (.invokestatic 78, 3) := by decide +kernel
theorem dX1_fewestLifters_25 : decode cX1_fewestLifters 25 = .ok (.if_icmp .ge 7, 3) := by decide +kernel
theorem dX1_fewestLifters_28 : decode cX1_fewestLifters 28 = .ok (.iconst 1, 1) := by decide +kernel
theorem dX1_fewestLifters_29 : decode cX1_fewestLifters 29 = .ok (.goto 4, 3) := by decide +kernel
theorem dX1_fewestLifters_32 : decode cX1_fewestLifters 32 = .ok (.iconst 0, 1) := by decide +kernel
theorem dX1_fewestLifters_33 : decode cX1_fewestLifters 33 = .ok (.istore 4, 2) := by decide +kernel
theorem dX1_fewestLifters_35 : decode cX1_fewestLifters 35 = .ok (.iload 4, 2) := by decide +kernel
theorem dX1_fewestLifters_37 : decode cX1_fewestLifters 37 = .ok (.ifCond .eq 14, 3) := by decide +kernel
theorem dX1_fewestLifters_40 : decode cX1_fewestLifters 40 = .ok (.aload_n 0, 1) := by decide +kernel
theorem dX1_fewestLifters_41 : decode cX1_fewestLifters 41 = .ok (.iload_n 3, 1) := by decide +kernel
theorem dX1_fewestLifters_42 : decode cX1_fewestLifters 42 = .ok (.invokevirtual 83, 3) := by decide +kernel
theorem dX1_fewestLifters_45 : decode cX1_fewestLifters 45 = .ok (.iload_n 1, 1) := by decide +kernel
theorem dX1_fewestLifters_46 : decode cX1_fewestLifters 46 = .ok (.if_icmp .lt 5, 3) := by decide +kernel
theorem dX1_fewestLifters_49 : decode cX1_fewestLifters 49 = .ok (.iload_n 3, 1) := by decide +kernel
theorem dX1_fewestLifters_50 : decode cX1_fewestLifters 50 = .ok (.istore_n 2, 1) := by decide +kernel
theorem dX1_fewestLifters_51 : decode cX1_fewestLifters 51 = .ok (.iinc 3 1, 3) := by decide +kernel
theorem dX1_fewestLifters_54 : decode cX1_fewestLifters 54 = .ok (.goto (-50), 3) := by decide +kernel
theorem dX1_fewestLifters_57 : decode cX1_fewestLifters 57 = .ok (.iload_n 2, 1) := by decide +kernel
theorem dX1_fewestLifters_58 : decode cX1_fewestLifters 58 = .ok (.ireturn, 1) := by decide +kernel
theorem dX1_strengthOf_0 : decode cX1_strengthOf 0 = .ok (.iconst 0, 1) := by decide +kernel
theorem dX1_strengthOf_1 : decode cX1_strengthOf 1 = .ok (.istore_n 2, 1) := by decide +kernel
theorem dX1_strengthOf_2 : decode cX1_strengthOf 2 = .ok (.iconst 0, 1) := by decide +kernel
theorem dX1_strengthOf_3 : decode cX1_strengthOf 3 = .ok (.istore_n 3, 1) := by decide +kernel
theorem dX1_strengthOf_4 : decode cX1_strengthOf 4 = .ok (.iload_n 3, 1) := by decide +kernel
theorem dX1_strengthOf_5 : decode cX1_strengthOf 5 = .ok (.aload_n 0, 1) := by decide +kernel
theorem dX1_strengthOf_6 : decode cX1_strengthOf 6 = .ok (.getfield 18, 3) := by decide +kernel
theorem dX1_strengthOf_9 : decode cX1_strengthOf 9 = .ok (.getfield 26, 3) := by decide +kernel
theorem dX1_strengthOf_12 : decode cX1_strengthOf 12 = .ok (.if_icmp .ge 29, 3) := by decide +kernel
theorem dX1_strengthOf_15 : decode cX1_strengthOf 15 = .ok (.iload_n 1, 1) := by decide +kernel
theorem dX1_strengthOf_16 : decode cX1_strengthOf 16 = .ok (.iload_n 3, 1) := by decide +kernel
theorem dX1_strengthOf_17 : decode cX1_strengthOf 17 = .ok (.invokestatic 51, 3) := by decide +kernel
theorem dX1_strengthOf_20 : decode cX1_strengthOf 20 = .ok (.ifCond .eq 15, 3) := by decide +kernel
theorem dX1_strengthOf_23 : decode cX1_strengthOf 23 = .ok (.iload_n 2, 1) := by decide +kernel
theorem dX1_strengthOf_24 : decode cX1_strengthOf 24 = .ok (.aload_n 0, 1) := by decide +kernel
theorem dX1_strengthOf_25 : decode cX1_strengthOf 25 = .ok (.getfield 18, 3) := by decide +kernel
theorem dX1_strengthOf_28 : decode cX1_strengthOf 28 = .ok (.getfield 75, 3) := by decide +kernel
theorem dX1_strengthOf_31 : decode cX1_strengthOf 31 = .ok (.iload_n 3, 1) := by decide +kernel
theorem dX1_strengthOf_32 : decode cX1_strengthOf 32 = .ok (.iaload, 1) := by decide +kernel
theorem dX1_strengthOf_33 : decode cX1_strengthOf 33 = .ok (.iadd, 1) := by decide +kernel
theorem dX1_strengthOf_34 : decode cX1_strengthOf 34 = .ok (.istore_n 2, 1) := by decide +kernel
theorem dX1_strengthOf_35 : decode cX1_strengthOf 35 = .ok (.iinc 3 1, 3) := by decide +kernel
theorem dX1_strengthOf_38 : decode cX1_strengthOf 38 = .ok (.goto (-34), 3) := by decide +kernel
theorem dX1_strengthOf_41 : decode cX1_strengthOf 41 = .ok (.iload_n 2, 1) := by decide +kernel
theorem dX1_strengthOf_42 : decode cX1_strengthOf 42 = .ok (.ireturn, 1) := by decide +kernel
theorem dX1_fewestGuards_0 : decode cX1_fewestGuards 0 = .ok (.iconst (-1), 1) := by decide +kernel
theorem dX1_fewestGuards_1 : decode cX1_fewestGuards 1 = .ok (.istore_n 3, 1) := by decide +kernel
theorem dX1_fewestGuards_2 : decode cX1_fewestGuards 2 = .ok (.iload_n 1, 1) := by decide +kernel
theorem dX1_fewestGuards_3 : decode cX1_fewestGuards 3 = .ok (.iload_n 2, 1) := by decide +kernel
theorem dX1_fewestGuards_4 : decode cX1_fewestGuards 4 = .ok (.if_icmp .eq 15, 3) := by decide +kernel
theorem dX1_fewestGuards_7 : decode cX1_fewestGuards 7 = .ok (.aload_n 0, 1) := by decide +kernel
theorem dX1_fewestGuards_8 : decode cX1_fewestGuards 8 = .ok (.getfield 18, 3) := by decide +kernel
theorem dX1_fewestGuards_11 : decode cX1_fewestGuards 11 = .ok (.iload_n 1, 1) := by decide +kernel
theorem dX1_fewestGuards_12 : decode cX1_fewestGuards 12 = .ok (.iload_n 2, 1) := by decide +kernel
theorem dX1_fewestGuards_13 : decode cX1_fewestGuards 13 = .ok (.invokevirtual 86, 3) := by decide +kernel
theorem dX1_fewestGuards_16 : decode cX1_fewestGuards 16 = .ok (.ifCond .eq 5, 3) := by decide +kernel
theorem dX1_fewestGuards_19 : decode cX1_fewestGuards 19 = .ok (.iload_n 3, 1) := by decide +kernel
theorem dX1_fewestGuards_20 : decode cX1_fewestGuards 20 = .ok (.ireturn, 1) := by decide +kernel
theorem dX1_fewestGuards_21 : decode cX1_fewestGuards 21 = .ok (.iconst 0, 1) := by decide +kernel
theorem dX1_fewestGuards_22 : decode cX1_fewestGuards 22 = .ok (.istore 4, 2) := by decide +kernel
theorem dX1_fewestGuards_24 : decode cX1_fewestGuards 24 = .ok (.iload 4, 2) := by decide +kernel
theorem dX1_fewestGuards_26 : decode cX1_fewestGuards 26 = .ok (.iconst 1, 1) := by decide +kernel
theorem dX1_fewestGuards_27 : decode cX1_fewestGuards 27 = .ok (.aload_n 0, 1) := by decide +kernel
theorem dX1_fewestGuards_28 : decode cX1_fewestGuards 28 = .ok (.getfield 18, 3) := by decide +kernel
theorem dX1_fewestGuards_31 : decode cX1_fewestGuards 31 = .ok (.getfield 89, 3) := by decide +kernel
theorem dX1_fewestGuards_34 : decode cX1_fewestGuards 34 = .ok (.ishl, 1) := by decide +kernel
theorem dX1_fewestGuards_35 : decode cX1_fewestGuards 35 = .ok (.if_icmp .ge 73, 3) := by decide +kernel
theorem dX1_fewestGuards_38 : decode cX1_fewestGuards 38 = .ok (.iload_n 3, 1) := by decide +kernel
theorem dX1_fewestGuards_39 : decode cX1_fewestGuards 39 = .ok (.iconst (-1), 1) := by decide +kernel
theorem dX1_fewestGuards_40 : decode cX1_fewestGuards 40 = .ok (.if_icmp .eq 15, 3) := by decide +kernel
theorem dX1_fewestGuards_43 : decode cX1_fewestGuards 43 = .ok (.iload 4, 2) := by decide +kernel
theorem dX1_fewestGuards_45 : decode cX1_fewestGuards 45 = .ok (.invokestatic 78, 3) := by decide +kernel
theorem dX1_fewestGuards_48 : decode cX1_fewestGuards 48 = .ok (.iload_n 3, 1) := by decide +kernel
theorem dX1_fewestGuards_49 : decode cX1_fewestGuards 49 = .ok (.invokestatic 78, 3) := by decide +kernel
theorem dX1_fewestGuards_52 : decode cX1_fewestGuards 52 = .ok (.if_icmp .ge 7, 3) := by decide +kernel
theorem dX1_fewestGuards_55 : decode cX1_fewestGuards 55 = .ok (.iconst 1, 1) := by decide +kernel
theorem dX1_fewestGuards_56 : decode cX1_fewestGuards 56 = .ok (.goto 4, 3) := by decide +kernel
theorem dX1_fewestGuards_59 : decode cX1_fewestGuards 59 = .ok (.iconst 0, 1) := by decide +kernel
theorem dX1_fewestGuards_60 : decode cX1_fewestGuards 60 = .ok (.istore 5, 2) := by decide +kernel
theorem dX1_fewestGuards_62 : decode cX1_fewestGuards 62 = .ok (.iload 5, 2) := by decide +kernel
theorem dX1_fewestGuards_64 : decode cX1_fewestGuards 64 = .ok (.ifCond .eq 38, 3) := by decide +kernel
theorem dX1_fewestGuards_67 : decode cX1_fewestGuards 67 = .ok (.iload 4, 2) := by decide +kernel
theorem dX1_fewestGuards_69 : decode cX1_fewestGuards 69 = .ok (.iload_n 1, 1) := by decide +kernel
theorem dX1_fewestGuards_70 : decode cX1_fewestGuards 70 = .ok (.invokestatic 51, 3) := by decide +kernel
theorem dX1_fewestGuards_73 : decode cX1_fewestGuards 73 = .ok (.ifCond .ne 29, 3) := by decide +kernel
theorem dX1_fewestGuards_76 : decode cX1_fewestGuards 76 = .ok (.iload 4, 2) := by decide +kernel
theorem dX1_fewestGuards_78 : decode cX1_fewestGuards 78 = .ok (.iload_n 2, 1) := by decide +kernel
theorem dX1_fewestGuards_79 : decode cX1_fewestGuards 79 = .ok (.invokestatic 51, 3) := by decide +kernel
theorem dX1_fewestGuards_82 : decode cX1_fewestGuards 82 = .ok (.ifCond .ne 20, 3) := by decide +kernel
theorem dX1_fewestGuards_85 : decode cX1_fewestGuards 85 = .ok (.aload_n 0, 1) := by decide +kernel
theorem dX1_fewestGuards_86 : decode cX1_fewestGuards 86 = .ok (.iload_n 1, 1) := by decide +kernel
theorem dX1_fewestGuards_87 : decode cX1_fewestGuards 87 = .ok (.iload 4, 2) := by decide +kernel
theorem dX1_fewestGuards_89 : decode cX1_fewestGuards 89 = .ok (.invokevirtual 92, 3) := by decide +kernel
theorem dX1_fewestGuards_92 : decode cX1_fewestGuards 92 = .ok (.iload_n 2, 1) := by decide +kernel
theorem dX1_fewestGuards_93 : decode cX1_fewestGuards 93 = .ok (.invokestatic 51, 3) := by decide +kernel
theorem dX1_fewestGuards_96 : decode cX1_fewestGuards 96 = .ok (.ifCond .ne 6, 3) := by decide +kernel
theorem dX1_fewestGuards_99 : decode cX1_fewestGuards 99 = .ok (.iload 4, 2) := by decide +kernel
theorem dX1_fewestGuards_101 : decode cX1_fewestGuards 101 = .ok (.istore_n 3, 1) := by decide +kernel
theorem dX1_fewestGuards_102 : decode cX1_fewestGuards 102 = .ok (.iinc 4 1, 3) := by decide +kernel
theorem dX1_fewestGuards_105 : decode cX1_fewestGuards 105 = .ok (.goto (-81), 3) := by decide +kernel
theorem dX1_fewestGuards_108 : decode cX1_fewestGuards 108 = .ok (.iload_n 3, 1) := by decide +kernel
theorem dX1_fewestGuards_109 : decode cX1_fewestGuards 109 = .ok (.ireturn, 1) := by decide +kernel
theorem dX1_passedFrom_0 : decode cX1_passedFrom 0 = .ok (.iconst 1, 1) := by decide +kernel
theorem dX1_passedFrom_1 : decode cX1_passedFrom 1 = .ok (.iload_n 1, 1) := by decide +kernel
theorem dX1_passedFrom_2 : decode cX1_passedFrom 2 = .ok (.ishl, 1) := by decide +kernel
theorem dX1_passedFrom_3 : decode cX1_passedFrom 3 = .ok (.istore_n 3, 1) := by decide +kernel
theorem dX1_passedFrom_4 : decode cX1_passedFrom 4 = .ok (.iconst 1, 1) := by decide +kernel
theorem dX1_passedFrom_5 : decode cX1_passedFrom 5 = .ok (.istore 4, 2) := by decide +kernel
theorem dX1_passedFrom_7 : decode cX1_passedFrom 7 = .ok (.iload 4, 2) := by decide +kernel
theorem dX1_passedFrom_9 : decode cX1_passedFrom 9 = .ok (.aload_n 0, 1) := by decide +kernel
theorem dX1_passedFrom_10 : decode cX1_passedFrom 10 = .ok (.getfield 18, 3) := by decide +kernel
theorem dX1_passedFrom_13 : decode cX1_passedFrom 13 = .ok (.getfield 89, 3) := by decide +kernel
theorem dX1_passedFrom_16 : decode cX1_passedFrom 16 = .ok (.if_icmp .ge 76, 3) := by decide +kernel
theorem dX1_passedFrom_19 : decode cX1_passedFrom 19 = .ok (.iconst 0, 1) := by decide +kernel
theorem dX1_passedFrom_20 : decode cX1_passedFrom 20 = .ok (.istore 5, 2) := by decide +kernel
theorem dX1_passedFrom_22 : decode cX1_passedFrom 22 = .ok (.iload 5, 2) := by decide +kernel
theorem dX1_passedFrom_24 : decode cX1_passedFrom 24 = .ok (.aload_n 0, 1) := by decide +kernel
theorem dX1_passedFrom_25 : decode cX1_passedFrom 25 = .ok (.getfield 18, 3) := by decide +kernel
theorem dX1_passedFrom_28 : decode cX1_passedFrom 28 = .ok (.getfield 95, 3) := by decide +kernel
theorem dX1_passedFrom_31 : decode cX1_passedFrom 31 = .ok (.if_icmp .ge 55, 3) := by decide +kernel
theorem dX1_passedFrom_34 : decode cX1_passedFrom 34 = .ok (.iconst 1, 1) := by decide +kernel
theorem dX1_passedFrom_35 : decode cX1_passedFrom 35 = .ok (.aload_n 0, 1) := by decide +kernel
theorem dX1_passedFrom_36 : decode cX1_passedFrom 36 = .ok (.getfield 18, 3) := by decide +kernel
theorem dX1_passedFrom_39 : decode cX1_passedFrom 39 = .ok (.getfield 98, 3) := by decide +kernel
theorem dX1_passedFrom_42 : decode cX1_passedFrom 42 = .ok (.iload 5, 2) := by decide +kernel
theorem dX1_passedFrom_44 : decode cX1_passedFrom 44 = .ok (.iaload, 1) := by decide +kernel
theorem dX1_passedFrom_45 : decode cX1_passedFrom 45 = .ok (.ishl, 1) := by decide +kernel
theorem dX1_passedFrom_46 : decode cX1_passedFrom 46 = .ok (.iconst 1, 1) := by decide +kernel
theorem dX1_passedFrom_47 : decode cX1_passedFrom 47 = .ok (.aload_n 0, 1) := by decide +kernel
theorem dX1_passedFrom_48 : decode cX1_passedFrom 48 = .ok (.getfield 18, 3) := by decide +kernel
theorem dX1_passedFrom_51 : decode cX1_passedFrom 51 = .ok (.getfield 101, 3) := by decide +kernel
theorem dX1_passedFrom_54 : decode cX1_passedFrom 54 = .ok (.iload 5, 2) := by decide +kernel
theorem dX1_passedFrom_56 : decode cX1_passedFrom 56 = .ok (.iaload, 1) := by decide +kernel
theorem dX1_passedFrom_57 : decode cX1_passedFrom 57 = .ok (.ishl, 1) := by decide +kernel
theorem dX1_passedFrom_58 : decode cX1_passedFrom 58 = .ok (.ior, 1) := by decide +kernel
theorem dX1_passedFrom_59 : decode cX1_passedFrom 59 = .ok (.istore 6, 2) := by decide +kernel
theorem dX1_passedFrom_61 : decode cX1_passedFrom 61 = .ok (.iload 6, 2) := by decide +kernel
theorem dX1_passedFrom_63 : decode cX1_passedFrom 63 = .ok (.iload_n 3, 1) := by decide +kernel
theorem dX1_passedFrom_64 : decode cX1_passedFrom 64 = .ok (.iand, 1) := by decide +kernel
theorem dX1_passedFrom_65 : decode cX1_passedFrom 65 = .ok (.ifCond .eq 15, 3) := by decide +kernel
theorem dX1_passedFrom_68 : decode cX1_passedFrom 68 = .ok (.iload 6, 2) := by decide +kernel
theorem dX1_passedFrom_70 : decode cX1_passedFrom 70 = .ok (.iload_n 2, 1) := by decide +kernel
theorem dX1_passedFrom_71 : decode cX1_passedFrom 71 = .ok (.iand, 1) := by decide +kernel
theorem dX1_passedFrom_72 : decode cX1_passedFrom 72 = .ok (.ifCond .ne 8, 3) := by decide +kernel
theorem dX1_passedFrom_75 : decode cX1_passedFrom 75 = .ok (.iload_n 3, 1) := by decide +kernel
theorem dX1_passedFrom_76 : decode cX1_passedFrom 76 = .ok (.iload 6, 2) := by decide +kernel
theorem dX1_passedFrom_78 : decode cX1_passedFrom 78 = .ok (.ior, 1) := by decide +kernel
theorem dX1_passedFrom_79 : decode cX1_passedFrom 79 = .ok (.istore_n 3, 1) := by decide +kernel
theorem dX1_passedFrom_80 : decode cX1_passedFrom 80 = .ok (.iinc 5 1, 3) := by decide +kernel
theorem dX1_passedFrom_83 : decode cX1_passedFrom 83 = .ok (.goto (-61), 3) := by decide +kernel
theorem dX1_passedFrom_86 : decode cX1_passedFrom 86 = .ok (.iinc 4 1, 3) := by decide +kernel
theorem dX1_passedFrom_89 : decode cX1_passedFrom 89 = .ok (.goto (-82), 3) := by decide +kernel
theorem dX1_passedFrom_92 : decode cX1_passedFrom 92 = .ok (.iload_n 3, 1) := by decide +kernel
theorem dX1_passedFrom_93 : decode cX1_passedFrom 93 = .ok (.ireturn, 1) := by decide +kernel
theorem dX1_liftNext_0 : decode cX1_liftNext 0 = .ok (.iconst 0, 1) := by decide +kernel
theorem dX1_liftNext_1 : decode cX1_liftNext 1 = .ok (.istore_n 3, 1) := by decide +kernel
theorem dX1_liftNext_2 : decode cX1_liftNext 2 = .ok (.iconst 0, 1) := by decide +kernel
theorem dX1_liftNext_3 : decode cX1_liftNext 3 = .ok (.istore 4, 2) := by decide +kernel
theorem dX1_liftNext_5 : decode cX1_liftNext 5 = .ok (.iload 4, 2) := by decide +kernel
theorem dX1_liftNext_7 : decode cX1_liftNext 7 = .ok (.aload_n 0, 1) := by decide +kernel
theorem dX1_liftNext_8 : decode cX1_liftNext 8 = .ok (.getfield 18, 3) := by decide +kernel
theorem dX1_liftNext_11 : decode cX1_liftNext 11 = .ok (.getfield 26, 3) := by decide +kernel
theorem dX1_liftNext_14 : decode cX1_liftNext 14 = .ok (.if_icmp .ge 31, 3) := by decide +kernel
theorem dX1_liftNext_17 : decode cX1_liftNext 17 = .ok (.aload_n 0, 1) := by decide +kernel
theorem dX1_liftNext_18 : decode cX1_liftNext 18 = .ok (.iload 4, 2) := by decide +kernel
theorem dX1_liftNext_20 : decode cX1_liftNext 20 = .ok (.invokevirtual 104, 3) := by decide +kernel
theorem dX1_liftNext_23 : decode cX1_liftNext 23 = .ok (.iload_n 1, 1) := by decide +kernel
theorem dX1_liftNext_24 : decode cX1_liftNext 24 = .ok (.iand, 1) := by decide +kernel
theorem dX1_liftNext_25 : decode cX1_liftNext 25 = .ok (.invokestatic 78, 3) := by decide +kernel
theorem dX1_liftNext_28 : decode cX1_liftNext 28 = .ok (.iload_n 2, 1) := by decide +kernel
theorem dX1_liftNext_29 : decode cX1_liftNext 29 = .ok (.if_icmp .lt 10, 3) := by decide +kernel
theorem dX1_liftNext_32 : decode cX1_liftNext 32 = .ok (.iload_n 3, 1) := by decide +kernel
theorem dX1_liftNext_33 : decode cX1_liftNext 33 = .ok (.iconst 1, 1) := by decide +kernel
theorem dX1_liftNext_34 : decode cX1_liftNext 34 = .ok (.iload 4, 2) := by decide +kernel
theorem dX1_liftNext_36 : decode cX1_liftNext 36 = .ok (.ishl, 1) := by decide +kernel
theorem dX1_liftNext_37 : decode cX1_liftNext 37 = .ok (.ior, 1) := by decide +kernel
theorem dX1_liftNext_38 : decode cX1_liftNext 38 = .ok (.istore_n 3, 1) := by decide +kernel
theorem dX1_liftNext_39 : decode cX1_liftNext 39 = .ok (.iinc 4 1, 3) := by decide +kernel
theorem dX1_liftNext_42 : decode cX1_liftNext 42 = .ok (.goto (-37), 3) := by decide +kernel
theorem dX1_liftNext_45 : decode cX1_liftNext 45 = .ok (.iload_n 3, 1) := by decide +kernel
theorem dX1_liftNext_46 : decode cX1_liftNext 46 = .ok (.ireturn, 1) := by decide +kernel
theorem dX1_findRests_0 : decode cX1_findRests 0 = .ok (.aload_n 0, 1) := by decide +kernel
theorem dX1_findRests_1 : decode cX1_findRests 1 = .ok (.iconst 0, 1) := by decide +kernel
theorem dX1_findRests_2 : decode cX1_findRests 2 = .ok (.putfield 107, 3) := by decide +kernel
theorem dX1_findRests_5 : decode cX1_findRests 5 = .ok (.aload_n 0, 1) := by decide +kernel
theorem dX1_findRests_6 : decode cX1_findRests 6 = .ok (.iconst (-1), 1) := by decide +kernel
theorem dX1_findRests_7 : decode cX1_findRests 7 = .ok (.putfield 110, 3) := by decide +kernel
theorem dX1_findRests_10 : decode cX1_findRests 10 = .ok (.aload_n 0, 1) := by decide +kernel
theorem dX1_findRests_11 : decode cX1_findRests 11 = .ok (.iconst (-1), 1) := by decide +kernel
theorem dX1_findRests_12 : decode cX1_findRests 12 = .ok (.putfield 113, 3) := by decide +kernel
theorem dX1_findRests_15 : decode cX1_findRests 15 = .ok (.iconst 0, 1) := by decide +kernel
theorem dX1_findRests_16 : decode cX1_findRests 16 = .ok (.istore_n 2, 1) := by decide +kernel
theorem dX1_findRests_17 : decode cX1_findRests 17 = .ok (.iload_n 2, 1) := by decide +kernel
theorem dX1_findRests_18 : decode cX1_findRests 18 = .ok (.aload_n 0, 1) := by decide +kernel
theorem dX1_findRests_19 : decode cX1_findRests 19 = .ok (.invokevirtual 32, 3) := by decide +kernel
theorem dX1_findRests_22 : decode cX1_findRests 22 = .ok (.if_icmp .gt 69, 3) := by decide +kernel
theorem dX1_findRests_25 : decode cX1_findRests 25 = .ok (.aload_n 0, 1) := by decide +kernel
theorem dX1_findRests_26 : decode cX1_findRests 26 = .ok (.iload_n 2, 1) := by decide +kernel
theorem dX1_findRests_27 : decode cX1_findRests 27 = .ok (.iload_n 1, 1) := by decide +kernel
theorem dX1_findRests_28 : decode cX1_findRests 28 = .ok (.invokevirtual 116, 3) := by decide +kernel
theorem dX1_findRests_31 : decode cX1_findRests 31 = .ok (.iload_n 2, 1) := by decide +kernel
theorem dX1_findRests_32 : decode cX1_findRests 32 = .ok (.if_icmp .ne 53, 3) := by decide +kernel
theorem dX1_findRests_35 : decode cX1_findRests 35 = .ok (.iload_n 2, 1) := by decide +kernel
theorem dX1_findRests_36 : decode cX1_findRests 36 = .ok (.invokestatic 78, 3) := by decide +kernel
theorem dX1_findRests_39 : decode cX1_findRests 39 = .ok (.istore_n 3, 1) := by decide +kernel
theorem dX1_findRests_40 : decode cX1_findRests 40 = .ok (.aload_n 0, 1) := by decide +kernel
theorem dX1_findRests_41 : decode cX1_findRests 41 = .ok (.aload_n 0, 1) := by decide +kernel
theorem dX1_findRests_42 : decode cX1_findRests 42 = .ok (.getfield 107, 3) := by decide +kernel
theorem dX1_findRests_45 : decode cX1_findRests 45 = .ok (.ifCond .ne 7, 3) := by decide +kernel
theorem dX1_findRests_48 : decode cX1_findRests 48 = .ok (.iload_n 3, 1) := by decide +kernel
theorem dX1_findRests_49 : decode cX1_findRests 49 = .ok (.goto 11, 3) := by decide +kernel
theorem dX1_findRests_52 : decode cX1_findRests 52 = .ok (.iload_n 3, 1) := by decide +kernel
theorem dX1_findRests_53 : decode cX1_findRests 53 = .ok (.aload_n 0, 1) := by decide +kernel
theorem dX1_findRests_54 : decode cX1_findRests 54 = .ok (.getfield 110, 3) := by decide +kernel
theorem dX1_findRests_57 : decode cX1_findRests 57 = .ok (.invokestatic 119, 3) := by decide +kernel
theorem dX1_findRests_60 : decode cX1_findRests 60 = .ok (.putfield 110, 3) := by decide +kernel
theorem dX1_findRests_63 : decode cX1_findRests 63 = .ok (.aload_n 0, 1) := by decide +kernel
theorem dX1_findRests_64 : decode cX1_findRests 64 = .ok (.iload_n 3, 1) := by decide +kernel
theorem dX1_findRests_65 : decode cX1_findRests 65 = .ok (.aload_n 0, 1) := by decide +kernel
theorem dX1_findRests_66 : decode cX1_findRests 66 = .ok (.getfield 113, 3) := by decide +kernel
theorem dX1_findRests_69 : decode cX1_findRests 69 = .ok (.invokestatic 67, 3) := by decide +kernel
theorem dX1_findRests_72 : decode cX1_findRests 72 = .ok (.putfield 113, 3) := by decide +kernel
theorem dX1_findRests_75 : decode cX1_findRests 75 = .ok (.aload_n 0, 1) := by decide +kernel
theorem dX1_findRests_76 : decode cX1_findRests 76 = .ok (.dup, 1) := by decide +kernel
theorem dX1_findRests_77 : decode cX1_findRests 77 = .ok (.getfield 107, 3) := by decide +kernel
theorem dX1_findRests_80 : decode cX1_findRests 80 = .ok (.iconst 1, 1) := by decide +kernel
theorem dX1_findRests_81 : decode cX1_findRests 81 = .ok (.iadd, 1) := by decide +kernel
theorem dX1_findRests_82 : decode cX1_findRests 82 = .ok (.putfield 107, 3) := by decide +kernel
theorem dX1_findRests_85 : decode cX1_findRests 85 = .ok (.iinc 2 1, 3) := by decide +kernel
theorem dX1_findRests_88 : decode cX1_findRests 88 = .ok (.goto (-71), 3) := by decide +kernel
theorem dX1_findRests_91 : decode cX1_findRests 91 = .ok (.return_, 1) := by decide +kernel
theorem dX1_heardBehind_0 : decode cX1_heardBehind 0 = .ok (.iconst 1, 1) := by decide +kernel
theorem dX1_heardBehind_1 : decode cX1_heardBehind 1 = .ok (.iload_n 1, 1) := by decide +kernel
theorem dX1_heardBehind_2 : decode cX1_heardBehind 2 = .ok (.ishl, 1) := by decide +kernel
theorem dX1_heardBehind_3 : decode cX1_heardBehind 3 = .ok (.istore_n 3, 1) := by decide +kernel
theorem dX1_heardBehind_4 : decode cX1_heardBehind 4 = .ok (.iconst 0, 1) := by decide +kernel
theorem dX1_heardBehind_5 : decode cX1_heardBehind 5 = .ok (.istore 4, 2) := by decide +kernel
theorem dX1_heardBehind_7 : decode cX1_heardBehind 7 = .ok (.iload 4, 2) := by decide +kernel
theorem dX1_heardBehind_9 : decode cX1_heardBehind 9 = .ok (.iload_n 2, 1) := by decide +kernel
theorem dX1_heardBehind_10 : decode cX1_heardBehind 10 = .ok (.if_icmp .ge 15, 3) := by decide +kernel
theorem dX1_heardBehind_13 : decode cX1_heardBehind 13 = .ok (.aload_n 0, 1) := by decide +kernel
theorem dX1_heardBehind_14 : decode cX1_heardBehind 14 = .ok (.iload_n 3, 1) := by decide +kernel
theorem dX1_heardBehind_15 : decode cX1_heardBehind 15 = .ok (.invokevirtual 122, 3) := by decide +kernel
theorem dX1_heardBehind_18 : decode cX1_heardBehind 18 = .ok (.istore_n 3, 1) := by decide +kernel
theorem dX1_heardBehind_19 : decode cX1_heardBehind 19 = .ok (.iinc 4 1, 3) := by decide +kernel
theorem dX1_heardBehind_22 : decode cX1_heardBehind 22 = .ok (.goto (-15), 3) := by decide +kernel
theorem dX1_heardBehind_25 : decode cX1_heardBehind 25 = .ok (.iload_n 3, 1) := by decide +kernel
theorem dX1_heardBehind_26 : decode cX1_heardBehind 26 = .ok (.ireturn, 1) := by decide +kernel
theorem dX1_tellOn_0 : decode cX1_tellOn 0 = .ok (.iload_n 1, 1) := by decide +kernel
theorem dX1_tellOn_1 : decode cX1_tellOn 1 = .ok (.istore_n 2, 1) := by decide +kernel
theorem dX1_tellOn_2 : decode cX1_tellOn 2 = .ok (.iconst 0, 1) := by decide +kernel
theorem dX1_tellOn_3 : decode cX1_tellOn 3 = .ok (.istore_n 3, 1) := by decide +kernel
theorem dX1_tellOn_4 : decode cX1_tellOn 4 = .ok (.iload_n 3, 1) := by decide +kernel
theorem dX1_tellOn_5 : decode cX1_tellOn 5 = .ok (.aload_n 0, 1) := by decide +kernel
theorem dX1_tellOn_6 : decode cX1_tellOn 6 = .ok (.getfield 18, 3) := by decide +kernel
theorem dX1_tellOn_9 : decode cX1_tellOn 9 = .ok (.getfield 26, 3) := by decide +kernel
theorem dX1_tellOn_12 : decode cX1_tellOn 12 = .ok (.if_icmp .ge 25, 3) := by decide +kernel
theorem dX1_tellOn_15 : decode cX1_tellOn 15 = .ok (.iload_n 1, 1) := by decide +kernel
theorem dX1_tellOn_16 : decode cX1_tellOn 16 = .ok (.iload_n 3, 1) := by decide +kernel
theorem dX1_tellOn_17 : decode cX1_tellOn 17 = .ok (.invokestatic 51, 3) := by decide +kernel
theorem dX1_tellOn_20 : decode cX1_tellOn 20 = .ok (.ifCond .eq 11, 3) := by decide +kernel
theorem dX1_tellOn_23 : decode cX1_tellOn 23 = .ok (.iload_n 2, 1) := by decide +kernel
theorem dX1_tellOn_24 : decode cX1_tellOn 24 = .ok (.aload_n 0, 1) := by decide +kernel
theorem dX1_tellOn_25 : decode cX1_tellOn 25 = .ok (.iload_n 3, 1) := by decide +kernel
theorem dX1_tellOn_26 : decode cX1_tellOn 26 = .ok (.invokevirtual 104, 3) := by decide +kernel
theorem dX1_tellOn_29 : decode cX1_tellOn 29 = .ok (.ior, 1) := by decide +kernel
theorem dX1_tellOn_30 : decode cX1_tellOn 30 = .ok (.istore_n 2, 1) := by decide +kernel
theorem dX1_tellOn_31 : decode cX1_tellOn 31 = .ok (.iinc 3 1, 3) := by decide +kernel
theorem dX1_tellOn_34 : decode cX1_tellOn 34 = .ok (.goto (-30), 3) := by decide +kernel
theorem dX1_tellOn_37 : decode cX1_tellOn 37 = .ok (.iload_n 2, 1) := by decide +kernel
theorem dX1_tellOn_38 : decode cX1_tellOn 38 = .ok (.ireturn, 1) := by decide +kernel
theorem dX1_bestCamp_0 : decode cX1_bestCamp 0 = .ok (.aload_n 0, 1) := by decide +kernel
theorem dX1_bestCamp_1 : decode cX1_bestCamp 1 = .ok (.invokevirtual 32, 3) := by decide +kernel
theorem dX1_bestCamp_4 : decode cX1_bestCamp 4 = .ok (.iconst 1, 1) := by decide +kernel
theorem dX1_bestCamp_5 : decode cX1_bestCamp 5 = .ok (.iand, 1) := by decide +kernel
theorem dX1_bestCamp_6 : decode cX1_bestCamp 6 = .ok (.istore_n 1, 1) := by decide +kernel
theorem dX1_bestCamp_7 : decode cX1_bestCamp 7 = .ok (.iconst 1, 1) := by decide +kernel
theorem dX1_bestCamp_8 : decode cX1_bestCamp 8 = .ok (.istore_n 2, 1) := by decide +kernel
theorem dX1_bestCamp_9 : decode cX1_bestCamp 9 = .ok (.iload_n 2, 1) := by decide +kernel
theorem dX1_bestCamp_10 : decode cX1_bestCamp 10 = .ok (.aload_n 0, 1) := by decide +kernel
theorem dX1_bestCamp_11 : decode cX1_bestCamp 11 = .ok (.invokevirtual 32, 3) := by decide +kernel
theorem dX1_bestCamp_14 : decode cX1_bestCamp 14 = .ok (.if_icmp .gt 24, 3) := by decide +kernel
theorem dX1_bestCamp_17 : decode cX1_bestCamp 17 = .ok (.aload_n 0, 1) := by decide +kernel
theorem dX1_bestCamp_18 : decode cX1_bestCamp 18 = .ok (.iload_n 2, 1) := by decide +kernel
theorem dX1_bestCamp_19 : decode cX1_bestCamp 19 = .ok (.invokevirtual 125, 3) := by decide +kernel
theorem dX1_bestCamp_22 : decode cX1_bestCamp 22 = .ok (.aload_n 0, 1) := by decide +kernel
theorem dX1_bestCamp_23 : decode cX1_bestCamp 23 = .ok (.iload_n 1, 1) := by decide +kernel
theorem dX1_bestCamp_24 : decode cX1_bestCamp 24 = .ok (.invokevirtual 125, 3) := by decide +kernel
theorem dX1_bestCamp_27 : decode cX1_bestCamp 27 = .ok (.if_icmp .ge 5, 3) := by decide +kernel
theorem dX1_bestCamp_30 : decode cX1_bestCamp 30 = .ok (.iload_n 2, 1) := by decide +kernel
theorem dX1_bestCamp_31 : decode cX1_bestCamp 31 = .ok (.istore_n 1, 1) := by decide +kernel
theorem dX1_bestCamp_32 : decode cX1_bestCamp 32 = .ok (.iinc 2 2, 3) := by decide +kernel
theorem dX1_bestCamp_35 : decode cX1_bestCamp 35 = .ok (.goto (-26), 3) := by decide +kernel
theorem dX1_bestCamp_38 : decode cX1_bestCamp 38 = .ok (.iload_n 1, 1) := by decide +kernel
theorem dX1_bestCamp_39 : decode cX1_bestCamp 39 = .ok (.ireturn, 1) := by decide +kernel
theorem dX1_changesFor_0 : decode cX1_changesFor 0 = .ok (.iconst 0, 1) := by decide +kernel
theorem dX1_changesFor_1 : decode cX1_changesFor 1 = .ok (.istore_n 2, 1) := by decide +kernel
theorem dX1_changesFor_2 : decode cX1_changesFor 2 = .ok (.iconst 0, 1) := by decide +kernel
theorem dX1_changesFor_3 : decode cX1_changesFor 3 = .ok (.istore_n 3, 1) := by decide +kernel
theorem dX1_changesFor_4 : decode cX1_changesFor 4 = .ok (.iload_n 3, 1) := by decide +kernel
theorem dX1_changesFor_5 : decode cX1_changesFor 5 = .ok (.aload_n 0, 1) := by decide +kernel
theorem dX1_changesFor_6 : decode cX1_changesFor 6 = .ok (.getfield 18, 3) := by decide +kernel
theorem dX1_changesFor_9 : decode cX1_changesFor 9 = .ok (.getfield 26, 3) := by decide +kernel
theorem dX1_changesFor_12 : decode cX1_changesFor 12 = .ok (.if_icmp .ge 49, 3) := by decide +kernel
theorem dX1_changesFor_15 : decode cX1_changesFor 15 = .ok (.iload_n 1, 1) := by decide +kernel
theorem dX1_changesFor_16 : decode cX1_changesFor 16 = .ok (.iload_n 3, 1) := by decide +kernel
theorem dX1_changesFor_17 : decode cX1_changesFor 17 = .ok (.invokestatic 51, 3) := by decide +kernel
theorem dX1_changesFor_20 : decode cX1_changesFor 20 = .ok (.ifCond .eq 14, 3) := by decide +kernel
theorem dX1_changesFor_23 : decode cX1_changesFor 23 = .ok (.aload_n 0, 1) := by decide +kernel
theorem dX1_changesFor_24 : decode cX1_changesFor 24 = .ok (.invokevirtual 32, 3) := by decide +kernel
theorem dX1_changesFor_27 : decode cX1_changesFor 27 = .ok (.iload_n 1, 1) := by decide +kernel
theorem dX1_changesFor_28 : decode cX1_changesFor 28 = .ok (.iconst (-1), 1) := by decide +kernel
theorem dX1_changesFor_29 : decode cX1_changesFor 29 = .ok (.ixor, 1) := by decide +kernel
theorem dX1_changesFor_30 : decode cX1_changesFor 30 = .ok (.iand, 1) := by decide +kernel
theorem dX1_changesFor_31 : decode cX1_changesFor 31 = .ok (.goto 4, 3) := by decide +kernel
theorem dX1_changesFor_34 : decode cX1_changesFor 34 = .ok (.iload_n 1, 1) := by decide +kernel
theorem dX1_changesFor_35 : decode cX1_changesFor 35 = .ok (.istore 4, 2) := by decide +kernel
theorem dX1_changesFor_37 : decode cX1_changesFor 37 = .ok (.iload_n 2, 1) := by decide +kernel
theorem dX1_changesFor_38 : decode cX1_changesFor 38 = .ok (.aload_n 0, 1) := by decide +kernel
theorem dX1_changesFor_39 : decode cX1_changesFor 39 = .ok (.getfield 22, 3) := by decide +kernel
theorem dX1_changesFor_42 : decode cX1_changesFor 42 = .ok (.getfield 36, 3) := by decide +kernel
theorem dX1_changesFor_45 : decode cX1_changesFor 45 = .ok (.iload_n 3, 1) := by decide +kernel
theorem dX1_changesFor_46 : decode cX1_changesFor 46 = .ok (.iaload, 1) := by decide +kernel
theorem dX1_changesFor_47 : decode cX1_changesFor 47 = .ok (.iload 4, 2) := by decide +kernel
theorem dX1_changesFor_49 : decode cX1_changesFor 49 = .ok (.ixor, 1) := by decide +kernel
theorem dX1_changesFor_50 : decode cX1_changesFor 50 = .ok (.invokestatic 78, 3) := by decide +kernel
theorem dX1_changesFor_53 : decode cX1_changesFor 53 = .ok (.iadd, 1) := by decide +kernel
theorem dX1_changesFor_54 : decode cX1_changesFor 54 = .ok (.istore_n 2, 1) := by decide +kernel
theorem dX1_changesFor_55 : decode cX1_changesFor 55 = .ok (.iinc 3 1, 3) := by decide +kernel
theorem dX1_changesFor_58 : decode cX1_changesFor 58 = .ok (.goto (-54), 3) := by decide +kernel
theorem dX1_changesFor_61 : decode cX1_changesFor 61 = .ok (.iload_n 2, 1) := by decide +kernel
theorem dX1_changesFor_62 : decode cX1_changesFor 62 = .ok (.iconst 2, 1) := by decide +kernel
theorem dX1_changesFor_63 : decode cX1_changesFor 63 = .ok (.idiv, 1) := by decide +kernel
theorem dX1_changesFor_64 : decode cX1_changesFor 64 = .ok (.ireturn, 1) := by decide +kernel
theorem dX1_quarrelsToMakeUp_0 : decode cX1_quarrelsToMakeUp 0 = .ok (.iconst 0, 1) := by decide +kernel
theorem dX1_quarrelsToMakeUp_1 : decode cX1_quarrelsToMakeUp 1 = .ok (.istore_n 1, 1) := by decide +kernel
theorem dX1_quarrelsToMakeUp_2 : decode cX1_quarrelsToMakeUp 2 = .ok (.iconst 0, 1) := by decide +kernel
theorem dX1_quarrelsToMakeUp_3 : decode cX1_quarrelsToMakeUp 3 = .ok (.istore_n 2, 1) := by decide +kernel
theorem dX1_quarrelsToMakeUp_4 : decode cX1_quarrelsToMakeUp 4 = .ok (.iconst 0, 1) := by decide +kernel
theorem dX1_quarrelsToMakeUp_5 : decode cX1_quarrelsToMakeUp 5 = .ok (.istore_n 3, 1) := by decide +kernel
theorem dX1_quarrelsToMakeUp_6 : decode cX1_quarrelsToMakeUp 6 = .ok (.iload_n 3, 1) := by decide +kernel
theorem dX1_quarrelsToMakeUp_7 : decode cX1_quarrelsToMakeUp 7 = .ok (.aload_n 0, 1) := by decide +kernel
theorem dX1_quarrelsToMakeUp_8 : decode cX1_quarrelsToMakeUp 8 = .ok (.getfield 18, 3) := by decide +kernel
theorem dX1_quarrelsToMakeUp_11 : decode cX1_quarrelsToMakeUp 11 = .ok (.getfield 26, 3) := by decide +kernel
theorem dX1_quarrelsToMakeUp_14 : decode cX1_quarrelsToMakeUp 14 = .ok (.if_icmp .ge 30, 3) := by decide +kernel
theorem dX1_quarrelsToMakeUp_17 : decode cX1_quarrelsToMakeUp 17 = .ok (.iload_n 2, 1) := by decide +kernel
theorem dX1_quarrelsToMakeUp_18 : decode cX1_quarrelsToMakeUp 18 = .ok (.iload_n 3, 1) := by decide +kernel
theorem dX1_quarrelsToMakeUp_19 : decode cX1_quarrelsToMakeUp 19 = .ok (.invokestatic 51, 3) := by decide +kernel
theorem dX1_quarrelsToMakeUp_22 : decode cX1_quarrelsToMakeUp 22 = .ok (.ifCond .ne 16, 3) := by decide +kernel
theorem dX1_quarrelsToMakeUp_25 : decode cX1_quarrelsToMakeUp 25 = .ok (.iload_n 2, 1) := by decide +kernel
theorem dX1_quarrelsToMakeUp_26 : decode cX1_quarrelsToMakeUp 26 = .ok (.aload_n 0, 1) := by decide +kernel
theorem dX1_quarrelsToMakeUp_27 : decode cX1_quarrelsToMakeUp 27 = .ok (.iload_n 3, 1) := by decide +kernel
theorem dX1_quarrelsToMakeUp_28 : decode cX1_quarrelsToMakeUp 28 = .ok (.bipush 8, 2) := by decide +kernel
theorem dX1_quarrelsToMakeUp_30 : decode cX1_quarrelsToMakeUp 30 = .ok (.invokevirtual 128, 3) := by decide +kernel
theorem dX1_quarrelsToMakeUp_33 : decode cX1_quarrelsToMakeUp 33 = .ok (.ior, 1) := by decide +kernel
theorem dX1_quarrelsToMakeUp_34 : decode cX1_quarrelsToMakeUp 34 = .ok (.istore_n 2, 1) := by decide +kernel
theorem dX1_quarrelsToMakeUp_35 : decode cX1_quarrelsToMakeUp 35 = .ok (.iinc 1 1, 3) := by decide +kernel
theorem dX1_quarrelsToMakeUp_38 : decode cX1_quarrelsToMakeUp 38 = .ok (.iinc 3 1, 3) := by decide +kernel
theorem dX1_quarrelsToMakeUp_41 : decode cX1_quarrelsToMakeUp 41 = .ok (.goto (-35), 3) := by decide +kernel
theorem dX1_quarrelsToMakeUp_44 : decode cX1_quarrelsToMakeUp 44 = .ok (.iconst 0, 1) := by decide +kernel
theorem dX1_quarrelsToMakeUp_45 : decode cX1_quarrelsToMakeUp 45 = .ok (.iload_n 1, 1) := by decide +kernel
theorem dX1_quarrelsToMakeUp_46 : decode cX1_quarrelsToMakeUp 46 = .ok (.iconst 1, 1) := by decide +kernel
theorem dX1_quarrelsToMakeUp_47 : decode cX1_quarrelsToMakeUp 47 = .ok (.isub, 1) := by decide +kernel
theorem dX1_quarrelsToMakeUp_48 : decode cX1_quarrelsToMakeUp 48 = .ok (.invokestatic 67, 3) := by decide +kernel
theorem dX1_quarrelsToMakeUp_51 : decode cX1_quarrelsToMakeUp 51 = .ok (.ireturn, 1) := by decide +kernel
theorem dX2_init_0 : decode cX2_init 0 = .ok (.aload_n 0, 1) := by decide +kernel
theorem dX2_init_1 : decode cX2_init 1 = .ok (.invokespecial 3, 3) := by decide +kernel
theorem dX2_init_4 : decode cX2_init 4 = .ok (.aload_n 0, 1) := by decide +kernel
theorem dX2_init_5 : decode cX2_init 5 = .ok (.bipush 6, 2) := by decide +kernel
theorem dX2_init_7 : decode cX2_init 7 = .ok (.newarray .int, 2) := by decide +kernel
theorem dX2_init_9 : decode cX2_init 9 = .ok (.putfield 9, 3) := by decide +kernel
theorem dX2_init_12 : decode cX2_init 12 = .ok (.aload_n 0, 1) := by decide +kernel
theorem dX2_init_13 : decode cX2_init 13 = .ok (.bipush 36, 2) := by decide +kernel
theorem dX2_init_15 : decode cX2_init 15 = .ok (.newarray .int, 2) := by decide +kernel
theorem dX2_init_17 : decode cX2_init 17 = .ok (.putfield 15, 3) := by decide +kernel
theorem dX2_init_20 : decode cX2_init 20 = .ok (.aload_n 0, 1) := by decide +kernel
theorem dX2_init_21 : decode cX2_init 21 = .ok (.bipush 18, 2) := by decide +kernel
theorem dX2_init_23 : decode cX2_init 23 = .ok (.newarray .boolean, 2) := by decide +kernel
theorem dX2_init_25 : decode cX2_init 25 = .ok (.putfield 18, 3) := by decide +kernel
theorem dX2_init_28 : decode cX2_init 28 = .ok (.aload_n 0, 1) := by decide +kernel
theorem dX2_init_29 : decode cX2_init 29 = .ok (.aload_n 1, 1) := by decide +kernel
theorem dX2_init_30 : decode cX2_init 30 = .ok (.putfield 22, 3) := by decide +kernel
theorem dX2_init_33 : decode cX2_init 33 = .ok (.aload_n 0, 1) := by decide +kernel
theorem dX2_init_34 : decode cX2_init 34 = .ok (.aload_n 1, 1) := by decide +kernel
theorem dX2_init_35 : decode cX2_init 35 = .ok (.getfield 26, 3) := by decide +kernel
theorem dX2_init_38 : decode cX2_init 38 = .ok (.getfield 32, 3) := by decide +kernel
theorem dX2_init_41 : decode cX2_init 41 = .ok (.putfield 38, 3) := by decide +kernel
theorem dX2_init_44 : decode cX2_init 44 = .ok (.return_, 1) := by decide +kernel
theorem dX2_forcedWithin_0 : decode cX2_forcedWithin 0 = .ok (.iconst 0, 1) := by decide +kernel
theorem dX2_forcedWithin_1 : decode cX2_forcedWithin 1 = .ok (.istore_n 3, 1) := by decide +kernel
theorem dX2_forcedWithin_2 : decode cX2_forcedWithin 2 = .ok (.iload_n 3, 1) := by decide +kernel
theorem dX2_forcedWithin_3 : decode cX2_forcedWithin 3 = .ok (.aload_n 0, 1) := by decide +kernel
theorem dX2_forcedWithin_4 : decode cX2_forcedWithin 4 = .ok (.getfield 38, 3) := by decide +kernel
theorem dX2_forcedWithin_7 : decode cX2_forcedWithin 7 = .ok (.getfield 39, 3) := by decide +kernel
theorem dX2_forcedWithin_10 : decode cX2_forcedWithin 10 = .ok (.if_icmp .ge 27, 3) := by decide +kernel
theorem dX2_forcedWithin_13 : decode cX2_forcedWithin 13 = .ok (.aload_n 0, 1) := by decide +kernel
theorem dX2_forcedWithin_14 : decode cX2_forcedWithin 14 = .ok (.getfield 9, 3) := by decide +kernel
theorem dX2_forcedWithin_17 : decode cX2_forcedWithin 17 = .ok (.iload_n 3, 1) := by decide +kernel
theorem dX2_forcedWithin_18 : decode cX2_forcedWithin 18 = .ok (.aload_n 0, 1) := by decide +kernel
theorem dX2_forcedWithin_19 : decode cX2_forcedWithin 19 = .ok (.getfield 22, 3) := by decide +kernel
theorem dX2_forcedWithin_22 : decode cX2_forcedWithin 22 = .ok (.iload_n 3, 1) := by decide +kernel
theorem dX2_forcedWithin_23 : decode cX2_forcedWithin 23 = .ok (.invokevirtual 45, 3) := by decide +kernel
theorem dX2_forcedWithin_26 : decode cX2_forcedWithin 26 = .ok (.iconst 1, 1) := by decide +kernel
theorem dX2_forcedWithin_27 : decode cX2_forcedWithin 27 = .ok (.iload_n 3, 1) := by decide +kernel
theorem dX2_forcedWithin_28 : decode cX2_forcedWithin 28 = .ok (.ishl, 1) := by decide +kernel
theorem dX2_forcedWithin_29 : decode cX2_forcedWithin 29 = .ok (.ior, 1) := by decide +kernel
theorem dX2_forcedWithin_30 : decode cX2_forcedWithin 30 = .ok (.iastore, 1) := by decide +kernel
theorem dX2_forcedWithin_31 : decode cX2_forcedWithin 31 = .ok (.iinc 3 1, 3) := by decide +kernel
theorem dX2_forcedWithin_34 : decode cX2_forcedWithin 34 = .ok (.goto (-32), 3) := by decide +kernel
theorem dX2_forcedWithin_37 : decode cX2_forcedWithin 37 = .ok (.iconst 1, 1) := by decide +kernel
theorem dX2_forcedWithin_38 : decode cX2_forcedWithin 38 = .ok (.iload_n 2, 1) := by decide +kernel
theorem dX2_forcedWithin_39 : decode cX2_forcedWithin 39 = .ok (.ishl, 1) := by decide +kernel
theorem dX2_forcedWithin_40 : decode cX2_forcedWithin 40 = .ok (.istore_n 3, 1) := by decide +kernel
theorem dX2_forcedWithin_41 : decode cX2_forcedWithin 41 = .ok (.aload_n 0, 1) := by decide +kernel
theorem dX2_forcedWithin_42 : decode cX2_forcedWithin 42 = .ok (.iconst 1, 1) := by decide +kernel
theorem dX2_forcedWithin_43 : decode cX2_forcedWithin 43 = .ok (.iload_n 2, 1) := by decide +kernel
theorem dX2_forcedWithin_44 : decode cX2_forcedWithin 44 = .ok (.ishl, 1) := by decide +kernel
theorem dX2_forcedWithin_45 : decode cX2_forcedWithin 45 = .ok (.putfield 49, 3) := by decide +kernel
theorem dX2_forcedWithin_48 : decode cX2_forcedWithin 48 = .ok (.iload_n 1, 1) := by decide +kernel
theorem dX2_forcedWithin_49 : decode cX2_forcedWithin 49 = .ok (.iload_n 2, 1) := by decide +kernel
theorem dX2_forcedWithin_50 : decode cX2_forcedWithin 50 = .ok (.if_icmp .ne 5, 3) := by decide +kernel
theorem dX2_forcedWithin_53 : decode cX2_forcedWithin 53 = .ok (.iconst 0, 1) := by decide +kernel
theorem dX2_forcedWithin_54 : decode cX2_forcedWithin 54 = .ok (.ireturn, 1) := by decide +kernel
theorem dX2_forcedWithin_55 : decode cX2_forcedWithin 55 = .ok (.iconst 1, 1) := by decide +kernel
theorem dX2_forcedWithin_56 : decode cX2_forcedWithin 56 = .ok (.istore 4, 2) := by decide +kernel
theorem dX2_forcedWithin_58 : decode cX2_forcedWithin 58 = .ok (.iload 4, 2) := by decide +kernel
theorem dX2_forcedWithin_60 : decode cX2_forcedWithin 60 = .ok (.bipush 12, 2) := by decide +kernel
theorem dX2_forcedWithin_62 : decode cX2_forcedWithin 62 = .ok (.if_icmp .gt 51, 3) := by decide +kernel
theorem dX2_forcedWithin_65 : decode cX2_forcedWithin 65 = .ok (.iconst 1, 1) := by decide +kernel
theorem dX2_forcedWithin_66 : decode cX2_forcedWithin 66 = .ok (.iload_n 2, 1) := by decide +kernel
theorem dX2_forcedWithin_67 : decode cX2_forcedWithin 67 = .ok (.ishl, 1) := by decide +kernel
theorem dX2_forcedWithin_68 : decode cX2_forcedWithin 68 = .ok (.aload_n 0, 1) := by decide +kernel
theorem dX2_forcedWithin_69 : decode cX2_forcedWithin 69 = .ok (.aload_n 0, 1) := by decide +kernel
theorem dX2_forcedWithin_70 : decode cX2_forcedWithin 70 = .ok (.getfield 49, 3) := by decide +kernel
theorem dX2_forcedWithin_73 : decode cX2_forcedWithin 73 = .ok (.invokevirtual 52, 3) := by decide +kernel
theorem dX2_forcedWithin_76 : decode cX2_forcedWithin 76 = .ok (.ior, 1) := by decide +kernel
theorem dX2_forcedWithin_77 : decode cX2_forcedWithin 77 = .ok (.istore 5, 2) := by decide +kernel
theorem dX2_forcedWithin_79 : decode cX2_forcedWithin 79 = .ok (.iload 5, 2) := by decide +kernel
theorem dX2_forcedWithin_81 : decode cX2_forcedWithin 81 = .ok (.iload_n 1, 1) := by decide +kernel
theorem dX2_forcedWithin_82 : decode cX2_forcedWithin 82 = .ok (.invokestatic 55, 3) := by decide +kernel
theorem dX2_forcedWithin_85 : decode cX2_forcedWithin 85 = .ok (.ifCond .eq 6, 3) := by decide +kernel
theorem dX2_forcedWithin_88 : decode cX2_forcedWithin 88 = .ok (.iload 4, 2) := by decide +kernel
theorem dX2_forcedWithin_90 : decode cX2_forcedWithin 90 = .ok (.ireturn, 1) := by decide +kernel
theorem dX2_forcedWithin_91 : decode cX2_forcedWithin 91 = .ok (.aload_n 0, 1) := by decide +kernel
theorem dX2_forcedWithin_92 : decode cX2_forcedWithin 92 = .ok (.iconst 1, 1) := by decide +kernel
theorem dX2_forcedWithin_93 : decode cX2_forcedWithin 93 = .ok (.iload_n 2, 1) := by decide +kernel
theorem dX2_forcedWithin_94 : decode cX2_forcedWithin 94 = .ok (.ishl, 1) := by decide +kernel
theorem dX2_forcedWithin_95 : decode cX2_forcedWithin 95 = .ok (.aload_n 0, 1) := by decide +kernel
theorem dX2_forcedWithin_96 : decode cX2_forcedWithin 96 = .ok (.iload_n 3, 1) := by decide +kernel
theorem dX2_forcedWithin_97 : decode cX2_forcedWithin 97 = .ok (.invokevirtual 59, 3) := by decide +kernel
theorem dX2_forcedWithin_100 : decode cX2_forcedWithin 100 = .ok (.ior, 1) := by decide +kernel
theorem dX2_forcedWithin_101 : decode cX2_forcedWithin 101 = .ok (.putfield 49, 3) := by decide +kernel
theorem dX2_forcedWithin_104 : decode cX2_forcedWithin 104 = .ok (.iload 5, 2) := by decide +kernel
theorem dX2_forcedWithin_106 : decode cX2_forcedWithin 106 = .ok (.istore_n 3, 1) := by decide +kernel
theorem dX2_forcedWithin_107 : decode cX2_forcedWithin 107 = .ok (.iinc 4 1, 3) := by decide +kernel
theorem dX2_forcedWithin_110 : decode cX2_forcedWithin 110 = .ok (.goto (-52), 3) := by decide +kernel
theorem dX2_forcedWithin_113 : decode cX2_forcedWithin 113 = .ok (.iconst (-1), 1) := by decide +kernel
theorem dX2_forcedWithin_114 : decode cX2_forcedWithin 114 = .ok (.ireturn, 1) := by decide +kernel
theorem dX2_someGoInto_0 : decode cX2_someGoInto 0 = .ok (.iconst 0, 1) := by decide +kernel
theorem dX2_someGoInto_1 : decode cX2_someGoInto 1 = .ok (.istore_n 2, 1) := by decide +kernel
theorem dX2_someGoInto_2 : decode cX2_someGoInto 2 = .ok (.iconst 0, 1) := by decide +kernel
theorem dX2_someGoInto_3 : decode cX2_someGoInto 3 = .ok (.istore_n 3, 1) := by decide +kernel
theorem dX2_someGoInto_4 : decode cX2_someGoInto 4 = .ok (.iload_n 3, 1) := by decide +kernel
theorem dX2_someGoInto_5 : decode cX2_someGoInto 5 = .ok (.aload_n 0, 1) := by decide +kernel
theorem dX2_someGoInto_6 : decode cX2_someGoInto 6 = .ok (.getfield 38, 3) := by decide +kernel
theorem dX2_someGoInto_9 : decode cX2_someGoInto 9 = .ok (.getfield 39, 3) := by decide +kernel
theorem dX2_someGoInto_12 : decode cX2_someGoInto 12 = .ok (.if_icmp .ge 26, 3) := by decide +kernel
theorem dX2_someGoInto_15 : decode cX2_someGoInto 15 = .ok (.aload_n 0, 1) := by decide +kernel
theorem dX2_someGoInto_16 : decode cX2_someGoInto 16 = .ok (.getfield 9, 3) := by decide +kernel
theorem dX2_someGoInto_19 : decode cX2_someGoInto 19 = .ok (.iload_n 3, 1) := by decide +kernel
theorem dX2_someGoInto_20 : decode cX2_someGoInto 20 = .ok (.iaload, 1) := by decide +kernel
theorem dX2_someGoInto_21 : decode cX2_someGoInto 21 = .ok (.iload_n 1, 1) := by decide +kernel
theorem dX2_someGoInto_22 : decode cX2_someGoInto 22 = .ok (.iand, 1) := by decide +kernel
theorem dX2_someGoInto_23 : decode cX2_someGoInto 23 = .ok (.ifCond .eq 9, 3) := by decide +kernel
theorem dX2_someGoInto_26 : decode cX2_someGoInto 26 = .ok (.iload_n 2, 1) := by decide +kernel
theorem dX2_someGoInto_27 : decode cX2_someGoInto 27 = .ok (.iconst 1, 1) := by decide +kernel
theorem dX2_someGoInto_28 : decode cX2_someGoInto 28 = .ok (.iload_n 3, 1) := by decide +kernel
theorem dX2_someGoInto_29 : decode cX2_someGoInto 29 = .ok (.ishl, 1) := by decide +kernel
theorem dX2_someGoInto_30 : decode cX2_someGoInto 30 = .ok (.ior, 1) := by decide +kernel
theorem dX2_someGoInto_31 : decode cX2_someGoInto 31 = .ok (.istore_n 2, 1) := by decide +kernel
theorem dX2_someGoInto_32 : decode cX2_someGoInto 32 = .ok (.iinc 3 1, 3) := by decide +kernel
theorem dX2_someGoInto_35 : decode cX2_someGoInto 35 = .ok (.goto (-31), 3) := by decide +kernel
theorem dX2_someGoInto_38 : decode cX2_someGoInto 38 = .ok (.iload_n 2, 1) := by decide +kernel
theorem dX2_someGoInto_39 : decode cX2_someGoInto 39 = .ok (.ireturn, 1) := by decide +kernel
theorem dX2_allGoInto_0 : decode cX2_allGoInto 0 = .ok (.iconst 0, 1) := by decide +kernel
theorem dX2_allGoInto_1 : decode cX2_allGoInto 1 = .ok (.istore_n 2, 1) := by decide +kernel
theorem dX2_allGoInto_2 : decode cX2_allGoInto 2 = .ok (.iconst 0, 1) := by decide +kernel
theorem dX2_allGoInto_3 : decode cX2_allGoInto 3 = .ok (.istore_n 3, 1) := by decide +kernel
theorem dX2_allGoInto_4 : decode cX2_allGoInto 4 = .ok (.iload_n 3, 1) := by decide +kernel
theorem dX2_allGoInto_5 : decode cX2_allGoInto 5 = .ok (.aload_n 0, 1) := by decide +kernel
theorem dX2_allGoInto_6 : decode cX2_allGoInto 6 = .ok (.getfield 38, 3) := by decide +kernel
theorem dX2_allGoInto_9 : decode cX2_allGoInto 9 = .ok (.getfield 39, 3) := by decide +kernel
theorem dX2_allGoInto_12 : decode cX2_allGoInto 12 = .ok (.if_icmp .ge 28, 3) := by decide +kernel
theorem dX2_allGoInto_15 : decode cX2_allGoInto 15 = .ok (.aload_n 0, 1) := by decide +kernel
theorem dX2_allGoInto_16 : decode cX2_allGoInto 16 = .ok (.getfield 9, 3) := by decide +kernel
theorem dX2_allGoInto_19 : decode cX2_allGoInto 19 = .ok (.iload_n 3, 1) := by decide +kernel
theorem dX2_allGoInto_20 : decode cX2_allGoInto 20 = .ok (.iaload, 1) := by decide +kernel
theorem dX2_allGoInto_21 : decode cX2_allGoInto 21 = .ok (.iload_n 1, 1) := by decide +kernel
theorem dX2_allGoInto_22 : decode cX2_allGoInto 22 = .ok (.iconst (-1), 1) := by decide +kernel
theorem dX2_allGoInto_23 : decode cX2_allGoInto 23 = .ok (.ixor, 1) := by decide +kernel
theorem dX2_allGoInto_24 : decode cX2_allGoInto 24 = .ok (.iand, 1) := by decide +kernel
theorem dX2_allGoInto_25 : decode cX2_allGoInto 25 = .ok (.ifCond .ne 9, 3) := by decide +kernel
theorem dX2_allGoInto_28 : decode cX2_allGoInto 28 = .ok (.iload_n 2, 1) := by decide +kernel
theorem dX2_allGoInto_29 : decode cX2_allGoInto 29 = .ok (.iconst 1, 1) := by decide +kernel
theorem dX2_allGoInto_30 : decode cX2_allGoInto 30 = .ok (.iload_n 3, 1) := by decide +kernel
theorem dX2_allGoInto_31 : decode cX2_allGoInto 31 = .ok (.ishl, 1) := by decide +kernel
theorem dX2_allGoInto_32 : decode cX2_allGoInto 32 = .ok (.ior, 1) := by decide +kernel
theorem dX2_allGoInto_33 : decode cX2_allGoInto 33 = .ok (.istore_n 2, 1) := by decide +kernel
theorem dX2_allGoInto_34 : decode cX2_allGoInto 34 = .ok (.iinc 3 1, 3) := by decide +kernel
theorem dX2_allGoInto_37 : decode cX2_allGoInto 37 = .ok (.goto (-33), 3) := by decide +kernel
theorem dX2_allGoInto_40 : decode cX2_allGoInto 40 = .ok (.iload_n 2, 1) := by decide +kernel
theorem dX2_allGoInto_41 : decode cX2_allGoInto 41 = .ok (.ireturn, 1) := by decide +kernel
theorem dX2_bestPlace_0 : decode cX2_bestPlace 0 = .ok (.aload_n 0, 1) := by decide +kernel
theorem dX2_bestPlace_1 : decode cX2_bestPlace 1 = .ok (.getfield 9, 3) := by decide +kernel
theorem dX2_bestPlace_4 : decode cX2_bestPlace 4 = .ok (.iload_n 1, 1) := by decide +kernel
theorem dX2_bestPlace_5 : decode cX2_bestPlace 5 = .ok (.iaload, 1) := by decide +kernel
theorem dX2_bestPlace_6 : decode cX2_bestPlace 6 = .ok (.aload_n 0, 1) := by decide +kernel
theorem dX2_bestPlace_7 : decode cX2_bestPlace 7 = .ok (.getfield 49, 3) := by decide +kernel
theorem dX2_bestPlace_10 : decode cX2_bestPlace 10 = .ok (.iand, 1) := by decide +kernel
theorem dX2_bestPlace_11 : decode cX2_bestPlace 11 = .ok (.istore_n 2, 1) := by decide +kernel
theorem dX2_bestPlace_12 : decode cX2_bestPlace 12 = .ok (.iconst 0, 1) := by decide +kernel
theorem dX2_bestPlace_13 : decode cX2_bestPlace 13 = .ok (.istore_n 3, 1) := by decide +kernel
theorem dX2_bestPlace_14 : decode cX2_bestPlace 14 = .ok (.iload_n 3, 1) := by decide +kernel
theorem dX2_bestPlace_15 : decode cX2_bestPlace 15 = .ok (.aload_n 0, 1) := by decide +kernel
theorem dX2_bestPlace_16 : decode cX2_bestPlace 16 = .ok (.getfield 38, 3) := by decide +kernel
theorem dX2_bestPlace_19 : decode cX2_bestPlace 19 = .ok (.getfield 39, 3) := by decide +kernel
theorem dX2_bestPlace_22 : decode cX2_bestPlace 22 = .ok (.if_icmp .ge 24, 3) := by decide +kernel
theorem dX2_bestPlace_25 : decode cX2_bestPlace 25 = .ok (.iload_n 3, 1) := by decide +kernel
theorem dX2_bestPlace_26 : decode cX2_bestPlace 26 = .ok (.iload_n 1, 1) := by decide +kernel
theorem dX2_bestPlace_27 : decode cX2_bestPlace 27 = .ok (.if_icmp .eq 13, 3) := by decide +kernel
theorem dX2_bestPlace_30 : decode cX2_bestPlace 30 = .ok (.iload_n 2, 1) := by decide +kernel
theorem dX2_bestPlace_31 : decode cX2_bestPlace 31 = .ok (.iload_n 3, 1) := by decide +kernel
theorem dX2_bestPlace_32 : decode cX2_bestPlace 32 = .ok (.invokestatic 55, 3) := by decide +kernel
theorem dX2_bestPlace_35 : decode cX2_bestPlace 35 = .ok (.ifCond .eq 5, 3) := by decide +kernel
theorem dX2_bestPlace_38 : decode cX2_bestPlace 38 = .ok (.iload_n 3, 1) := by decide +kernel
theorem dX2_bestPlace_39 : decode cX2_bestPlace 39 = .ok (.ireturn, 1) := by decide +kernel
theorem dX2_bestPlace_40 : decode cX2_bestPlace 40 = .ok (.iinc 3 1, 3) := by decide +kernel
theorem dX2_bestPlace_43 : decode cX2_bestPlace 43 = .ok (.goto (-29), 3) := by decide +kernel
theorem dX2_bestPlace_46 : decode cX2_bestPlace 46 = .ok (.iload_n 2, 1) := by decide +kernel
theorem dX2_bestPlace_47 : decode cX2_bestPlace 47 = .ok (.iload_n 1, 1) := by decide +kernel
theorem dX2_bestPlace_48 : decode cX2_bestPlace 48 = .ok (.invokestatic 55, 3) := by decide +kernel
theorem dX2_bestPlace_51 : decode cX2_bestPlace 51 = .ok (.ifCond .eq 7, 3) := by decide +kernel
theorem dX2_bestPlace_54 : decode cX2_bestPlace 54 = .ok (.iload_n 1, 1) := by decide +kernel
theorem dX2_bestPlace_55 : decode cX2_bestPlace 55 = .ok (.goto 4, 3) := by decide +kernel
theorem dX2_bestPlace_58 : decode cX2_bestPlace 58 = .ok (.iconst (-1), 1) := by decide +kernel
theorem dX2_bestPlace_59 : decode cX2_bestPlace 59 = .ok (.ireturn, 1) := by decide +kernel
theorem dX2_learnChances_0 : decode cX2_learnChances 0 = .ok (.aload_n 0, 1) := by decide +kernel
theorem dX2_learnChances_1 : decode cX2_learnChances 1 = .ok (.iload_n 1, 1) := by decide +kernel
theorem dX2_learnChances_2 : decode cX2_learnChances 2 = .ok (.invokevirtual 62, 3) := by decide +kernel
theorem dX2_learnChances_5 : decode cX2_learnChances 5 = .ok (.aload_n 0, 1) := by decide +kernel
theorem dX2_learnChances_6 : decode cX2_learnChances 6 = .ok (.getfield 15, 3) := by decide +kernel
theorem dX2_learnChances_9 : decode cX2_learnChances 9 = .ok (.iconst 0, 1) := by decide +kernel
theorem dX2_learnChances_10 : decode cX2_learnChances 10 = .ok (.invokestatic 66, 3) := by decide +kernel
theorem dX2_learnChances_13 : decode cX2_learnChances 13 = .ok (.aload_n 0, 1) := by decide +kernel
theorem dX2_learnChances_14 : decode cX2_learnChances 14 = .ok (.getfield 15, 3) := by decide +kernel
theorem dX2_learnChances_17 : decode cX2_learnChances 17 = .ok (.iload_n 2, 1) := by decide +kernel
theorem dX2_learnChances_18 : decode cX2_learnChances 18 = .ok (.ldc 72, 2) := by decide +kernel
theorem dX2_learnChances_20 : decode cX2_learnChances 20 = .ok (.iastore, 1) := by decide +kernel
theorem dX2_learnChances_21 : decode cX2_learnChances 21 = .ok (.iconst 1, 1) := by decide +kernel
theorem dX2_learnChances_22 : decode cX2_learnChances 22 = .ok (.istore_n 3, 1) := by decide +kernel
theorem dX2_learnChances_23 : decode cX2_learnChances 23 = .ok (.iload_n 3, 1) := by decide +kernel
theorem dX2_learnChances_24 : decode cX2_learnChances 24 = .ok (.iconst 5, 1) := by decide +kernel
theorem dX2_learnChances_25 : decode cX2_learnChances 25 = .ok (.if_icmp .gt 126, 3) := by decide +kernel
theorem dX2_learnChances_28 : decode cX2_learnChances 28 = .ok (.iconst 0, 1) := by decide +kernel
theorem dX2_learnChances_29 : decode cX2_learnChances 29 = .ok (.istore 4, 2) := by decide +kernel
theorem dX2_learnChances_31 : decode cX2_learnChances 31 = .ok (.iload 4, 2) := by decide +kernel
theorem dX2_learnChances_33 : decode cX2_learnChances 33 = .ok (.aload_n 0, 1) := by decide +kernel
theorem dX2_learnChances_34 : decode cX2_learnChances 34 = .ok (.getfield 38, 3) := by decide +kernel
theorem dX2_learnChances_37 : decode cX2_learnChances 37 = .ok (.getfield 73, 3) := by decide +kernel
theorem dX2_learnChances_40 : decode cX2_learnChances 40 = .ok (.if_icmp .ge 105, 3) := by decide +kernel
theorem dX2_learnChances_43 : decode cX2_learnChances 43 = .ok (.aload_n 0, 1) := by decide +kernel
theorem dX2_learnChances_44 : decode cX2_learnChances 44 = .ok (.getfield 18, 3) := by decide +kernel
theorem dX2_learnChances_47 : decode cX2_learnChances 47 = .ok (.iconst 2, 1) := by decide +kernel
theorem dX2_learnChances_48 : decode cX2_learnChances 48 = .ok (.iload 4, 2) := by decide +kernel
theorem dX2_learnChances_50 : decode cX2_learnChances 50 = .ok (.imul, 1) := by decide +kernel
theorem dX2_learnChances_51 : decode cX2_learnChances 51 = .ok (.baload, 1) := by decide +kernel
theorem dX2_learnChances_52 : decode cX2_learnChances 52 = .ok (.ifCond .eq 38, 3) := by decide +kernel
theorem dX2_learnChances_55 : decode cX2_learnChances 55 = .ok (.aload_n 0, 1) := by decide +kernel
theorem dX2_learnChances_56 : decode cX2_learnChances 56 = .ok (.iload_n 3, 1) := by decide +kernel
theorem dX2_learnChances_57 : decode cX2_learnChances 57 = .ok (.aload_n 0, 1) := by decide +kernel
theorem dX2_learnChances_58 : decode cX2_learnChances 58 = .ok (.getfield 38, 3) := by decide +kernel
theorem dX2_learnChances_61 : decode cX2_learnChances 61 = .ok (.getfield 76, 3) := by decide +kernel
theorem dX2_learnChances_64 : decode cX2_learnChances 64 = .ok (.iload 4, 2) := by decide +kernel
theorem dX2_learnChances_66 : decode cX2_learnChances 66 = .ok (.iaload, 1) := by decide +kernel
theorem dX2_learnChances_67 : decode cX2_learnChances 67 = .ok (.aload_n 0, 1) := by decide +kernel
theorem dX2_learnChances_68 : decode cX2_learnChances 68 = .ok (.getfield 38, 3) := by decide +kernel
theorem dX2_learnChances_71 : decode cX2_learnChances 71 = .ok (.getfield 79, 3) := by decide +kernel
theorem dX2_learnChances_74 : decode cX2_learnChances 74 = .ok (.iload 4, 2) := by decide +kernel
theorem dX2_learnChances_76 : decode cX2_learnChances 76 = .ok (.iaload, 1) := by decide +kernel
theorem dX2_learnChances_77 : decode cX2_learnChances 77 = .ok (.aload_n 0, 1) := by decide +kernel
theorem dX2_learnChances_78 : decode cX2_learnChances 78 = .ok (.getfield 38, 3) := by decide +kernel
theorem dX2_learnChances_81 : decode cX2_learnChances 81 = .ok (.getfield 82, 3) := by decide +kernel
theorem dX2_learnChances_84 : decode cX2_learnChances 84 = .ok (.iload 4, 2) := by decide +kernel
theorem dX2_learnChances_86 : decode cX2_learnChances 86 = .ok (.iaload, 1) := by decide +kernel
theorem dX2_learnChances_87 : decode cX2_learnChances 87 = .ok (.invokevirtual 85, 3) := by decide +kernel
theorem dX2_learnChances_90 : decode cX2_learnChances 90 = .ok (.aload_n 0, 1) := by decide +kernel
theorem dX2_learnChances_91 : decode cX2_learnChances 91 = .ok (.getfield 18, 3) := by decide +kernel
theorem dX2_learnChances_94 : decode cX2_learnChances 94 = .ok (.iconst 2, 1) := by decide +kernel
theorem dX2_learnChances_95 : decode cX2_learnChances 95 = .ok (.iload 4, 2) := by decide +kernel
theorem dX2_learnChances_97 : decode cX2_learnChances 97 = .ok (.imul, 1) := by decide +kernel
theorem dX2_learnChances_98 : decode cX2_learnChances 98 = .ok (.iconst 1, 1) := by decide +kernel
theorem dX2_learnChances_99 : decode cX2_learnChances 99 = .ok (.iadd, 1) := by decide +kernel
theorem dX2_learnChances_100 : decode cX2_learnChances 100 = .ok (.baload, 1) := by decide +kernel
theorem dX2_learnChances_101 : decode cX2_learnChances 101 = .ok (.ifCond .eq 38, 3) := by decide +kernel
theorem dX2_learnChances_104 : decode cX2_learnChances 104 = .ok (.aload_n 0, 1) := by decide +kernel
theorem dX2_learnChances_105 : decode cX2_learnChances 105 = .ok (.iload_n 3, 1) := by decide +kernel
theorem dX2_learnChances_106 : decode cX2_learnChances 106 = .ok (.aload_n 0, 1) := by decide +kernel
theorem dX2_learnChances_107 : decode cX2_learnChances 107 = .ok (.getfield 38, 3) := by decide +kernel
theorem dX2_learnChances_110 : decode cX2_learnChances 110 = .ok (.getfield 79, 3) := by decide +kernel
theorem dX2_learnChances_113 : decode cX2_learnChances 113 = .ok (.iload 4, 2) := by decide +kernel
theorem dX2_learnChances_115 : decode cX2_learnChances 115 = .ok (.iaload, 1) := by decide +kernel
theorem dX2_learnChances_116 : decode cX2_learnChances 116 = .ok (.aload_n 0, 1) := by decide +kernel
theorem dX2_learnChances_117 : decode cX2_learnChances 117 = .ok (.getfield 38, 3) := by decide +kernel
theorem dX2_learnChances_120 : decode cX2_learnChances 120 = .ok (.getfield 76, 3) := by decide +kernel
theorem dX2_learnChances_123 : decode cX2_learnChances 123 = .ok (.iload 4, 2) := by decide +kernel
theorem dX2_learnChances_125 : decode cX2_learnChances 125 = .ok (.iaload, 1) := by decide +kernel
theorem dX2_learnChances_126 : decode cX2_learnChances 126 = .ok (.aload_n 0, 1) := by decide +kernel
theorem dX2_learnChances_127 : decode cX2_learnChances 127 = .ok (.getfield 38, 3) := by decide +kernel
theorem dX2_learnChances_130 : decode cX2_learnChances 130 = .ok (.getfield 82, 3) := by decide +kernel
theorem dX2_learnChances_133 : decode cX2_learnChances 133 = .ok (.iload 4, 2) := by decide +kernel
theorem dX2_learnChances_135 : decode cX2_learnChances 135 = .ok (.iaload, 1) := by decide +kernel
theorem dX2_learnChances_136 : decode cX2_learnChances 136 = .ok (.invokevirtual 85, 3) := by decide +kernel
theorem dX2_learnChances_139 : decode cX2_learnChances 139 = .ok (.iinc 4 1, 3) := by decide +kernel
theorem dX2_learnChances_142 : decode cX2_learnChances 142 = .ok (.goto (-111), 3) := by decide +kernel
theorem dX2_learnChances_145 : decode cX2_learnChances 145 = .ok (.iinc 3 1, 3) := by decide +kernel
theorem dX2_learnChances_148 : decode cX2_learnChances 148 = .ok (.goto (-125), 3) := by decide +kernel
theorem dX2_learnChances_151 : decode cX2_learnChances 151 = .ok (.return_, 1) := by decide +kernel
theorem dX2_learnOpenRoads_0 : decode cX2_learnOpenRoads 0 = .ok (.iconst 0, 1) := by decide +kernel
theorem dX2_learnOpenRoads_1 : decode cX2_learnOpenRoads 1 = .ok (.istore_n 2, 1) := by decide +kernel
theorem dX2_learnOpenRoads_2 : decode cX2_learnOpenRoads 2 = .ok (.iload_n 2, 1) := by decide +kernel
theorem dX2_learnOpenRoads_3 : decode cX2_learnOpenRoads 3 = .ok (.aload_n 0, 1) := by decide +kernel
theorem dX2_learnOpenRoads_4 : decode cX2_learnOpenRoads 4 = .ok (.getfield 38, 3) := by decide +kernel
theorem dX2_learnOpenRoads_7 : decode cX2_learnOpenRoads 7 = .ok (.getfield 73, 3) := by decide +kernel
theorem dX2_learnOpenRoads_10 : decode cX2_learnOpenRoads 10 = .ok (.if_icmp .ge 69, 3) := by decide +kernel
theorem dX2_learnOpenRoads_13 : decode cX2_learnOpenRoads 13 = .ok (.aload_n 0, 1) := by decide +kernel
theorem dX2_learnOpenRoads_14 : decode cX2_learnOpenRoads 14 = .ok (.getfield 18, 3) := by decide +kernel
theorem dX2_learnOpenRoads_17 : decode cX2_learnOpenRoads 17 = .ok (.iconst 2, 1) := by decide +kernel
theorem dX2_learnOpenRoads_18 : decode cX2_learnOpenRoads 18 = .ok (.iload_n 2, 1) := by decide +kernel
theorem dX2_learnOpenRoads_19 : decode cX2_learnOpenRoads 19 = .ok (.imul, 1) := by decide +kernel
theorem dX2_learnOpenRoads_20 : decode cX2_learnOpenRoads 20 = .ok (.aload_n 0, 1) := by decide +kernel
theorem dX2_learnOpenRoads_21 : decode cX2_learnOpenRoads 21 = .ok (.getfield 22, 3) := by decide +kernel
theorem dX2_learnOpenRoads_24 : decode cX2_learnOpenRoads 24 = .ok (.getfield 26, 3) := by decide +kernel
theorem dX2_learnOpenRoads_27 : decode cX2_learnOpenRoads 27 = .ok (.iload_n 1, 1) := by decide +kernel
theorem dX2_learnOpenRoads_28 : decode cX2_learnOpenRoads 28 = .ok (.aload_n 0, 1) := by decide +kernel
theorem dX2_learnOpenRoads_29 : decode cX2_learnOpenRoads 29 = .ok (.getfield 38, 3) := by decide +kernel
theorem dX2_learnOpenRoads_32 : decode cX2_learnOpenRoads 32 = .ok (.getfield 76, 3) := by decide +kernel
theorem dX2_learnOpenRoads_35 : decode cX2_learnOpenRoads 35 = .ok (.iload_n 2, 1) := by decide +kernel
theorem dX2_learnOpenRoads_36 : decode cX2_learnOpenRoads 36 = .ok (.iaload, 1) := by decide +kernel
theorem dX2_learnOpenRoads_37 : decode cX2_learnOpenRoads 37 = .ok (.iload_n 2, 1) := by decide +kernel
theorem dX2_learnOpenRoads_38 : decode cX2_learnOpenRoads 38 = .ok (.invokevirtual 89, 3) := by decide +kernel
theorem dX2_learnOpenRoads_41 : decode cX2_learnOpenRoads 41 = .ok (.bastore, 1) := by decide +kernel
theorem dX2_learnOpenRoads_42 : decode cX2_learnOpenRoads 42 = .ok (.aload_n 0, 1) := by decide +kernel
theorem dX2_learnOpenRoads_43 : decode cX2_learnOpenRoads 43 = .ok (.getfield 18, 3) := by decide +kernel
theorem dX2_learnOpenRoads_46 : decode cX2_learnOpenRoads 46 = .ok (.iconst 2, 1) := by decide +kernel
theorem dX2_learnOpenRoads_47 : decode cX2_learnOpenRoads 47 = .ok (.iload_n 2, 1) := by decide +kernel
theorem dX2_learnOpenRoads_48 : decode cX2_learnOpenRoads 48 = .ok (.imul, 1) := by decide +kernel
theorem dX2_learnOpenRoads_49 : decode cX2_learnOpenRoads 49 = .ok (.iconst 1, 1) := by decide +kernel
theorem dX2_learnOpenRoads_50 : decode cX2_learnOpenRoads 50 = .ok (.iadd, 1) := by decide +kernel
theorem dX2_learnOpenRoads_51 : decode cX2_learnOpenRoads 51 = .ok (.aload_n 0, 1) := by decide +kernel
theorem dX2_learnOpenRoads_52 : decode cX2_learnOpenRoads 52 = .ok (.getfield 22, 3) := by decide +kernel
theorem dX2_learnOpenRoads_55 : decode cX2_learnOpenRoads 55 = .ok (.getfield 26, 3) := by decide +kernel
theorem dX2_learnOpenRoads_58 : decode cX2_learnOpenRoads 58 = .ok (.iload_n 1, 1) := by decide +kernel
theorem dX2_learnOpenRoads_59 : decode cX2_learnOpenRoads 59 = .ok (.aload_n 0, 1) := by decide +kernel
theorem dX2_learnOpenRoads_60 : decode cX2_learnOpenRoads 60 = .ok (.getfield 38, 3) := by decide +kernel
theorem dX2_learnOpenRoads_63 : decode cX2_learnOpenRoads 63 = .ok (.getfield 79, 3) := by decide +kernel
theorem dX2_learnOpenRoads_66 : decode cX2_learnOpenRoads 66 = .ok (.iload_n 2, 1) := by decide +kernel
theorem dX2_learnOpenRoads_67 : decode cX2_learnOpenRoads 67 = .ok (.iaload, 1) := by decide +kernel
theorem dX2_learnOpenRoads_68 : decode cX2_learnOpenRoads 68 = .ok (.iload_n 2, 1) := by decide +kernel
theorem dX2_learnOpenRoads_69 : decode cX2_learnOpenRoads 69 = .ok (.invokevirtual 89, 3) := by decide +kernel
theorem dX2_learnOpenRoads_72 : decode cX2_learnOpenRoads 72 = .ok (.bastore, 1) := by decide +kernel
theorem dX2_learnOpenRoads_73 : decode cX2_learnOpenRoads 73 = .ok (.iinc 2 1, 3) := by decide +kernel
theorem dX2_learnOpenRoads_76 : decode cX2_learnOpenRoads 76 = .ok (.goto (-74), 3) := by decide +kernel
theorem dX2_learnOpenRoads_79 : decode cX2_learnOpenRoads 79 = .ok (.return_, 1) := by decide +kernel
theorem dX2_goOn_0 : decode cX2_goOn 0 = .ok (.aload_n 0, 1) := by decide +kernel
theorem dX2_goOn_1 : decode cX2_goOn 1 = .ok (.getfield 15, 3) := by decide +kernel
theorem dX2_goOn_4 : decode cX2_goOn 4 = .ok (.iload_n 1, 1) := by decide +kernel
theorem dX2_goOn_5 : decode cX2_goOn 5 = .ok (.iconst 1, 1) := by decide +kernel
theorem dX2_goOn_6 : decode cX2_goOn 6 = .ok (.isub, 1) := by decide +kernel
theorem dX2_goOn_7 : decode cX2_goOn 7 = .ok (.bipush 6, 2) := by decide +kernel
theorem dX2_goOn_9 : decode cX2_goOn 9 = .ok (.imul, 1) := by decide +kernel
theorem dX2_goOn_10 : decode cX2_goOn 10 = .ok (.iload_n 2, 1) := by decide +kernel
theorem dX2_goOn_11 : decode cX2_goOn 11 = .ok (.iadd, 1) := by decide +kernel
theorem dX2_goOn_12 : decode cX2_goOn 12 = .ok (.iaload, 1) := by decide +kernel
theorem dX2_goOn_13 : decode cX2_goOn 13 = .ok (.bipush 10, 2) := by decide +kernel
theorem dX2_goOn_15 : decode cX2_goOn 15 = .ok (.idiv, 1) := by decide +kernel
theorem dX2_goOn_16 : decode cX2_goOn 16 = .ok (.bipush 10, 2) := by decide +kernel
theorem dX2_goOn_18 : decode cX2_goOn 18 = .ok (.iload 4, 2) := by decide +kernel
theorem dX2_goOn_20 : decode cX2_goOn 20 = .ok (.isub, 1) := by decide +kernel
theorem dX2_goOn_21 : decode cX2_goOn 21 = .ok (.imul, 1) := by decide +kernel
theorem dX2_goOn_22 : decode cX2_goOn 22 = .ok (.istore 5, 2) := by decide +kernel
theorem dX2_goOn_24 : decode cX2_goOn 24 = .ok (.iload_n 1, 1) := by decide +kernel
theorem dX2_goOn_25 : decode cX2_goOn 25 = .ok (.bipush 6, 2) := by decide +kernel
theorem dX2_goOn_27 : decode cX2_goOn 27 = .ok (.imul, 1) := by decide +kernel
theorem dX2_goOn_28 : decode cX2_goOn 28 = .ok (.iload_n 3, 1) := by decide +kernel
theorem dX2_goOn_29 : decode cX2_goOn 29 = .ok (.iadd, 1) := by decide +kernel
theorem dX2_goOn_30 : decode cX2_goOn 30 = .ok (.istore 6, 2) := by decide +kernel
theorem dX2_goOn_32 : decode cX2_goOn 32 = .ok (.aload_n 0, 1) := by decide +kernel
theorem dX2_goOn_33 : decode cX2_goOn 33 = .ok (.getfield 15, 3) := by decide +kernel
theorem dX2_goOn_36 : decode cX2_goOn 36 = .ok (.iload 6, 2) := by decide +kernel
theorem dX2_goOn_38 : decode cX2_goOn 38 = .ok (.aload_n 0, 1) := by decide +kernel
theorem dX2_goOn_39 : decode cX2_goOn 39 = .ok (.getfield 15, 3) := by decide +kernel
theorem dX2_goOn_42 : decode cX2_goOn 42 = .ok (.iload 6, 2) := by decide +kernel
theorem dX2_goOn_44 : decode cX2_goOn 44 = .ok (.iaload, 1) := by decide +kernel
theorem dX2_goOn_45 : decode cX2_goOn 45 = .ok (.iload 5, 2) := by decide +kernel
theorem dX2_goOn_47 : decode cX2_goOn 47 = .ok (.invokestatic 93, 3) := by decide +kernel
theorem dX2_goOn_50 : decode cX2_goOn 50 = .ok (.iastore, 1) := by decide +kernel
theorem dX2_goOn_51 : decode cX2_goOn 51 = .ok (.return_, 1) := by decide +kernel
theorem dX2_greatestChance_0 : decode cX2_greatestChance 0 = .ok (.iconst 0, 1) := by decide +kernel
theorem dX2_greatestChance_1 : decode cX2_greatestChance 1 = .ok (.istore_n 2, 1) := by decide +kernel
theorem dX2_greatestChance_2 : decode cX2_greatestChance 2 = .ok (.iconst 0, 1) := by decide +kernel
theorem dX2_greatestChance_3 : decode cX2_greatestChance 3 = .ok (.istore_n 3, 1) := by decide +kernel
theorem dX2_greatestChance_4 : decode cX2_greatestChance 4 = .ok (.iload_n 3, 1) := by decide +kernel
theorem dX2_greatestChance_5 : decode cX2_greatestChance 5 = .ok (.iconst 5, 1) := by decide +kernel
theorem dX2_greatestChance_6 : decode cX2_greatestChance 6 = .ok (.if_icmp .gt 25, 3) := by decide +kernel
theorem dX2_greatestChance_9 : decode cX2_greatestChance 9 = .ok (.iload_n 2, 1) := by decide +kernel
theorem dX2_greatestChance_10 : decode cX2_greatestChance 10 = .ok (.aload_n 0, 1) := by decide +kernel
theorem dX2_greatestChance_11 : decode cX2_greatestChance 11 = .ok (.getfield 15, 3) := by decide +kernel
theorem dX2_greatestChance_14 : decode cX2_greatestChance 14 = .ok (.iload_n 3, 1) := by decide +kernel
theorem dX2_greatestChance_15 : decode cX2_greatestChance 15 = .ok (.bipush 6, 2) := by decide +kernel
theorem dX2_greatestChance_17 : decode cX2_greatestChance 17 = .ok (.imul, 1) := by decide +kernel
theorem dX2_greatestChance_18 : decode cX2_greatestChance 18 = .ok (.iload_n 1, 1) := by decide +kernel
theorem dX2_greatestChance_19 : decode cX2_greatestChance 19 = .ok (.iadd, 1) := by decide +kernel
theorem dX2_greatestChance_20 : decode cX2_greatestChance 20 = .ok (.iaload, 1) := by decide +kernel
theorem dX2_greatestChance_21 : decode cX2_greatestChance 21 = .ok (.invokestatic 93, 3) := by decide +kernel
theorem dX2_greatestChance_24 : decode cX2_greatestChance 24 = .ok (.istore_n 2, 1) := by decide +kernel
theorem dX2_greatestChance_25 : decode cX2_greatestChance 25 = .ok (.iinc 3 1, 3) := by decide +kernel
theorem dX2_greatestChance_28 : decode cX2_greatestChance 28 = .ok (.goto (-24), 3) := by decide +kernel
theorem dX2_greatestChance_31 : decode cX2_greatestChance 31 = .ok (.iload_n 2, 1) := by decide +kernel
theorem dX2_greatestChance_32 : decode cX2_greatestChance 32 = .ok (.ireturn, 1) := by decide +kernel
theorem dX2_fewestRoads_0 : decode cX2_fewestRoads 0 = .ok (.aload_n 0, 1) := by decide +kernel
theorem dX2_fewestRoads_1 : decode cX2_fewestRoads 1 = .ok (.iload_n 1, 1) := by decide +kernel
theorem dX2_fewestRoads_2 : decode cX2_fewestRoads 2 = .ok (.invokevirtual 99, 3) := by decide +kernel
theorem dX2_fewestRoads_5 : decode cX2_fewestRoads 5 = .ok (.istore_n 2, 1) := by decide +kernel
theorem dX2_fewestRoads_6 : decode cX2_fewestRoads 6 = .ok (.iconst 0, 1) := by decide +kernel
theorem dX2_fewestRoads_7 : decode cX2_fewestRoads 7 = .ok (.istore_n 3, 1) := by decide +kernel
theorem dX2_fewestRoads_8 : decode cX2_fewestRoads 8 = .ok (.iload_n 3, 1) := by decide +kernel
theorem dX2_fewestRoads_9 : decode cX2_fewestRoads 9 = .ok (.iconst 5, 1) := by decide +kernel
theorem dX2_fewestRoads_10 : decode cX2_fewestRoads 10 = .ok (.if_icmp .gt 30, 3) := by decide +kernel
theorem dX2_fewestRoads_13 : decode cX2_fewestRoads 13 = .ok (.iload_n 2, 1) := by decide +kernel
theorem dX2_fewestRoads_14 : decode cX2_fewestRoads 14 = .ok (.ifCond .le 26, 3) := by decide +kernel
theorem dX2_fewestRoads_17 : decode cX2_fewestRoads 17 = .ok (.aload_n 0, 1) := by decide +kernel
theorem dX2_fewestRoads_18 : decode cX2_fewestRoads 18 = .ok (.getfield 15, 3) := by decide +kernel
theorem dX2_fewestRoads_21 : decode cX2_fewestRoads 21 = .ok (.iload_n 3, 1) := by decide +kernel
theorem dX2_fewestRoads_22 : decode cX2_fewestRoads 22 = .ok (.bipush 6, 2) := by decide +kernel
theorem dX2_fewestRoads_24 : decode cX2_fewestRoads 24 = .ok (.imul, 1) := by decide +kernel
theorem dX2_fewestRoads_25 : decode cX2_fewestRoads 25 = .ok (.iload_n 1, 1) := by decide +kernel
theorem dX2_fewestRoads_26 : decode cX2_fewestRoads 26 = .ok (.iadd, 1) := by decide +kernel
theorem dX2_fewestRoads_27 : decode cX2_fewestRoads 27 = .ok (.iaload, 1) := by decide +kernel
theorem dX2_fewestRoads_28 : decode cX2_fewestRoads 28 = .ok (.iload_n 2, 1) := by decide +kernel
theorem dX2_fewestRoads_29 : decode cX2_fewestRoads 29 = .ok (.if_icmp .ne 5, 3) := by decide +kernel
theorem dX2_fewestRoads_32 : decode cX2_fewestRoads 32 = .ok (.iload_n 3, 1) := by decide +kernel
theorem dX2_fewestRoads_33 : decode cX2_fewestRoads 33 = .ok (.ireturn, 1) := by decide +kernel
theorem dX2_fewestRoads_34 : decode cX2_fewestRoads 34 = .ok (.iinc 3 1, 3) := by decide +kernel
theorem dX2_fewestRoads_37 : decode cX2_fewestRoads 37 = .ok (.goto (-29), 3) := by decide +kernel
theorem dX2_fewestRoads_40 : decode cX2_fewestRoads 40 = .ok (.iconst (-1), 1) := by decide +kernel
theorem dX2_fewestRoads_41 : decode cX2_fewestRoads 41 = .ok (.ireturn, 1) := by decide +kernel
theorem dX2_fraction_0 : decode cX2_fraction 0 = .ok (.iload_n 1, 1) := by decide +kernel
theorem dX2_fraction_1 : decode cX2_fraction 1 = .ok (.istore_n 3, 1) := by decide +kernel
theorem dX2_fraction_2 : decode cX2_fraction 2 = .ok (.ldc 72, 2) := by decide +kernel
theorem dX2_fraction_4 : decode cX2_fraction 4 = .ok (.istore 4, 2) := by decide +kernel
theorem dX2_fraction_6 : decode cX2_fraction 6 = .ok (.iconst 0, 1) := by decide +kernel
theorem dX2_fraction_7 : decode cX2_fraction 7 = .ok (.istore 5, 2) := by decide +kernel
theorem dX2_fraction_9 : decode cX2_fraction 9 = .ok (.iload 5, 2) := by decide +kernel
theorem dX2_fraction_11 : decode cX2_fraction 11 = .ok (.iconst 5, 1) := by decide +kernel
theorem dX2_fraction_12 : decode cX2_fraction 12 = .ok (.if_icmp .ge 41, 3) := by decide +kernel
theorem dX2_fraction_15 : decode cX2_fraction 15 = .ok (.iload_n 3, 1) := by decide +kernel
theorem dX2_fraction_16 : decode cX2_fraction 16 = .ok (.iconst 2, 1) := by decide +kernel
theorem dX2_fraction_17 : decode cX2_fraction 17 = .ok (.irem, 1) := by decide +kernel
theorem dX2_fraction_18 : decode cX2_fraction 18 = .ok (.ifCond .ne 13, 3) := by decide +kernel
theorem dX2_fraction_21 : decode cX2_fraction 21 = .ok (.iload_n 3, 1) := by decide +kernel
theorem dX2_fraction_22 : decode cX2_fraction 22 = .ok (.iconst 2, 1) := by decide +kernel
theorem dX2_fraction_23 : decode cX2_fraction 23 = .ok (.idiv, 1) := by decide +kernel
theorem dX2_fraction_24 : decode cX2_fraction 24 = .ok (.istore_n 3, 1) := by decide +kernel
theorem dX2_fraction_25 : decode cX2_fraction 25 = .ok (.iload 4, 2) := by decide +kernel
theorem dX2_fraction_27 : decode cX2_fraction 27 = .ok (.iconst 2, 1) := by decide +kernel
theorem dX2_fraction_28 : decode cX2_fraction 28 = .ok (.idiv, 1) := by decide +kernel
theorem dX2_fraction_29 : decode cX2_fraction 29 = .ok (.istore 4, 2) := by decide +kernel
theorem dX2_fraction_31 : decode cX2_fraction 31 = .ok (.iload_n 3, 1) := by decide +kernel
theorem dX2_fraction_32 : decode cX2_fraction 32 = .ok (.iconst 5, 1) := by decide +kernel
theorem dX2_fraction_33 : decode cX2_fraction 33 = .ok (.irem, 1) := by decide +kernel
theorem dX2_fraction_34 : decode cX2_fraction 34 = .ok (.ifCond .ne 13, 3) := by decide +kernel
theorem dX2_fraction_37 : decode cX2_fraction 37 = .ok (.iload_n 3, 1) := by decide +kernel
theorem dX2_fraction_38 : decode cX2_fraction 38 = .ok (.iconst 5, 1) := by decide +kernel
theorem dX2_fraction_39 : decode cX2_fraction 39 = .ok (.idiv, 1) := by decide +kernel
theorem dX2_fraction_40 : decode cX2_fraction 40 = .ok (.istore_n 3, 1) := by decide +kernel
theorem dX2_fraction_41 : decode cX2_fraction 41 = .ok (.iload 4, 2) := by decide +kernel
theorem dX2_fraction_43 : decode cX2_fraction 43 = .ok (.iconst 5, 1) := by decide +kernel
theorem dX2_fraction_44 : decode cX2_fraction 44 = .ok (.idiv, 1) := by decide +kernel
theorem dX2_fraction_45 : decode cX2_fraction 45 = .ok (.istore 4, 2) := by decide +kernel
theorem dX2_fraction_47 : decode cX2_fraction 47 = .ok (.iinc 5 1, 3) := by decide +kernel
theorem dX2_fraction_50 : decode cX2_fraction 50 = .ok (.goto (-41), 3) := by decide +kernel
theorem dX2_fraction_53 : decode cX2_fraction 53 = .ok (.iload_n 2, 1) := by decide +kernel
theorem dX2_fraction_54 : decode cX2_fraction 54 = .ok (.ifCond .ne 7, 3) := by decide +kernel
theorem dX2_fraction_57 : decode cX2_fraction 57 = .ok (.iload_n 3, 1) := by decide +kernel
theorem dX2_fraction_58 : decode cX2_fraction 58 = .ok (.goto 5, 3) := by decide +kernel
theorem dX2_fraction_61 : decode cX2_fraction 61 = .ok (.iload 4, 2) := by decide +kernel
theorem dX2_fraction_63 : decode cX2_fraction 63 = .ok (.ireturn, 1) := by decide +kernel
theorem dX3_init_0 : decode cX3_init 0 = .ok (.aload_n 0, 1) := by decide +kernel
theorem dX3_init_1 : decode cX3_init 1 = .ok (.invokespecial 3, 3) := by decide +kernel
theorem dX3_init_4 : decode cX3_init 4 = .ok (.aload_n 0, 1) := by decide +kernel
theorem dX3_init_5 : decode cX3_init 5 = .ok (.sipush 900, 3) := by decide +kernel
theorem dX3_init_8 : decode cX3_init 8 = .ok (.newarray .int, 2) := by decide +kernel
theorem dX3_init_10 : decode cX3_init 10 = .ok (.putfield 9, 3) := by decide +kernel
theorem dX3_init_13 : decode cX3_init 13 = .ok (.aload_n 0, 1) := by decide +kernel
theorem dX3_init_14 : decode cX3_init 14 = .ok (.bipush 102, 2) := by decide +kernel
theorem dX3_init_16 : decode cX3_init 16 = .ok (.newarray .int, 2) := by decide +kernel
theorem dX3_init_18 : decode cX3_init 18 = .ok (.putfield 15, 3) := by decide +kernel
theorem dX3_init_21 : decode cX3_init 21 = .ok (.aload_n 0, 1) := by decide +kernel
theorem dX3_init_22 : decode cX3_init 22 = .ok (.invokevirtual 18, 3) := by decide +kernel
theorem dX3_init_25 : decode cX3_init 25 = .ok (.return_, 1) := by decide +kernel
theorem dX3_clear_0 : decode cX3_clear 0 = .ok (.aload_n 0, 1) := by decide +kernel
theorem dX3_clear_1 : decode cX3_clear 1 = .ok (.getfield 9, 3) := by decide +kernel
theorem dX3_clear_4 : decode cX3_clear 4 = .ok (.iconst 0, 1) := by decide +kernel
theorem dX3_clear_5 : decode cX3_clear 5 = .ok (.sipush 1000, 3) := by decide +kernel
theorem dX3_clear_8 : decode cX3_clear 8 = .ok (.iastore, 1) := by decide +kernel
theorem dX3_clear_9 : decode cX3_clear 9 = .ok (.aload_n 0, 1) := by decide +kernel
theorem dX3_clear_10 : decode cX3_clear 10 = .ok (.getfield 9, 3) := by decide +kernel
theorem dX3_clear_13 : decode cX3_clear 13 = .ok (.iconst 1, 1) := by decide +kernel
theorem dX3_clear_14 : decode cX3_clear 14 = .ok (.sipush 1001, 3) := by decide +kernel
theorem dX3_clear_17 : decode cX3_clear 17 = .ok (.iastore, 1) := by decide +kernel
theorem dX3_clear_18 : decode cX3_clear 18 = .ok (.aload_n 0, 1) := by decide +kernel
theorem dX3_clear_19 : decode cX3_clear 19 = .ok (.getfield 9, 3) := by decide +kernel
theorem dX3_clear_22 : decode cX3_clear 22 = .ok (.iconst 2, 1) := by decide +kernel
theorem dX3_clear_23 : decode cX3_clear 23 = .ok (.sipush 2004, 3) := by decide +kernel
theorem dX3_clear_26 : decode cX3_clear 26 = .ok (.iastore, 1) := by decide +kernel
theorem dX3_clear_27 : decode cX3_clear 27 = .ok (.aload_n 0, 1) := by decide +kernel
theorem dX3_clear_28 : decode cX3_clear 28 = .ok (.getfield 9, 3) := by decide +kernel
theorem dX3_clear_31 : decode cX3_clear 31 = .ok (.iconst 3, 1) := by decide +kernel
theorem dX3_clear_32 : decode cX3_clear 32 = .ok (.sipush 2008, 3) := by decide +kernel
theorem dX3_clear_35 : decode cX3_clear 35 = .ok (.iastore, 1) := by decide +kernel
theorem dX3_clear_36 : decode cX3_clear 36 = .ok (.aload_n 0, 1) := by decide +kernel
theorem dX3_clear_37 : decode cX3_clear 37 = .ok (.getfield 9, 3) := by decide +kernel
theorem dX3_clear_40 : decode cX3_clear 40 = .ok (.iconst 4, 1) := by decide +kernel
theorem dX3_clear_41 : decode cX3_clear 41 = .ok (.sipush 1003, 3) := by decide +kernel
theorem dX3_clear_44 : decode cX3_clear 44 = .ok (.iastore, 1) := by decide +kernel
theorem dX3_clear_45 : decode cX3_clear 45 = .ok (.aload_n 0, 1) := by decide +kernel
theorem dX3_clear_46 : decode cX3_clear 46 = .ok (.iconst 0, 1) := by decide +kernel
theorem dX3_clear_47 : decode cX3_clear 47 = .ok (.putfield 21, 3) := by decide +kernel
theorem dX3_clear_50 : decode cX3_clear 50 = .ok (.aload_n 0, 1) := by decide +kernel
theorem dX3_clear_51 : decode cX3_clear 51 = .ok (.iconst 4, 1) := by decide +kernel
theorem dX3_clear_52 : decode cX3_clear 52 = .ok (.putfield 25, 3) := by decide +kernel
theorem dX3_clear_55 : decode cX3_clear 55 = .ok (.aload_n 0, 1) := by decide +kernel
theorem dX3_clear_56 : decode cX3_clear 56 = .ok (.iconst 4, 1) := by decide +kernel
theorem dX3_clear_57 : decode cX3_clear 57 = .ok (.putfield 28, 3) := by decide +kernel
theorem dX3_clear_60 : decode cX3_clear 60 = .ok (.aload_n 0, 1) := by decide +kernel
theorem dX3_clear_61 : decode cX3_clear 61 = .ok (.iconst 5, 1) := by decide +kernel
theorem dX3_clear_62 : decode cX3_clear 62 = .ok (.putfield 31, 3) := by decide +kernel
theorem dX3_clear_65 : decode cX3_clear 65 = .ok (.aload_n 0, 1) := by decide +kernel
theorem dX3_clear_66 : decode cX3_clear 66 = .ok (.iconst 5, 1) := by decide +kernel
theorem dX3_clear_67 : decode cX3_clear 67 = .ok (.putfield 34, 3) := by decide +kernel
theorem dX3_clear_70 : decode cX3_clear 70 = .ok (.return_, 1) := by decide +kernel
theorem dX3_copyFrom_0 : decode cX3_copyFrom 0 = .ok (.aload_n 0, 1) := by decide +kernel
theorem dX3_copyFrom_1 : decode cX3_copyFrom 1 = .ok (.aload_n 1, 1) := by decide +kernel
theorem dX3_copyFrom_2 : decode cX3_copyFrom 2 = .ok (.getfield 34, 3) := by decide +kernel
theorem dX3_copyFrom_5 : decode cX3_copyFrom 5 = .ok (.putfield 34, 3) := by decide +kernel
theorem dX3_copyFrom_8 : decode cX3_copyFrom 8 = .ok (.aload_n 0, 1) := by decide +kernel
theorem dX3_copyFrom_9 : decode cX3_copyFrom 9 = .ok (.aload_n 1, 1) := by decide +kernel
theorem dX3_copyFrom_10 : decode cX3_copyFrom 10 = .ok (.getfield 21, 3) := by decide +kernel
theorem dX3_copyFrom_13 : decode cX3_copyFrom 13 = .ok (.putfield 21, 3) := by decide +kernel
theorem dX3_copyFrom_16 : decode cX3_copyFrom 16 = .ok (.aload_n 0, 1) := by decide +kernel
theorem dX3_copyFrom_17 : decode cX3_copyFrom 17 = .ok (.aload_n 1, 1) := by decide +kernel
theorem dX3_copyFrom_18 : decode cX3_copyFrom 18 = .ok (.getfield 25, 3) := by decide +kernel
theorem dX3_copyFrom_21 : decode cX3_copyFrom 21 = .ok (.putfield 25, 3) := by decide +kernel
theorem dX3_copyFrom_24 : decode cX3_copyFrom 24 = .ok (.aload_n 0, 1) := by decide +kernel
theorem dX3_copyFrom_25 : decode cX3_copyFrom 25 = .ok (.aload_n 1, 1) := by decide +kernel
theorem dX3_copyFrom_26 : decode cX3_copyFrom 26 = .ok (.getfield 28, 3) := by decide +kernel
theorem dX3_copyFrom_29 : decode cX3_copyFrom 29 = .ok (.putfield 28, 3) := by decide +kernel
theorem dX3_copyFrom_32 : decode cX3_copyFrom 32 = .ok (.aload_n 0, 1) := by decide +kernel
theorem dX3_copyFrom_33 : decode cX3_copyFrom 33 = .ok (.aload_n 1, 1) := by decide +kernel
theorem dX3_copyFrom_34 : decode cX3_copyFrom 34 = .ok (.getfield 31, 3) := by decide +kernel
theorem dX3_copyFrom_37 : decode cX3_copyFrom 37 = .ok (.putfield 31, 3) := by decide +kernel
theorem dX3_copyFrom_40 : decode cX3_copyFrom 40 = .ok (.aload_n 1, 1) := by decide +kernel
theorem dX3_copyFrom_41 : decode cX3_copyFrom 41 = .ok (.getfield 9, 3) := by decide +kernel
theorem dX3_copyFrom_44 : decode cX3_copyFrom 44 = .ok (.iconst 0, 1) := by decide +kernel
theorem dX3_copyFrom_45 : decode cX3_copyFrom 45 = .ok (.aload_n 0, 1) := by decide +kernel
theorem dX3_copyFrom_46 : decode cX3_copyFrom 46 = .ok (.getfield 9, 3) := by decide +kernel
theorem dX3_copyFrom_49 : decode cX3_copyFrom 49 = .ok (.iconst 0, 1) := by decide +kernel
theorem dX3_copyFrom_50 : decode cX3_copyFrom 50 = .ok (.sipush 900, 3) := by decide +kernel
theorem dX3_copyFrom_53 : decode cX3_copyFrom 53 = .ok (.invokestatic 37, 3) := by decide +kernel
theorem dX3_copyFrom_56 : decode cX3_copyFrom 56 = .ok (.return_, 1) := by decide +kernel
theorem dX3_append_0 : decode cX3_append 0 = .ok (.aload_n 0, 1) := by decide +kernel
theorem dX3_append_1 : decode cX3_append 1 = .ok (.getfield 34, 3) := by decide +kernel
theorem dX3_append_4 : decode cX3_append 4 = .ok (.sipush 900, 3) := by decide +kernel
theorem dX3_append_7 : decode cX3_append 7 = .ok (.if_icmp .ge 23, 3) := by decide +kernel
theorem dX3_append_10 : decode cX3_append 10 = .ok (.aload_n 0, 1) := by decide +kernel
theorem dX3_append_11 : decode cX3_append 11 = .ok (.getfield 9, 3) := by decide +kernel
theorem dX3_append_14 : decode cX3_append 14 = .ok (.aload_n 0, 1) := by decide +kernel
theorem dX3_append_15 : decode cX3_append 15 = .ok (.getfield 34, 3) := by decide +kernel
theorem dX3_append_18 : decode cX3_append 18 = .ok (.iload_n 1, 1) := by decide +kernel
theorem dX3_append_19 : decode cX3_append 19 = .ok (.iastore, 1) := by decide +kernel
theorem dX3_append_20 : decode cX3_append 20 = .ok (.aload_n 0, 1) := by decide +kernel
theorem dX3_append_21 : decode cX3_append 21 = .ok (.dup, 1) := by decide +kernel
theorem dX3_append_22 : decode cX3_append 22 = .ok (.getfield 34, 3) := by decide +kernel
theorem dX3_append_25 : decode cX3_append 25 = .ok (.iconst 1, 1) := by decide +kernel
theorem dX3_append_26 : decode cX3_append 26 = .ok (.iadd, 1) := by decide +kernel
theorem dX3_append_27 : decode cX3_append 27 = .ok (.putfield 34, 3) := by decide +kernel
theorem dX3_append_30 : decode cX3_append 30 = .ok (.return_, 1) := by decide +kernel
theorem dX3_codeSoFar_0 : decode cX3_codeSoFar 0 = .ok (.aload_n 0, 1) := by decide +kernel
theorem dX3_codeSoFar_1 : decode cX3_codeSoFar 1 = .ok (.getfield 34, 3) := by decide +kernel
theorem dX3_codeSoFar_4 : decode cX3_codeSoFar 4 = .ok (.ireturn, 1) := by decide +kernel
theorem dX3_closeMay_0 : decode cX3_closeMay 0 = .ok (.aload_n 0, 1) := by decide +kernel
theorem dX3_closeMay_1 : decode cX3_closeMay 1 = .ok (.iload_n 1, 1) := by decide +kernel
theorem dX3_closeMay_2 : decode cX3_closeMay 2 = .ok (.putfield 21, 3) := by decide +kernel
theorem dX3_closeMay_5 : decode cX3_closeMay 5 = .ok (.aload_n 0, 1) := by decide +kernel
theorem dX3_closeMay_6 : decode cX3_closeMay 6 = .ok (.aload_n 0, 1) := by decide +kernel
theorem dX3_closeMay_7 : decode cX3_closeMay 7 = .ok (.getfield 34, 3) := by decide +kernel
theorem dX3_closeMay_10 : decode cX3_closeMay 10 = .ok (.putfield 25, 3) := by decide +kernel
theorem dX3_closeMay_13 : decode cX3_closeMay 13 = .ok (.return_, 1) := by decide +kernel
theorem dX3_closeWears_0 : decode cX3_closeWears 0 = .ok (.aload_n 0, 1) := by decide +kernel
theorem dX3_closeWears_1 : decode cX3_closeWears 1 = .ok (.iload_n 1, 1) := by decide +kernel
theorem dX3_closeWears_2 : decode cX3_closeWears 2 = .ok (.putfield 28, 3) := by decide +kernel
theorem dX3_closeWears_5 : decode cX3_closeWears 5 = .ok (.aload_n 0, 1) := by decide +kernel
theorem dX3_closeWears_6 : decode cX3_closeWears 6 = .ok (.aload_n 0, 1) := by decide +kernel
theorem dX3_closeWears_7 : decode cX3_closeWears 7 = .ok (.getfield 34, 3) := by decide +kernel
theorem dX3_closeWears_10 : decode cX3_closeWears 10 = .ok (.putfield 31, 3) := by decide +kernel
theorem dX3_closeWears_13 : decode cX3_closeWears 13 = .ok (.return_, 1) := by decide +kernel
theorem dX3_reckon_0 : decode cX3_reckon 0 = .ok (.iload_n 1, 1) := by decide +kernel
theorem dX3_reckon_1 : decode cX3_reckon 1 = .ok (.ifCond .eq 10, 3) := by decide +kernel
theorem dX3_reckon_4 : decode cX3_reckon 4 = .ok (.aload_n 0, 1) := by decide +kernel
theorem dX3_reckon_5 : decode cX3_reckon 5 = .ok (.getfield 21, 3) := by decide +kernel
theorem dX3_reckon_8 : decode cX3_reckon 8 = .ok (.goto 7, 3) := by decide +kernel
theorem dX3_reckon_11 : decode cX3_reckon 11 = .ok (.aload_n 0, 1) := by decide +kernel
theorem dX3_reckon_12 : decode cX3_reckon 12 = .ok (.getfield 28, 3) := by decide +kernel
theorem dX3_reckon_15 : decode cX3_reckon 15 = .ok (.istore_n 3, 1) := by decide +kernel
theorem dX3_reckon_16 : decode cX3_reckon 16 = .ok (.iload_n 1, 1) := by decide +kernel
theorem dX3_reckon_17 : decode cX3_reckon 17 = .ok (.ifCond .eq 10, 3) := by decide +kernel
theorem dX3_reckon_20 : decode cX3_reckon 20 = .ok (.aload_n 0, 1) := by decide +kernel
theorem dX3_reckon_21 : decode cX3_reckon 21 = .ok (.getfield 25, 3) := by decide +kernel
theorem dX3_reckon_24 : decode cX3_reckon 24 = .ok (.goto 7, 3) := by decide +kernel
theorem dX3_reckon_27 : decode cX3_reckon 27 = .ok (.aload_n 0, 1) := by decide +kernel
theorem dX3_reckon_28 : decode cX3_reckon 28 = .ok (.getfield 31, 3) := by decide +kernel
theorem dX3_reckon_31 : decode cX3_reckon 31 = .ok (.istore 4, 2) := by decide +kernel
theorem dX3_reckon_33 : decode cX3_reckon 33 = .ok (.iconst 0, 1) := by decide +kernel
theorem dX3_reckon_34 : decode cX3_reckon 34 = .ok (.istore 5, 2) := by decide +kernel
theorem dX3_reckon_36 : decode cX3_reckon 36 = .ok (.iload_n 3, 1) := by decide +kernel
theorem dX3_reckon_37 : decode cX3_reckon 37 = .ok (.istore 6, 2) := by decide +kernel
theorem dX3_reckon_39 : decode cX3_reckon 39 = .ok (.iload 6, 2) := by decide +kernel
theorem dX3_reckon_41 : decode cX3_reckon 41 = .ok (.iload 4, 2) := by decide +kernel
theorem dX3_reckon_43 : decode cX3_reckon 43 = .ok (.if_icmp .ge 111, 3) := by decide +kernel
theorem dX3_reckon_46 : decode cX3_reckon 46 = .ok (.iload 6, 2) := by decide +kernel
theorem dX3_reckon_48 : decode cX3_reckon 48 = .ok (.sipush 900, 3) := by decide +kernel
theorem dX3_reckon_51 : decode cX3_reckon 51 = .ok (.if_icmp .ge 103, 3) := by decide +kernel
theorem dX3_reckon_54 : decode cX3_reckon 54 = .ok (.iload 5, 2) := by decide +kernel
theorem dX3_reckon_56 : decode cX3_reckon 56 = .ok (.bipush 100, 2) := by decide +kernel
theorem dX3_reckon_58 : decode cX3_reckon 58 = .ok (.if_icmp .ge 96, 3) := by decide +kernel
theorem dX3_reckon_61 : decode cX3_reckon 61 = .ok (.aload_n 0, 1) := by decide +kernel
theorem dX3_reckon_62 : decode cX3_reckon 62 = .ok (.getfield 9, 3) := by decide +kernel
theorem dX3_reckon_65 : decode cX3_reckon 65 = .ok (.iload 6, 2) := by decide +kernel
theorem dX3_reckon_67 : decode cX3_reckon 67 = .ok (.iaload, 1) := by decide +kernel
theorem dX3_reckon_68 : decode cX3_reckon 68 = .ok (.istore 7, 2) := by decide +kernel
theorem dX3_reckon_70 : decode cX3_reckon 70 = .ok (.iload 7, 2) := by decide +kernel
theorem dX3_reckon_72 : decode cX3_reckon 72 = .ok (.sipush 1000, 3) := by decide +kernel
theorem dX3_reckon_75 : decode cX3_reckon 75 = .ok (.if_icmp .ge 15, 3) := by decide +kernel
theorem dX3_reckon_78 : decode cX3_reckon 78 = .ok (.aload_n 0, 1) := by decide +kernel
theorem dX3_reckon_79 : decode cX3_reckon 79 = .ok (.getfield 15, 3) := by decide +kernel
theorem dX3_reckon_82 : decode cX3_reckon 82 = .ok (.iload 5, 2) := by decide +kernel
theorem dX3_reckon_84 : decode cX3_reckon 84 = .ok (.iload 7, 2) := by decide +kernel
theorem dX3_reckon_86 : decode cX3_reckon 86 = .ok (.iastore, 1) := by decide +kernel
theorem dX3_reckon_87 : decode cX3_reckon 87 = .ok (.goto 58, 3) := by decide +kernel
theorem dX3_reckon_90 : decode cX3_reckon 90 = .ok (.iload 7, 2) := by decide +kernel
theorem dX3_reckon_92 : decode cX3_reckon 92 = .ok (.sipush 1006, 3) := by decide +kernel
theorem dX3_reckon_95 : decode cX3_reckon 95 = .ok (.if_icmp .ge 21, 3) := by decide +kernel
theorem dX3_reckon_98 : decode cX3_reckon 98 = .ok (.aload_n 0, 1) := by decide +kernel
theorem dX3_reckon_99 : decode cX3_reckon 99 = .ok (.getfield 15, 3) := by decide +kernel
theorem dX3_reckon_102 : decode cX3_reckon 102 = .ok (.iload 5, 2) := by decide +kernel
theorem dX3_reckon_104 : decode cX3_reckon 104 = .ok (.aload_n 2, 1) := by decide +kernel
theorem dX3_reckon_105 : decode cX3_reckon 105 = .ok (.iload 7, 2) := by decide +kernel
theorem dX3_reckon_107 : decode cX3_reckon 107 = .ok (.sipush 1000, 3) := by decide +kernel
theorem dX3_reckon_110 : decode cX3_reckon 110 = .ok (.isub, 1) := by decide +kernel
theorem dX3_reckon_111 : decode cX3_reckon 111 = .ok (.iaload, 1) := by decide +kernel
theorem dX3_reckon_112 : decode cX3_reckon 112 = .ok (.iastore, 1) := by decide +kernel
theorem dX3_reckon_113 : decode cX3_reckon 113 = .ok (.goto 32, 3) := by decide +kernel
theorem dX3_reckon_116 : decode cX3_reckon 116 = .ok (.iconst 0, 1) := by decide +kernel
theorem dX3_reckon_117 : decode cX3_reckon 117 = .ok (.iload 5, 2) := by decide +kernel
theorem dX3_reckon_119 : decode cX3_reckon 119 = .ok (.iload 7, 2) := by decide +kernel
theorem dX3_reckon_121 : decode cX3_reckon 121 = .ok (.invokestatic 43, 3) := by decide +kernel
theorem dX3_reckon_124 : decode cX3_reckon 124 = .ok (.isub, 1) := by decide +kernel
theorem dX3_reckon_125 : decode cX3_reckon 125 = .ok (.invokestatic 47, 3) := by decide +kernel
theorem dX3_reckon_128 : decode cX3_reckon 128 = .ok (.istore 5, 2) := by decide +kernel
theorem dX3_reckon_130 : decode cX3_reckon 130 = .ok (.aload_n 0, 1) := by decide +kernel
theorem dX3_reckon_131 : decode cX3_reckon 131 = .ok (.getfield 15, 3) := by decide +kernel
theorem dX3_reckon_134 : decode cX3_reckon 134 = .ok (.iload 5, 2) := by decide +kernel
theorem dX3_reckon_136 : decode cX3_reckon 136 = .ok (.aload_n 0, 1) := by decide +kernel
theorem dX3_reckon_137 : decode cX3_reckon 137 = .ok (.iload 5, 2) := by decide +kernel
theorem dX3_reckon_139 : decode cX3_reckon 139 = .ok (.iload 7, 2) := by decide +kernel
theorem dX3_reckon_141 : decode cX3_reckon 141 = .ok (.invokevirtual 53, 3) := by decide +kernel
theorem dX3_reckon_144 : decode cX3_reckon 144 = .ok (.iastore, 1) := by decide +kernel
theorem dX3_reckon_145 : decode cX3_reckon 145 = .ok (.iinc 5 1, 3) := by decide +kernel
theorem dX3_reckon_148 : decode cX3_reckon 148 = .ok (.iinc 6 1, 3) := by decide +kernel
theorem dX3_reckon_151 : decode cX3_reckon 151 = .ok (.goto (-112), 3) := by decide +kernel
theorem dX3_reckon_154 : decode cX3_reckon 154 = .ok (.aload_n 0, 1) := by decide +kernel
theorem dX3_reckon_155 : decode cX3_reckon 155 = .ok (.getfield 15, 3) := by decide +kernel
theorem dX3_reckon_158 : decode cX3_reckon 158 = .ok (.iconst 0, 1) := by decide +kernel
theorem dX3_reckon_159 : decode cX3_reckon 159 = .ok (.iaload, 1) := by decide +kernel
theorem dX3_reckon_160 : decode cX3_reckon 160 = .ok (.ireturn, 1) := by decide +kernel
theorem dX3_joinedBy_0 : decode cX3_joinedBy 0 = .ok (.iload_n 0, 1) := by decide +kernel
theorem dX3_joinedBy_1 : decode cX3_joinedBy 1 = .ok (.sipush 2008, 3) := by decide +kernel
theorem dX3_joinedBy_4 : decode cX3_joinedBy 4 = .ok (.if_icmp .ne 5, 3) := by decide +kernel
theorem dX3_joinedBy_7 : decode cX3_joinedBy 7 = .ok (.iconst 1, 1) := by decide +kernel
theorem dX3_joinedBy_8 : decode cX3_joinedBy 8 = .ok (.ireturn, 1) := by decide +kernel
theorem dX3_joinedBy_9 : decode cX3_joinedBy 9 = .ok (.iload_n 0, 1) := by decide +kernel
theorem dX3_joinedBy_10 : decode cX3_joinedBy 10 = .ok (.sipush 2009, 3) := by decide +kernel
theorem dX3_joinedBy_13 : decode cX3_joinedBy 13 = .ok (.if_icmp .ne 7, 3) := by decide +kernel
theorem dX3_joinedBy_16 : decode cX3_joinedBy 16 = .ok (.iconst 3, 1) := by decide +kernel
theorem dX3_joinedBy_17 : decode cX3_joinedBy 17 = .ok (.goto 4, 3) := by decide +kernel
theorem dX3_joinedBy_20 : decode cX3_joinedBy 20 = .ok (.iconst 2, 1) := by decide +kernel
theorem dX3_joinedBy_21 : decode cX3_joinedBy 21 = .ok (.ireturn, 1) := by decide +kernel
theorem dX3_joinAbove_0 : decode cX3_joinAbove 0 = .ok (.aload_n 0, 1) := by decide +kernel
theorem dX3_joinAbove_1 : decode cX3_joinAbove 1 = .ok (.getfield 15, 3) := by decide +kernel
theorem dX3_joinAbove_4 : decode cX3_joinAbove 4 = .ok (.iload_n 1, 1) := by decide +kernel
theorem dX3_joinAbove_5 : decode cX3_joinAbove 5 = .ok (.iaload, 1) := by decide +kernel
theorem dX3_joinAbove_6 : decode cX3_joinAbove 6 = .ok (.istore_n 3, 1) := by decide +kernel
theorem dX3_joinAbove_7 : decode cX3_joinAbove 7 = .ok (.aload_n 0, 1) := by decide +kernel
theorem dX3_joinAbove_8 : decode cX3_joinAbove 8 = .ok (.getfield 15, 3) := by decide +kernel
theorem dX3_joinAbove_11 : decode cX3_joinAbove 11 = .ok (.iload_n 1, 1) := by decide +kernel
theorem dX3_joinAbove_12 : decode cX3_joinAbove 12 = .ok (.iconst 1, 1) := by decide +kernel
theorem dX3_joinAbove_13 : decode cX3_joinAbove 13 = .ok (.iadd, 1) := by decide +kernel
theorem dX3_joinAbove_14 : decode cX3_joinAbove 14 = .ok (.iaload, 1) := by decide +kernel
theorem dX3_joinAbove_15 : decode cX3_joinAbove 15 = .ok (.istore 4, 2) := by decide +kernel
theorem dX3_joinAbove_17 : decode cX3_joinAbove 17 = .ok (.lconst 0, 1) := by decide +kernel
theorem dX3_joinAbove_18 : decode cX3_joinAbove 18 = .ok (.lstore 5, 2) := by decide +kernel
theorem dX3_joinAbove_20 : decode cX3_joinAbove 20 = .ok (.iload_n 2, 1) := by decide +kernel
theorem dX3_joinAbove_21 : decode cX3_joinAbove 21 = .ok (.tableswitch 134 2000 2008 #[51, 62, 73, 84, 96, 108, 120, 125, 130], 51) := by decide +kernel
theorem dX3_joinAbove_72 : decode cX3_joinAbove 72 = .ok (.iload_n 3, 1) := by decide +kernel
theorem dX3_joinAbove_73 : decode cX3_joinAbove 73 = .ok (.i2l, 1) := by decide +kernel
theorem dX3_joinAbove_74 : decode cX3_joinAbove 74 = .ok (.iload 4, 2) := by decide +kernel
theorem dX3_joinAbove_76 : decode cX3_joinAbove 76 = .ok (.i2l, 1) := by decide +kernel
theorem dX3_joinAbove_77 : decode cX3_joinAbove 77 = .ok (.ladd, 1) := by decide +kernel
theorem dX3_joinAbove_78 : decode cX3_joinAbove 78 = .ok (.lstore 5, 2) := by decide +kernel
theorem dX3_joinAbove_80 : decode cX3_joinAbove 80 = .ok (.goto 93, 3) := by decide +kernel
theorem dX3_joinAbove_83 : decode cX3_joinAbove 83 = .ok (.iload_n 3, 1) := by decide +kernel
theorem dX3_joinAbove_84 : decode cX3_joinAbove 84 = .ok (.i2l, 1) := by decide +kernel
theorem dX3_joinAbove_85 : decode cX3_joinAbove 85 = .ok (.iload 4, 2) := by decide +kernel
theorem dX3_joinAbove_87 : decode cX3_joinAbove 87 = .ok (.i2l, 1) := by decide +kernel
theorem dX3_joinAbove_88 : decode cX3_joinAbove 88 = .ok (.lsub, 1) := by decide +kernel
theorem dX3_joinAbove_89 : decode cX3_joinAbove 89 = .ok (.lstore 5, 2) := by decide +kernel
theorem dX3_joinAbove_91 : decode cX3_joinAbove 91 = .ok (.goto 82, 3) := by decide +kernel
theorem dX3_joinAbove_94 : decode cX3_joinAbove 94 = .ok (.iload_n 3, 1) := by decide +kernel
theorem dX3_joinAbove_95 : decode cX3_joinAbove 95 = .ok (.i2l, 1) := by decide +kernel
theorem dX3_joinAbove_96 : decode cX3_joinAbove 96 = .ok (.iload 4, 2) := by decide +kernel
theorem dX3_joinAbove_98 : decode cX3_joinAbove 98 = .ok (.i2l, 1) := by decide +kernel
theorem dX3_joinAbove_99 : decode cX3_joinAbove 99 = .ok (.lmul, 1) := by decide +kernel
theorem dX3_joinAbove_100 : decode cX3_joinAbove 100 = .ok (.lstore 5, 2) := by decide +kernel
theorem dX3_joinAbove_102 : decode cX3_joinAbove 102 = .ok (.goto 71, 3) := by decide +kernel
theorem dX3_joinAbove_105 : decode cX3_joinAbove 105 = .ok (.iload_n 3, 1) := by decide +kernel
theorem dX3_joinAbove_106 : decode cX3_joinAbove 106 = .ok (.iload 4, 2) := by decide +kernel
theorem dX3_joinAbove_108 : decode cX3_joinAbove 108 = .ok (.if_icmp .ne 7, 3) := by decide +kernel
theorem dX3_joinAbove_111 : decode cX3_joinAbove 111 = .ok (.iconst 1, 1) := by decide +kernel
theorem dX3_joinAbove_112 : decode cX3_joinAbove 112 = .ok (.goto 4, 3) := by decide +kernel
theorem dX3_joinAbove_115 : decode cX3_joinAbove 115 = .ok (.iconst 0, 1) := by decide +kernel
theorem dX3_joinAbove_116 : decode cX3_joinAbove 116 = .ok (.ireturn, 1) := by decide +kernel
theorem dX3_joinAbove_117 : decode cX3_joinAbove 117 = .ok (.iload_n 3, 1) := by decide +kernel
theorem dX3_joinAbove_118 : decode cX3_joinAbove 118 = .ok (.iload 4, 2) := by decide +kernel
theorem dX3_joinAbove_120 : decode cX3_joinAbove 120 = .ok (.if_icmp .ge 7, 3) := by decide +kernel
theorem dX3_joinAbove_123 : decode cX3_joinAbove 123 = .ok (.iconst 1, 1) := by decide +kernel
theorem dX3_joinAbove_124 : decode cX3_joinAbove 124 = .ok (.goto 4, 3) := by decide +kernel
theorem dX3_joinAbove_127 : decode cX3_joinAbove 127 = .ok (.iconst 0, 1) := by decide +kernel
theorem dX3_joinAbove_128 : decode cX3_joinAbove 128 = .ok (.ireturn, 1) := by decide +kernel
theorem dX3_joinAbove_129 : decode cX3_joinAbove 129 = .ok (.iload_n 3, 1) := by decide +kernel
theorem dX3_joinAbove_130 : decode cX3_joinAbove 130 = .ok (.iload 4, 2) := by decide +kernel
theorem dX3_joinAbove_132 : decode cX3_joinAbove 132 = .ok (.if_icmp .le 7, 3) := by decide +kernel
theorem dX3_joinAbove_135 : decode cX3_joinAbove 135 = .ok (.iconst 1, 1) := by decide +kernel
theorem dX3_joinAbove_136 : decode cX3_joinAbove 136 = .ok (.goto 4, 3) := by decide +kernel
theorem dX3_joinAbove_139 : decode cX3_joinAbove 139 = .ok (.iconst 0, 1) := by decide +kernel
theorem dX3_joinAbove_140 : decode cX3_joinAbove 140 = .ok (.ireturn, 1) := by decide +kernel
theorem dX3_joinAbove_141 : decode cX3_joinAbove 141 = .ok (.iload_n 3, 1) := by decide +kernel
theorem dX3_joinAbove_142 : decode cX3_joinAbove 142 = .ok (.iload 4, 2) := by decide +kernel
theorem dX3_joinAbove_144 : decode cX3_joinAbove 144 = .ok (.iand, 1) := by decide +kernel
theorem dX3_joinAbove_145 : decode cX3_joinAbove 145 = .ok (.ireturn, 1) := by decide +kernel
theorem dX3_joinAbove_146 : decode cX3_joinAbove 146 = .ok (.iload_n 3, 1) := by decide +kernel
theorem dX3_joinAbove_147 : decode cX3_joinAbove 147 = .ok (.iload 4, 2) := by decide +kernel
theorem dX3_joinAbove_149 : decode cX3_joinAbove 149 = .ok (.ior, 1) := by decide +kernel
theorem dX3_joinAbove_150 : decode cX3_joinAbove 150 = .ok (.ireturn, 1) := by decide +kernel
theorem dX3_joinAbove_151 : decode cX3_joinAbove 151 = .ok (.iconst 1, 1) := by decide +kernel
theorem dX3_joinAbove_152 : decode cX3_joinAbove 152 = .ok (.iload_n 3, 1) := by decide +kernel
theorem dX3_joinAbove_153 : decode cX3_joinAbove 153 = .ok (.isub, 1) := by decide +kernel
theorem dX3_joinAbove_154 : decode cX3_joinAbove 154 = .ok (.ireturn, 1) := by decide +kernel
theorem dX3_joinAbove_155 : decode cX3_joinAbove 155 = .ok (.iload_n 3, 1) := by decide +kernel
theorem dX3_joinAbove_156 : decode cX3_joinAbove 156 = .ok (.ifCond .eq 8, 3) := by decide +kernel
theorem dX3_joinAbove_159 : decode cX3_joinAbove 159 = .ok (.iload 4, 2) := by decide +kernel
theorem dX3_joinAbove_161 : decode cX3_joinAbove 161 = .ok (.goto 11, 3) := by decide +kernel
theorem dX3_joinAbove_164 : decode cX3_joinAbove 164 = .ok (.aload_n 0, 1) := by decide +kernel
theorem dX3_joinAbove_165 : decode cX3_joinAbove 165 = .ok (.getfield 15, 3) := by decide +kernel
theorem dX3_joinAbove_168 : decode cX3_joinAbove 168 = .ok (.iload_n 1, 1) := by decide +kernel
theorem dX3_joinAbove_169 : decode cX3_joinAbove 169 = .ok (.iconst 2, 1) := by decide +kernel
theorem dX3_joinAbove_170 : decode cX3_joinAbove 170 = .ok (.iadd, 1) := by decide +kernel
theorem dX3_joinAbove_171 : decode cX3_joinAbove 171 = .ok (.iaload, 1) := by decide +kernel
theorem dX3_joinAbove_172 : decode cX3_joinAbove 172 = .ok (.ireturn, 1) := by decide +kernel
theorem dX3_joinAbove_173 : decode cX3_joinAbove 173 = .ok (.lload 5, 2) := by decide +kernel
theorem dX3_joinAbove_175 : decode cX3_joinAbove 175 = .ok (.ldc2_w 56, 3) := by decide +kernel
theorem dX3_joinAbove_178 : decode cX3_joinAbove 178 = .ok (.lcmp, 1) := by decide +kernel
theorem dX3_joinAbove_179 : decode cX3_joinAbove 179 = .ok (.ifCond .ge 6, 3) := by decide +kernel
theorem dX3_joinAbove_182 : decode cX3_joinAbove 182 = .ok (.ldc 58, 2) := by decide +kernel
theorem dX3_joinAbove_184 : decode cX3_joinAbove 184 = .ok (.ireturn, 1) := by decide +kernel
theorem dX3_joinAbove_185 : decode cX3_joinAbove 185 = .ok (.lload 5, 2) := by decide +kernel
theorem dX3_joinAbove_187 : decode cX3_joinAbove 187 = .ok (.ldc2_w 59, 3) := by decide +kernel
theorem dX3_joinAbove_190 : decode cX3_joinAbove 190 = .ok (.lcmp, 1) := by decide +kernel
theorem dX3_joinAbove_191 : decode cX3_joinAbove 191 = .ok (.ifCond .le 8, 3) := by decide +kernel
theorem dX3_joinAbove_194 : decode cX3_joinAbove 194 = .ok (.ldc 61, 2) := by decide +kernel
theorem dX3_joinAbove_196 : decode cX3_joinAbove 196 = .ok (.goto 6, 3) := by decide +kernel
theorem dX3_joinAbove_199 : decode cX3_joinAbove 199 = .ok (.lload 5, 2) := by decide +kernel
theorem dX3_joinAbove_201 : decode cX3_joinAbove 201 = .ok (.l2i, 1) := by decide +kernel
theorem dX3_joinAbove_202 : decode cX3_joinAbove 202 = .ok (.ireturn, 1) := by decide +kernel
theorem dX4_init_0 : decode cX4_init 0 = .ok (.aload_n 0, 1) := by decide +kernel
theorem dX4_init_1 : decode cX4_init 1 = .ok (.invokespecial 3, 3) := by decide +kernel
theorem dX4_init_4 : decode cX4_init 4 = .ok (.aload_n 0, 1) := by decide +kernel
theorem dX4_init_5 : decode cX4_init 5 = .ok (.sipush 1008, 3) := by decide +kernel
theorem dX4_init_8 : decode cX4_init 8 = .ok (.newarray .int, 2) := by decide +kernel
theorem dX4_init_10 : decode cX4_init 10 = .ok (.putfield 9, 3) := by decide +kernel
theorem dX4_init_13 : decode cX4_init 13 = .ok (.aload_n 0, 1) := by decide +kernel
theorem dX4_init_14 : decode cX4_init 14 = .ok (.bipush 36, 2) := by decide +kernel
theorem dX4_init_16 : decode cX4_init 16 = .ok (.newarray .int, 2) := by decide +kernel
theorem dX4_init_18 : decode cX4_init 18 = .ok (.putfield 15, 3) := by decide +kernel
theorem dX4_init_21 : decode cX4_init 21 = .ok (.aload_n 0, 1) := by decide +kernel
theorem dX4_init_22 : decode cX4_init 22 = .ok (.bipush 6, 2) := by decide +kernel
theorem dX4_init_24 : decode cX4_init 24 = .ok (.newarray .int, 2) := by decide +kernel
theorem dX4_init_26 : decode cX4_init 26 = .ok (.putfield 18, 3) := by decide +kernel
theorem dX4_init_29 : decode cX4_init 29 = .ok (.aload_n 0, 1) := by decide +kernel
theorem dX4_init_30 : decode cX4_init 30 = .ok (.bipush 6, 2) := by decide +kernel
theorem dX4_init_32 : decode cX4_init 32 = .ok (.newarray .long, 2) := by decide +kernel
theorem dX4_init_34 : decode cX4_init 34 = .ok (.putfield 21, 3) := by decide +kernel
theorem dX4_init_37 : decode cX4_init 37 = .ok (.aload_n 0, 1) := by decide +kernel
theorem dX4_init_38 : decode cX4_init 38 = .ok (.bipush 6, 2) := by decide +kernel
theorem dX4_init_40 : decode cX4_init 40 = .ok (.newarray .long, 2) := by decide +kernel
theorem dX4_init_42 : decode cX4_init 42 = .ok (.putfield 25, 3) := by decide +kernel
theorem dX4_init_45 : decode cX4_init 45 = .ok (.aload_n 0, 1) := by decide +kernel
theorem dX4_init_46 : decode cX4_init 46 = .ok (.iconst 4, 1) := by decide +kernel
theorem dX4_init_47 : decode cX4_init 47 = .ok (.newarray .int, 2) := by decide +kernel
theorem dX4_init_49 : decode cX4_init 49 = .ok (.putfield 28, 3) := by decide +kernel
theorem dX4_init_52 : decode cX4_init 52 = .ok (.aload_n 0, 1) := by decide +kernel
theorem dX4_init_53 : decode cX4_init 53 = .ok (.iconst 4, 1) := by decide +kernel
theorem dX4_init_54 : decode cX4_init 54 = .ok (.newarray .int, 2) := by decide +kernel
theorem dX4_init_56 : decode cX4_init 56 = .ok (.putfield 31, 3) := by decide +kernel
theorem dX4_init_59 : decode cX4_init 59 = .ok (.aload_n 0, 1) := by decide +kernel
theorem dX4_init_60 : decode cX4_init 60 = .ok (.aload_n 1, 1) := by decide +kernel
theorem dX4_init_61 : decode cX4_init 61 = .ok (.putfield 34, 3) := by decide +kernel
theorem dX4_init_64 : decode cX4_init 64 = .ok (.return_, 1) := by decide +kernel
theorem dX4_places_0 : decode cX4_places 0 = .ok (.aload_n 0, 1) := by decide +kernel
theorem dX4_places_1 : decode cX4_places 1 = .ok (.getfield 34, 3) := by decide +kernel
theorem dX4_places_4 : decode cX4_places 4 = .ok (.getfield 38, 3) := by decide +kernel
theorem dX4_places_7 : decode cX4_places 7 = .ok (.getfield 44, 3) := by decide +kernel
theorem dX4_places_10 : decode cX4_places 10 = .ok (.ireturn, 1) := by decide +kernel
theorem dX4_learn_0 : decode cX4_learn 0 = .ok (.iconst 0, 1) := by decide +kernel
theorem dX4_learn_1 : decode cX4_learn 1 = .ok (.istore_n 3, 1) := by decide +kernel
theorem dX4_learn_2 : decode cX4_learn 2 = .ok (.iload_n 3, 1) := by decide +kernel
theorem dX4_learn_3 : decode cX4_learn 3 = .ok (.aload_n 0, 1) := by decide +kernel
theorem dX4_learn_4 : decode cX4_learn 4 = .ok (.invokevirtual 50, 3) := by decide +kernel
theorem dX4_learn_7 : decode cX4_learn 7 = .ok (.if_icmp .ge 36, 3) := by decide +kernel
theorem dX4_learn_10 : decode cX4_learn 10 = .ok (.iconst 0, 1) := by decide +kernel
theorem dX4_learn_11 : decode cX4_learn 11 = .ok (.istore 4, 2) := by decide +kernel
theorem dX4_learn_13 : decode cX4_learn 13 = .ok (.iload 4, 2) := by decide +kernel
theorem dX4_learn_15 : decode cX4_learn 15 = .ok (.aload_n 0, 1) := by decide +kernel
theorem dX4_learn_16 : decode cX4_learn 16 = .ok (.invokevirtual 50, 3) := by decide +kernel
theorem dX4_learn_19 : decode cX4_learn 19 = .ok (.if_icmp .ge 18, 3) := by decide +kernel
theorem dX4_learn_22 : decode cX4_learn 22 = .ok (.aload_n 0, 1) := by decide +kernel
theorem dX4_learn_23 : decode cX4_learn 23 = .ok (.iload_n 1, 1) := by decide +kernel
theorem dX4_learn_24 : decode cX4_learn 24 = .ok (.iload_n 3, 1) := by decide +kernel
theorem dX4_learn_25 : decode cX4_learn 25 = .ok (.iload 4, 2) := by decide +kernel
theorem dX4_learn_27 : decode cX4_learn 27 = .ok (.iload_n 2, 1) := by decide +kernel
theorem dX4_learn_28 : decode cX4_learn 28 = .ok (.invokevirtual 53, 3) := by decide +kernel
theorem dX4_learn_31 : decode cX4_learn 31 = .ok (.iinc 4 1, 3) := by decide +kernel
theorem dX4_learn_34 : decode cX4_learn 34 = .ok (.goto (-21), 3) := by decide +kernel
theorem dX4_learn_37 : decode cX4_learn 37 = .ok (.iinc 3 1, 3) := by decide +kernel
theorem dX4_learn_40 : decode cX4_learn 40 = .ok (.goto (-38), 3) := by decide +kernel
theorem dX4_learn_43 : decode cX4_learn 43 = .ok (.return_, 1) := by decide +kernel
theorem dX4_learnStep_0 : decode cX4_learnStep 0 = .ok (.iload_n 2, 1) := by decide +kernel
theorem dX4_learnStep_1 : decode cX4_learnStep 1 = .ok (.bipush 6, 2) := by decide +kernel
theorem dX4_learnStep_3 : decode cX4_learnStep 3 = .ok (.imul, 1) := by decide +kernel
theorem dX4_learnStep_4 : decode cX4_learnStep 4 = .ok (.iload_n 3, 1) := by decide +kernel
theorem dX4_learnStep_5 : decode cX4_learnStep 5 = .ok (.iadd, 1) := by decide +kernel
theorem dX4_learnStep_6 : decode cX4_learnStep 6 = .ok (.istore 5, 2) := by decide +kernel
theorem dX4_learnStep_8 : decode cX4_learnStep 8 = .ok (.aload_n 0, 1) := by decide +kernel
theorem dX4_learnStep_9 : decode cX4_learnStep 9 = .ok (.getfield 34, 3) := by decide +kernel
theorem dX4_learnStep_12 : decode cX4_learnStep 12 = .ok (.getfield 57, 3) := by decide +kernel
theorem dX4_learnStep_15 : decode cX4_learnStep 15 = .ok (.getfield 61, 3) := by decide +kernel
theorem dX4_learnStep_18 : decode cX4_learnStep 18 = .ok (.istore 6, 2) := by decide +kernel
theorem dX4_learnStep_20 : decode cX4_learnStep 20 = .ok (.aload_n 0, 1) := by decide +kernel
theorem dX4_learnStep_21 : decode cX4_learnStep 21 = .ok (.getfield 34, 3) := by decide +kernel
theorem dX4_learnStep_24 : decode cX4_learnStep 24 = .ok (.getfield 38, 3) := by decide +kernel
theorem dX4_learnStep_27 : decode cX4_learnStep 27 = .ok (.iload_n 2, 1) := by decide +kernel
theorem dX4_learnStep_28 : decode cX4_learnStep 28 = .ok (.iload_n 3, 1) := by decide +kernel
theorem dX4_learnStep_29 : decode cX4_learnStep 29 = .ok (.invokevirtual 66, 3) := by decide +kernel
theorem dX4_learnStep_32 : decode cX4_learnStep 32 = .ok (.istore 7, 2) := by decide +kernel
theorem dX4_learnStep_34 : decode cX4_learnStep 34 = .ok (.aload_n 0, 1) := by decide +kernel
theorem dX4_learnStep_35 : decode cX4_learnStep 35 = .ok (.getfield 15, 3) := by decide +kernel
theorem dX4_learnStep_38 : decode cX4_learnStep 38 = .ok (.iload 5, 2) := by decide +kernel
theorem dX4_learnStep_40 : decode cX4_learnStep 40 = .ok (.iconst 0, 1) := by decide +kernel
theorem dX4_learnStep_41 : decode cX4_learnStep 41 = .ok (.iastore, 1) := by decide +kernel
theorem dX4_learnStep_42 : decode cX4_learnStep 42 = .ok (.iconst 0, 1) := by decide +kernel
theorem dX4_learnStep_43 : decode cX4_learnStep 43 = .ok (.istore 8, 2) := by decide +kernel
theorem dX4_learnStep_45 : decode cX4_learnStep 45 = .ok (.iload 8, 2) := by decide +kernel
theorem dX4_learnStep_47 : decode cX4_learnStep 47 = .ok (.bipush 28, 2) := by decide +kernel
theorem dX4_learnStep_49 : decode cX4_learnStep 49 = .ok (.if_icmp .ge 133, 3) := by decide +kernel
theorem dX4_learnStep_52 : decode cX4_learnStep 52 = .ok (.iconst (-1), 1) := by decide +kernel
theorem dX4_learnStep_53 : decode cX4_learnStep 53 = .ok (.istore 9, 2) := by decide +kernel
theorem dX4_learnStep_55 : decode cX4_learnStep 55 = .ok (.iload 7, 2) := by decide +kernel
theorem dX4_learnStep_57 : decode cX4_learnStep 57 = .ok (.ifCond .eq 80, 3) := by decide +kernel
theorem dX4_learnStep_60 : decode cX4_learnStep 60 = .ok (.aload_n 0, 1) := by decide +kernel
theorem dX4_learnStep_61 : decode cX4_learnStep 61 = .ok (.getfield 34, 3) := by decide +kernel
theorem dX4_learnStep_64 : decode cX4_learnStep 64 = .ok (.getfield 38, 3) := by decide +kernel
theorem dX4_learnStep_67 : decode cX4_learnStep 67 = .ok (.getstatic 70, 3) := by decide +kernel
theorem dX4_learnStep_70 : decode cX4_learnStep 70 = .ok (.iload 8, 2) := by decide +kernel
theorem dX4_learnStep_72 : decode cX4_learnStep 72 = .ok (.iaload, 1) := by decide +kernel
theorem dX4_learnStep_73 : decode cX4_learnStep 73 = .ok (.invokevirtual 73, 3) := by decide +kernel
theorem dX4_learnStep_76 : decode cX4_learnStep 76 = .ok (.ifCond .eq 61, 3) := by decide +kernel
theorem dX4_learnStep_79 : decode cX4_learnStep 79 = .ok (.iload 4, 2) := by decide +kernel
theorem dX4_learnStep_81 : decode cX4_learnStep 81 = .ok (.ifCond .eq 30, 3) := by decide +kernel
theorem dX4_learnStep_84 : decode cX4_learnStep 84 = .ok (.aload_n 0, 1) := by decide +kernel
theorem dX4_learnStep_85 : decode cX4_learnStep 85 = .ok (.getfield 34, 3) := by decide +kernel
theorem dX4_learnStep_88 : decode cX4_learnStep 88 = .ok (.getstatic 77, 3) := by decide +kernel
theorem dX4_learnStep_91 : decode cX4_learnStep 91 = .ok (.iload 8, 2) := by decide +kernel
theorem dX4_learnStep_93 : decode cX4_learnStep 93 = .ok (.iaload, 1) := by decide +kernel
theorem dX4_learnStep_94 : decode cX4_learnStep 94 = .ok (.getstatic 70, 3) := by decide +kernel
theorem dX4_learnStep_97 : decode cX4_learnStep 97 = .ok (.iload 8, 2) := by decide +kernel
theorem dX4_learnStep_99 : decode cX4_learnStep 99 = .ok (.iaload, 1) := by decide +kernel
theorem dX4_learnStep_100 : decode cX4_learnStep 100 = .ok (.iload_n 1, 1) := by decide +kernel
theorem dX4_learnStep_101 : decode cX4_learnStep 101 = .ok (.iload_n 2, 1) := by decide +kernel
theorem dX4_learnStep_102 : decode cX4_learnStep 102 = .ok (.iload_n 3, 1) := by decide +kernel
theorem dX4_learnStep_103 : decode cX4_learnStep 103 = .ok (.iload 6, 2) := by decide +kernel
theorem dX4_learnStep_105 : decode cX4_learnStep 105 = .ok (.invokevirtual 80, 3) := by decide +kernel
theorem dX4_learnStep_108 : decode cX4_learnStep 108 = .ok (.goto 27, 3) := by decide +kernel
theorem dX4_learnStep_111 : decode cX4_learnStep 111 = .ok (.aload_n 0, 1) := by decide +kernel
theorem dX4_learnStep_112 : decode cX4_learnStep 112 = .ok (.getfield 34, 3) := by decide +kernel
theorem dX4_learnStep_115 : decode cX4_learnStep 115 = .ok (.getstatic 77, 3) := by decide +kernel
theorem dX4_learnStep_118 : decode cX4_learnStep 118 = .ok (.iload 8, 2) := by decide +kernel
theorem dX4_learnStep_120 : decode cX4_learnStep 120 = .ok (.iaload, 1) := by decide +kernel
theorem dX4_learnStep_121 : decode cX4_learnStep 121 = .ok (.getstatic 70, 3) := by decide +kernel
theorem dX4_learnStep_124 : decode cX4_learnStep 124 = .ok (.iload 8, 2) := by decide +kernel
theorem dX4_learnStep_126 : decode cX4_learnStep 126 = .ok (.iaload, 1) := by decide +kernel
theorem dX4_learnStep_127 : decode cX4_learnStep 127 = .ok (.iload_n 1, 1) := by decide +kernel
theorem dX4_learnStep_128 : decode cX4_learnStep 128 = .ok (.iload_n 2, 1) := by decide +kernel
theorem dX4_learnStep_129 : decode cX4_learnStep 129 = .ok (.iload_n 3, 1) := by decide +kernel
theorem dX4_learnStep_130 : decode cX4_learnStep 130 = .ok (.iload 6, 2) := by decide +kernel
theorem dX4_learnStep_132 : decode cX4_learnStep 132 = .ok (.invokevirtual 84, 3) := by decide +kernel
theorem dX4_learnStep_135 : decode cX4_learnStep 135 = .ok (.istore 9, 2) := by decide +kernel
theorem dX4_learnStep_137 : decode cX4_learnStep 137 = .ok (.aload_n 0, 1) := by decide +kernel
theorem dX4_learnStep_138 : decode cX4_learnStep 138 = .ok (.getfield 9, 3) := by decide +kernel
theorem dX4_learnStep_141 : decode cX4_learnStep 141 = .ok (.iload 5, 2) := by decide +kernel
theorem dX4_learnStep_143 : decode cX4_learnStep 143 = .ok (.bipush 28, 2) := by decide +kernel
theorem dX4_learnStep_145 : decode cX4_learnStep 145 = .ok (.imul, 1) := by decide +kernel
theorem dX4_learnStep_146 : decode cX4_learnStep 146 = .ok (.iload 8, 2) := by decide +kernel
theorem dX4_learnStep_148 : decode cX4_learnStep 148 = .ok (.iadd, 1) := by decide +kernel
theorem dX4_learnStep_149 : decode cX4_learnStep 149 = .ok (.iconst (-1), 1) := by decide +kernel
theorem dX4_learnStep_150 : decode cX4_learnStep 150 = .ok (.iload 9, 2) := by decide +kernel
theorem dX4_learnStep_152 : decode cX4_learnStep 152 = .ok (.invokestatic 87, 3) := by decide +kernel
theorem dX4_learnStep_155 : decode cX4_learnStep 155 = .ok (.iastore, 1) := by decide +kernel
theorem dX4_learnStep_156 : decode cX4_learnStep 156 = .ok (.aload_n 0, 1) := by decide +kernel
theorem dX4_learnStep_157 : decode cX4_learnStep 157 = .ok (.getfield 15, 3) := by decide +kernel
theorem dX4_learnStep_160 : decode cX4_learnStep 160 = .ok (.iload 5, 2) := by decide +kernel
theorem dX4_learnStep_162 : decode cX4_learnStep 162 = .ok (.dup2, 1) := by decide +kernel
theorem dX4_learnStep_163 : decode cX4_learnStep 163 = .ok (.iaload, 1) := by decide +kernel
theorem dX4_learnStep_164 : decode cX4_learnStep 164 = .ok (.iload 9, 2) := by decide +kernel
theorem dX4_learnStep_166 : decode cX4_learnStep 166 = .ok (.ifCond .ge 7, 3) := by decide +kernel
theorem dX4_learnStep_169 : decode cX4_learnStep 169 = .ok (.iconst 0, 1) := by decide +kernel
theorem dX4_learnStep_170 : decode cX4_learnStep 170 = .ok (.goto 4, 3) := by decide +kernel
theorem dX4_learnStep_173 : decode cX4_learnStep 173 = .ok (.iconst 1, 1) := by decide +kernel
theorem dX4_learnStep_174 : decode cX4_learnStep 174 = .ok (.iadd, 1) := by decide +kernel
theorem dX4_learnStep_175 : decode cX4_learnStep 175 = .ok (.iastore, 1) := by decide +kernel
theorem dX4_learnStep_176 : decode cX4_learnStep 176 = .ok (.iinc 8 1, 3) := by decide +kernel
theorem dX4_learnStep_179 : decode cX4_learnStep 179 = .ok (.goto (-134), 3) := by decide +kernel
theorem dX4_learnStep_182 : decode cX4_learnStep 182 = .ok (.return_, 1) := by decide +kernel
theorem dX4_wearOf_0 : decode cX4_wearOf 0 = .ok (.aload_n 0, 1) := by decide +kernel
theorem dX4_wearOf_1 : decode cX4_wearOf 1 = .ok (.getfield 9, 3) := by decide +kernel
theorem dX4_wearOf_4 : decode cX4_wearOf 4 = .ok (.iload_n 1, 1) := by decide +kernel
theorem dX4_wearOf_5 : decode cX4_wearOf 5 = .ok (.bipush 6, 2) := by decide +kernel
theorem dX4_wearOf_7 : decode cX4_wearOf 7 = .ok (.imul, 1) := by decide +kernel
theorem dX4_wearOf_8 : decode cX4_wearOf 8 = .ok (.iload_n 2, 1) := by decide +kernel
theorem dX4_wearOf_9 : decode cX4_wearOf 9 = .ok (.iadd, 1) := by decide +kernel
theorem dX4_wearOf_10 : decode cX4_wearOf 10 = .ok (.bipush 28, 2) := by decide +kernel
theorem dX4_wearOf_12 : decode cX4_wearOf 12 = .ok (.imul, 1) := by decide +kernel
theorem dX4_wearOf_13 : decode cX4_wearOf 13 = .ok (.iload_n 3, 1) := by decide +kernel
theorem dX4_wearOf_14 : decode cX4_wearOf 14 = .ok (.iadd, 1) := by decide +kernel
theorem dX4_wearOf_15 : decode cX4_wearOf 15 = .ok (.iaload, 1) := by decide +kernel
theorem dX4_wearOf_16 : decode cX4_wearOf 16 = .ok (.ireturn, 1) := by decide +kernel
theorem dX4_canGo_0 : decode cX4_canGo 0 = .ok (.aload_n 0, 1) := by decide +kernel
theorem dX4_canGo_1 : decode cX4_canGo 1 = .ok (.getfield 15, 3) := by decide +kernel
theorem dX4_canGo_4 : decode cX4_canGo 4 = .ok (.iload_n 1, 1) := by decide +kernel
theorem dX4_canGo_5 : decode cX4_canGo 5 = .ok (.bipush 6, 2) := by decide +kernel
theorem dX4_canGo_7 : decode cX4_canGo 7 = .ok (.imul, 1) := by decide +kernel
theorem dX4_canGo_8 : decode cX4_canGo 8 = .ok (.iload_n 2, 1) := by decide +kernel
theorem dX4_canGo_9 : decode cX4_canGo 9 = .ok (.iadd, 1) := by decide +kernel
theorem dX4_canGo_10 : decode cX4_canGo 10 = .ok (.iaload, 1) := by decide +kernel
theorem dX4_canGo_11 : decode cX4_canGo 11 = .ok (.ifCond .le 7, 3) := by decide +kernel
theorem dX4_canGo_14 : decode cX4_canGo 14 = .ok (.iconst 1, 1) := by decide +kernel
theorem dX4_canGo_15 : decode cX4_canGo 15 = .ok (.goto 4, 3) := by decide +kernel
theorem dX4_canGo_18 : decode cX4_canGo 18 = .ok (.iconst 0, 1) := by decide +kernel
theorem dX4_canGo_19 : decode cX4_canGo 19 = .ok (.ireturn, 1) := by decide +kernel
theorem dX4_measureTo_0 : decode cX4_measureTo 0 = .ok (.aload_n 0, 1) := by decide +kernel
theorem dX4_measureTo_1 : decode cX4_measureTo 1 = .ok (.getfield 18, 3) := by decide +kernel
theorem dX4_measureTo_4 : decode cX4_measureTo 4 = .ok (.iconst (-1), 1) := by decide +kernel
theorem dX4_measureTo_5 : decode cX4_measureTo 5 = .ok (.invokestatic 93, 3) := by decide +kernel
theorem dX4_measureTo_8 : decode cX4_measureTo 8 = .ok (.aload_n 0, 1) := by decide +kernel
theorem dX4_measureTo_9 : decode cX4_measureTo 9 = .ok (.getfield 18, 3) := by decide +kernel
theorem dX4_measureTo_12 : decode cX4_measureTo 12 = .ok (.iload_n 1, 1) := by decide +kernel
theorem dX4_measureTo_13 : decode cX4_measureTo 13 = .ok (.iconst 0, 1) := by decide +kernel
theorem dX4_measureTo_14 : decode cX4_measureTo 14 = .ok (.iastore, 1) := by decide +kernel
theorem dX4_measureTo_15 : decode cX4_measureTo 15 = .ok (.iconst 1, 1) := by decide +kernel
theorem dX4_measureTo_16 : decode cX4_measureTo 16 = .ok (.istore_n 2, 1) := by decide +kernel
theorem dX4_measureTo_17 : decode cX4_measureTo 17 = .ok (.iload_n 2, 1) := by decide +kernel
theorem dX4_measureTo_18 : decode cX4_measureTo 18 = .ok (.aload_n 0, 1) := by decide +kernel
theorem dX4_measureTo_19 : decode cX4_measureTo 19 = .ok (.invokevirtual 50, 3) := by decide +kernel
theorem dX4_measureTo_22 : decode cX4_measureTo 22 = .ok (.if_icmp .ge 53, 3) := by decide +kernel
theorem dX4_measureTo_25 : decode cX4_measureTo 25 = .ok (.iconst 0, 1) := by decide +kernel
theorem dX4_measureTo_26 : decode cX4_measureTo 26 = .ok (.istore_n 3, 1) := by decide +kernel
theorem dX4_measureTo_27 : decode cX4_measureTo 27 = .ok (.iload_n 3, 1) := by decide +kernel
theorem dX4_measureTo_28 : decode cX4_measureTo 28 = .ok (.aload_n 0, 1) := by decide +kernel
theorem dX4_measureTo_29 : decode cX4_measureTo 29 = .ok (.invokevirtual 50, 3) := by decide +kernel
theorem dX4_measureTo_32 : decode cX4_measureTo 32 = .ok (.if_icmp .ge 37, 3) := by decide +kernel
theorem dX4_measureTo_35 : decode cX4_measureTo 35 = .ok (.aload_n 0, 1) := by decide +kernel
theorem dX4_measureTo_36 : decode cX4_measureTo 36 = .ok (.getfield 18, 3) := by decide +kernel
theorem dX4_measureTo_39 : decode cX4_measureTo 39 = .ok (.iload_n 3, 1) := by decide +kernel
theorem dX4_measureTo_40 : decode cX4_measureTo 40 = .ok (.iaload, 1) := by decide +kernel
theorem dX4_measureTo_41 : decode cX4_measureTo 41 = .ok (.iconst (-1), 1) := by decide +kernel
theorem dX4_measureTo_42 : decode cX4_measureTo 42 = .ok (.if_icmp .ne 21, 3) := by decide +kernel
theorem dX4_measureTo_45 : decode cX4_measureTo 45 = .ok (.aload_n 0, 1) := by decide +kernel
theorem dX4_measureTo_46 : decode cX4_measureTo 46 = .ok (.iload_n 3, 1) := by decide +kernel
theorem dX4_measureTo_47 : decode cX4_measureTo 47 = .ok (.iload_n 2, 1) := by decide +kernel
theorem dX4_measureTo_48 : decode cX4_measureTo 48 = .ok (.iconst 1, 1) := by decide +kernel
theorem dX4_measureTo_49 : decode cX4_measureTo 49 = .ok (.isub, 1) := by decide +kernel
theorem dX4_measureTo_50 : decode cX4_measureTo 50 = .ok (.invokevirtual 99, 3) := by decide +kernel
theorem dX4_measureTo_53 : decode cX4_measureTo 53 = .ok (.ifCond .eq 10, 3) := by decide +kernel
theorem dX4_measureTo_56 : decode cX4_measureTo 56 = .ok (.aload_n 0, 1) := by decide +kernel
theorem dX4_measureTo_57 : decode cX4_measureTo 57 = .ok (.getfield 18, 3) := by decide +kernel
theorem dX4_measureTo_60 : decode cX4_measureTo 60 = .ok (.iload_n 3, 1) := by decide +kernel
theorem dX4_measureTo_61 : decode cX4_measureTo 61 = .ok (.iload_n 2, 1) := by decide +kernel
theorem dX4_measureTo_62 : decode cX4_measureTo 62 = .ok (.iastore, 1) := by decide +kernel
theorem dX4_measureTo_63 : decode cX4_measureTo 63 = .ok (.iinc 3 1, 3) := by decide +kernel
theorem dX4_measureTo_66 : decode cX4_measureTo 66 = .ok (.goto (-39), 3) := by decide +kernel
theorem dX4_measureTo_69 : decode cX4_measureTo 69 = .ok (.iinc 2 1, 3) := by decide +kernel
theorem dX4_measureTo_72 : decode cX4_measureTo 72 = .ok (.goto (-55), 3) := by decide +kernel
theorem dX4_measureTo_75 : decode cX4_measureTo 75 = .ok (.return_, 1) := by decide +kernel
theorem dX4_stepsOnTo_0 : decode cX4_stepsOnTo 0 = .ok (.iconst 0, 1) := by decide +kernel
theorem dX4_stepsOnTo_1 : decode cX4_stepsOnTo 1 = .ok (.istore_n 3, 1) := by decide +kernel
theorem dX4_stepsOnTo_2 : decode cX4_stepsOnTo 2 = .ok (.iload_n 3, 1) := by decide +kernel
theorem dX4_stepsOnTo_3 : decode cX4_stepsOnTo 3 = .ok (.aload_n 0, 1) := by decide +kernel
theorem dX4_stepsOnTo_4 : decode cX4_stepsOnTo 4 = .ok (.invokevirtual 50, 3) := by decide +kernel
theorem dX4_stepsOnTo_7 : decode cX4_stepsOnTo 7 = .ok (.if_icmp .ge 30, 3) := by decide +kernel
theorem dX4_stepsOnTo_10 : decode cX4_stepsOnTo 10 = .ok (.aload_n 0, 1) := by decide +kernel
theorem dX4_stepsOnTo_11 : decode cX4_stepsOnTo 11 = .ok (.getfield 18, 3) := by decide +kernel
theorem dX4_stepsOnTo_14 : decode cX4_stepsOnTo 14 = .ok (.iload_n 3, 1) := by decide +kernel
theorem dX4_stepsOnTo_15 : decode cX4_stepsOnTo 15 = .ok (.iaload, 1) := by decide +kernel
theorem dX4_stepsOnTo_16 : decode cX4_stepsOnTo 16 = .ok (.iload_n 2, 1) := by decide +kernel
theorem dX4_stepsOnTo_17 : decode cX4_stepsOnTo 17 = .ok (.if_icmp .ne 14, 3) := by decide +kernel
theorem dX4_stepsOnTo_20 : decode cX4_stepsOnTo 20 = .ok (.aload_n 0, 1) := by decide +kernel
theorem dX4_stepsOnTo_21 : decode cX4_stepsOnTo 21 = .ok (.iload_n 1, 1) := by decide +kernel
theorem dX4_stepsOnTo_22 : decode cX4_stepsOnTo 22 = .ok (.iload_n 3, 1) := by decide +kernel
theorem dX4_stepsOnTo_23 : decode cX4_stepsOnTo 23 = .ok (.invokevirtual 102, 3) := by decide +kernel
theorem dX4_stepsOnTo_26 : decode cX4_stepsOnTo 26 = .ok (.ifCond .eq 5, 3) := by decide +kernel
theorem dX4_stepsOnTo_29 : decode cX4_stepsOnTo 29 = .ok (.iconst 1, 1) := by decide +kernel
theorem dX4_stepsOnTo_30 : decode cX4_stepsOnTo 30 = .ok (.ireturn, 1) := by decide +kernel
theorem dX4_stepsOnTo_31 : decode cX4_stepsOnTo 31 = .ok (.iinc 3 1, 3) := by decide +kernel
theorem dX4_stepsOnTo_34 : decode cX4_stepsOnTo 34 = .ok (.goto (-32), 3) := by decide +kernel
theorem dX4_stepsOnTo_37 : decode cX4_stepsOnTo 37 = .ok (.iconst 0, 1) := by decide +kernel
theorem dX4_stepsOnTo_38 : decode cX4_stepsOnTo 38 = .ok (.ireturn, 1) := by decide +kernel
theorem dX4_firstDeed_0 : decode cX4_firstDeed 0 = .ok (.iconst 0, 1) := by decide +kernel
theorem dX4_firstDeed_1 : decode cX4_firstDeed 1 = .ok (.istore_n 3, 1) := by decide +kernel
theorem dX4_firstDeed_2 : decode cX4_firstDeed 2 = .ok (.iload_n 3, 1) := by decide +kernel
theorem dX4_firstDeed_3 : decode cX4_firstDeed 3 = .ok (.bipush 28, 2) := by decide +kernel
theorem dX4_firstDeed_5 : decode cX4_firstDeed 5 = .ok (.if_icmp .ge 83, 3) := by decide +kernel
theorem dX4_firstDeed_8 : decode cX4_firstDeed 8 = .ok (.iconst 0, 1) := by decide +kernel
theorem dX4_firstDeed_9 : decode cX4_firstDeed 9 = .ok (.istore 4, 2) := by decide +kernel
theorem dX4_firstDeed_11 : decode cX4_firstDeed 11 = .ok (.iload 4, 2) := by decide +kernel
theorem dX4_firstDeed_13 : decode cX4_firstDeed 13 = .ok (.aload_n 0, 1) := by decide +kernel
theorem dX4_firstDeed_14 : decode cX4_firstDeed 14 = .ok (.invokevirtual 50, 3) := by decide +kernel
theorem dX4_firstDeed_17 : decode cX4_firstDeed 17 = .ok (.if_icmp .ge 65, 3) := by decide +kernel
theorem dX4_firstDeed_20 : decode cX4_firstDeed 20 = .ok (.aload_n 0, 1) := by decide +kernel
theorem dX4_firstDeed_21 : decode cX4_firstDeed 21 = .ok (.iload_n 2, 1) := by decide +kernel
theorem dX4_firstDeed_22 : decode cX4_firstDeed 22 = .ok (.iload 4, 2) := by decide +kernel
theorem dX4_firstDeed_24 : decode cX4_firstDeed 24 = .ok (.iload_n 3, 1) := by decide +kernel
theorem dX4_firstDeed_25 : decode cX4_firstDeed 25 = .ok (.invokevirtual 105, 3) := by decide +kernel
theorem dX4_firstDeed_28 : decode cX4_firstDeed 28 = .ok (.iconst (-1), 1) := by decide +kernel
theorem dX4_firstDeed_29 : decode cX4_firstDeed 29 = .ok (.if_icmp .eq 47, 3) := by decide +kernel
theorem dX4_firstDeed_32 : decode cX4_firstDeed 32 = .ok (.aload_n 0, 1) := by decide +kernel
theorem dX4_firstDeed_33 : decode cX4_firstDeed 33 = .ok (.getfield 18, 3) := by decide +kernel
theorem dX4_firstDeed_36 : decode cX4_firstDeed 36 = .ok (.iload 4, 2) := by decide +kernel
theorem dX4_firstDeed_38 : decode cX4_firstDeed 38 = .ok (.iaload, 1) := by decide +kernel
theorem dX4_firstDeed_39 : decode cX4_firstDeed 39 = .ok (.iconst (-1), 1) := by decide +kernel
theorem dX4_firstDeed_40 : decode cX4_firstDeed 40 = .ok (.if_icmp .eq 36, 3) := by decide +kernel
theorem dX4_firstDeed_43 : decode cX4_firstDeed 43 = .ok (.aload_n 0, 1) := by decide +kernel
theorem dX4_firstDeed_44 : decode cX4_firstDeed 44 = .ok (.getfield 18, 3) := by decide +kernel
theorem dX4_firstDeed_47 : decode cX4_firstDeed 47 = .ok (.iload 4, 2) := by decide +kernel
theorem dX4_firstDeed_49 : decode cX4_firstDeed 49 = .ok (.iaload, 1) := by decide +kernel
theorem dX4_firstDeed_50 : decode cX4_firstDeed 50 = .ok (.aload_n 0, 1) := by decide +kernel
theorem dX4_firstDeed_51 : decode cX4_firstDeed 51 = .ok (.getfield 18, 3) := by decide +kernel
theorem dX4_firstDeed_54 : decode cX4_firstDeed 54 = .ok (.iload_n 2, 1) := by decide +kernel
theorem dX4_firstDeed_55 : decode cX4_firstDeed 55 = .ok (.iaload, 1) := by decide +kernel
theorem dX4_firstDeed_56 : decode cX4_firstDeed 56 = .ok (.if_icmp .ge 20, 3) := by decide +kernel
theorem dX4_firstDeed_59 : decode cX4_firstDeed 59 = .ok (.getstatic 77, 3) := by decide +kernel
theorem dX4_firstDeed_62 : decode cX4_firstDeed 62 = .ok (.iload_n 3, 1) := by decide +kernel
theorem dX4_firstDeed_63 : decode cX4_firstDeed 63 = .ok (.iaload, 1) := by decide +kernel
theorem dX4_firstDeed_64 : decode cX4_firstDeed 64 = .ok (.getstatic 70, 3) := by decide +kernel
theorem dX4_firstDeed_67 : decode cX4_firstDeed 67 = .ok (.iload_n 3, 1) := by decide +kernel
theorem dX4_firstDeed_68 : decode cX4_firstDeed 68 = .ok (.iaload, 1) := by decide +kernel
theorem dX4_firstDeed_69 : decode cX4_firstDeed 69 = .ok (.iload_n 1, 1) := by decide +kernel
theorem dX4_firstDeed_70 : decode cX4_firstDeed 70 = .ok (.iload 4, 2) := by decide +kernel
theorem dX4_firstDeed_72 : decode cX4_firstDeed 72 = .ok (.invokestatic 109, 3) := by decide +kernel
theorem dX4_firstDeed_75 : decode cX4_firstDeed 75 = .ok (.ireturn, 1) := by decide +kernel
theorem dX4_firstDeed_76 : decode cX4_firstDeed 76 = .ok (.iinc 4 1, 3) := by decide +kernel
theorem dX4_firstDeed_79 : decode cX4_firstDeed 79 = .ok (.goto (-68), 3) := by decide +kernel
theorem dX4_firstDeed_82 : decode cX4_firstDeed 82 = .ok (.iinc 3 1, 3) := by decide +kernel
theorem dX4_firstDeed_85 : decode cX4_firstDeed 85 = .ok (.goto (-83), 3) := by decide +kernel
theorem dX4_firstDeed_88 : decode cX4_firstDeed 88 = .ok (.sipush 10000, 3) := by decide +kernel
theorem dX4_firstDeed_91 : decode cX4_firstDeed 91 = .ok (.iload_n 2, 1) := by decide +kernel
theorem dX4_firstDeed_92 : decode cX4_firstDeed 92 = .ok (.iadd, 1) := by decide +kernel
theorem dX4_firstDeed_93 : decode cX4_firstDeed 93 = .ok (.ireturn, 1) := by decide +kernel
theorem dX4_rowsOf_0 : decode cX4_rowsOf 0 = .ok (.aload_n 0, 1) := by decide +kernel
theorem dX4_rowsOf_1 : decode cX4_rowsOf 1 = .ok (.getfield 21, 3) := by decide +kernel
theorem dX4_rowsOf_4 : decode cX4_rowsOf 4 = .ok (.lconst 0, 1) := by decide +kernel
theorem dX4_rowsOf_5 : decode cX4_rowsOf 5 = .ok (.invokestatic 113, 3) := by decide +kernel
theorem dX4_rowsOf_8 : decode cX4_rowsOf 8 = .ok (.aload_n 0, 1) := by decide +kernel
theorem dX4_rowsOf_9 : decode cX4_rowsOf 9 = .ok (.getfield 21, 3) := by decide +kernel
theorem dX4_rowsOf_12 : decode cX4_rowsOf 12 = .ok (.iload_n 1, 1) := by decide +kernel
theorem dX4_rowsOf_13 : decode cX4_rowsOf 13 = .ok (.lconst 1, 1) := by decide +kernel
theorem dX4_rowsOf_14 : decode cX4_rowsOf 14 = .ok (.lastore, 1) := by decide +kernel
theorem dX4_rowsOf_15 : decode cX4_rowsOf 15 = .ok (.iconst 0, 1) := by decide +kernel
theorem dX4_rowsOf_16 : decode cX4_rowsOf 16 = .ok (.istore 4, 2) := by decide +kernel
theorem dX4_rowsOf_18 : decode cX4_rowsOf 18 = .ok (.iload 4, 2) := by decide +kernel
theorem dX4_rowsOf_20 : decode cX4_rowsOf 20 = .ok (.iload_n 3, 1) := by decide +kernel
theorem dX4_rowsOf_21 : decode cX4_rowsOf 21 = .ok (.if_icmp .ge 100, 3) := by decide +kernel
theorem dX4_rowsOf_24 : decode cX4_rowsOf 24 = .ok (.aload_n 0, 1) := by decide +kernel
theorem dX4_rowsOf_25 : decode cX4_rowsOf 25 = .ok (.getfield 25, 3) := by decide +kernel
theorem dX4_rowsOf_28 : decode cX4_rowsOf 28 = .ok (.lconst 0, 1) := by decide +kernel
theorem dX4_rowsOf_29 : decode cX4_rowsOf 29 = .ok (.invokestatic 113, 3) := by decide +kernel
theorem dX4_rowsOf_32 : decode cX4_rowsOf 32 = .ok (.iconst 0, 1) := by decide +kernel
theorem dX4_rowsOf_33 : decode cX4_rowsOf 33 = .ok (.istore 5, 2) := by decide +kernel
theorem dX4_rowsOf_35 : decode cX4_rowsOf 35 = .ok (.iload 5, 2) := by decide +kernel
theorem dX4_rowsOf_37 : decode cX4_rowsOf 37 = .ok (.aload_n 0, 1) := by decide +kernel
theorem dX4_rowsOf_38 : decode cX4_rowsOf 38 = .ok (.invokevirtual 50, 3) := by decide +kernel
theorem dX4_rowsOf_41 : decode cX4_rowsOf 41 = .ok (.if_icmp .ge 59, 3) := by decide +kernel
theorem dX4_rowsOf_44 : decode cX4_rowsOf 44 = .ok (.iconst 0, 1) := by decide +kernel
theorem dX4_rowsOf_45 : decode cX4_rowsOf 45 = .ok (.istore 6, 2) := by decide +kernel
theorem dX4_rowsOf_47 : decode cX4_rowsOf 47 = .ok (.iload 6, 2) := by decide +kernel
theorem dX4_rowsOf_49 : decode cX4_rowsOf 49 = .ok (.aload_n 0, 1) := by decide +kernel
theorem dX4_rowsOf_50 : decode cX4_rowsOf 50 = .ok (.invokevirtual 50, 3) := by decide +kernel
theorem dX4_rowsOf_53 : decode cX4_rowsOf 53 = .ok (.if_icmp .ge 41, 3) := by decide +kernel
theorem dX4_rowsOf_56 : decode cX4_rowsOf 56 = .ok (.aload_n 0, 1) := by decide +kernel
theorem dX4_rowsOf_57 : decode cX4_rowsOf 57 = .ok (.getfield 25, 3) := by decide +kernel
theorem dX4_rowsOf_60 : decode cX4_rowsOf 60 = .ok (.iload 6, 2) := by decide +kernel
theorem dX4_rowsOf_62 : decode cX4_rowsOf 62 = .ok (.dup2, 1) := by decide +kernel
theorem dX4_rowsOf_63 : decode cX4_rowsOf 63 = .ok (.laload, 1) := by decide +kernel
theorem dX4_rowsOf_64 : decode cX4_rowsOf 64 = .ok (.aload_n 0, 1) := by decide +kernel
theorem dX4_rowsOf_65 : decode cX4_rowsOf 65 = .ok (.getfield 21, 3) := by decide +kernel
theorem dX4_rowsOf_68 : decode cX4_rowsOf 68 = .ok (.iload 5, 2) := by decide +kernel
theorem dX4_rowsOf_70 : decode cX4_rowsOf 70 = .ok (.laload, 1) := by decide +kernel
theorem dX4_rowsOf_71 : decode cX4_rowsOf 71 = .ok (.aload_n 0, 1) := by decide +kernel
theorem dX4_rowsOf_72 : decode cX4_rowsOf 72 = .ok (.getfield 15, 3) := by decide +kernel
theorem dX4_rowsOf_75 : decode cX4_rowsOf 75 = .ok (.iload 5, 2) := by decide +kernel
theorem dX4_rowsOf_77 : decode cX4_rowsOf 77 = .ok (.bipush 6, 2) := by decide +kernel
theorem dX4_rowsOf_79 : decode cX4_rowsOf 79 = .ok (.imul, 1) := by decide +kernel
theorem dX4_rowsOf_80 : decode cX4_rowsOf 80 = .ok (.iload 6, 2) := by decide +kernel
theorem dX4_rowsOf_82 : decode cX4_rowsOf 82 = .ok (.iadd, 1) := by decide +kernel
theorem dX4_rowsOf_83 : decode cX4_rowsOf 83 = .ok (.iaload, 1) := by decide +kernel
theorem dX4_rowsOf_84 : decode cX4_rowsOf 84 = .ok (.i2l, 1) := by decide +kernel
theorem dX4_rowsOf_85 : decode cX4_rowsOf 85 = .ok (.lmul, 1) := by decide +kernel
theorem dX4_rowsOf_86 : decode cX4_rowsOf 86 = .ok (.ladd, 1) := by decide +kernel
theorem dX4_rowsOf_87 : decode cX4_rowsOf 87 = .ok (.lastore, 1) := by decide +kernel
theorem dX4_rowsOf_88 : decode cX4_rowsOf 88 = .ok (.iinc 6 1, 3) := by decide +kernel
theorem dX4_rowsOf_91 : decode cX4_rowsOf 91 = .ok (.goto (-44), 3) := by decide +kernel
theorem dX4_rowsOf_94 : decode cX4_rowsOf 94 = .ok (.iinc 5 1, 3) := by decide +kernel
theorem dX4_rowsOf_97 : decode cX4_rowsOf 97 = .ok (.goto (-62), 3) := by decide +kernel
theorem dX4_rowsOf_100 : decode cX4_rowsOf 100 = .ok (.aload_n 0, 1) := by decide +kernel
theorem dX4_rowsOf_101 : decode cX4_rowsOf 101 = .ok (.getfield 25, 3) := by decide +kernel
theorem dX4_rowsOf_104 : decode cX4_rowsOf 104 = .ok (.iconst 0, 1) := by decide +kernel
theorem dX4_rowsOf_105 : decode cX4_rowsOf 105 = .ok (.aload_n 0, 1) := by decide +kernel
theorem dX4_rowsOf_106 : decode cX4_rowsOf 106 = .ok (.getfield 21, 3) := by decide +kernel
theorem dX4_rowsOf_109 : decode cX4_rowsOf 109 = .ok (.iconst 0, 1) := by decide +kernel
theorem dX4_rowsOf_110 : decode cX4_rowsOf 110 = .ok (.bipush 6, 2) := by decide +kernel
theorem dX4_rowsOf_112 : decode cX4_rowsOf 112 = .ok (.invokestatic 116, 3) := by decide +kernel
theorem dX4_rowsOf_115 : decode cX4_rowsOf 115 = .ok (.iinc 4 1, 3) := by decide +kernel
theorem dX4_rowsOf_118 : decode cX4_rowsOf 118 = .ok (.goto (-100), 3) := by decide +kernel
theorem dX4_rowsOf_121 : decode cX4_rowsOf 121 = .ok (.aload_n 0, 1) := by decide +kernel
theorem dX4_rowsOf_122 : decode cX4_rowsOf 122 = .ok (.getfield 21, 3) := by decide +kernel
theorem dX4_rowsOf_125 : decode cX4_rowsOf 125 = .ok (.iload_n 2, 1) := by decide +kernel
theorem dX4_rowsOf_126 : decode cX4_rowsOf 126 = .ok (.laload, 1) := by decide +kernel
theorem dX4_rowsOf_127 : decode cX4_rowsOf 127 = .ok (.lreturn, 1) := by decide +kernel
theorem dX4_reachedFrom_0 : decode cX4_reachedFrom 0 = .ok (.iconst 1, 1) := by decide +kernel
theorem dX4_reachedFrom_1 : decode cX4_reachedFrom 1 = .ok (.iload_n 1, 1) := by decide +kernel
theorem dX4_reachedFrom_2 : decode cX4_reachedFrom 2 = .ok (.ishl, 1) := by decide +kernel
theorem dX4_reachedFrom_3 : decode cX4_reachedFrom 3 = .ok (.istore_n 2, 1) := by decide +kernel
theorem dX4_reachedFrom_4 : decode cX4_reachedFrom 4 = .ok (.iconst 1, 1) := by decide +kernel
theorem dX4_reachedFrom_5 : decode cX4_reachedFrom 5 = .ok (.istore_n 3, 1) := by decide +kernel
theorem dX4_reachedFrom_6 : decode cX4_reachedFrom 6 = .ok (.iload_n 3, 1) := by decide +kernel
theorem dX4_reachedFrom_7 : decode cX4_reachedFrom 7 = .ok (.aload_n 0, 1) := by decide +kernel
theorem dX4_reachedFrom_8 : decode cX4_reachedFrom 8 = .ok (.invokevirtual 50, 3) := by decide +kernel
theorem dX4_reachedFrom_11 : decode cX4_reachedFrom 11 = .ok (.if_icmp .ge 45, 3) := by decide +kernel
theorem dX4_reachedFrom_14 : decode cX4_reachedFrom 14 = .ok (.iconst 0, 1) := by decide +kernel
theorem dX4_reachedFrom_15 : decode cX4_reachedFrom 15 = .ok (.istore 4, 2) := by decide +kernel
theorem dX4_reachedFrom_17 : decode cX4_reachedFrom 17 = .ok (.iload 4, 2) := by decide +kernel
theorem dX4_reachedFrom_19 : decode cX4_reachedFrom 19 = .ok (.aload_n 0, 1) := by decide +kernel
theorem dX4_reachedFrom_20 : decode cX4_reachedFrom 20 = .ok (.invokevirtual 50, 3) := by decide +kernel
theorem dX4_reachedFrom_23 : decode cX4_reachedFrom 23 = .ok (.if_icmp .ge 27, 3) := by decide +kernel
theorem dX4_reachedFrom_26 : decode cX4_reachedFrom 26 = .ok (.iload_n 2, 1) := by decide +kernel
theorem dX4_reachedFrom_27 : decode cX4_reachedFrom 27 = .ok (.iload 4, 2) := by decide +kernel
theorem dX4_reachedFrom_29 : decode cX4_reachedFrom 29 = .ok (.invokestatic 122, 3) := by decide +kernel
theorem dX4_reachedFrom_32 : decode cX4_reachedFrom 32 = .ok (.ifCond .eq 12, 3) := by decide +kernel
theorem dX4_reachedFrom_35 : decode cX4_reachedFrom 35 = .ok (.iload_n 2, 1) := by decide +kernel
theorem dX4_reachedFrom_36 : decode cX4_reachedFrom 36 = .ok (.aload_n 0, 1) := by decide +kernel
theorem dX4_reachedFrom_37 : decode cX4_reachedFrom 37 = .ok (.iload 4, 2) := by decide +kernel
theorem dX4_reachedFrom_39 : decode cX4_reachedFrom 39 = .ok (.invokevirtual 125, 3) := by decide +kernel
theorem dX4_reachedFrom_42 : decode cX4_reachedFrom 42 = .ok (.ior, 1) := by decide +kernel
theorem dX4_reachedFrom_43 : decode cX4_reachedFrom 43 = .ok (.istore_n 2, 1) := by decide +kernel
theorem dX4_reachedFrom_44 : decode cX4_reachedFrom 44 = .ok (.iinc 4 1, 3) := by decide +kernel
theorem dX4_reachedFrom_47 : decode cX4_reachedFrom 47 = .ok (.goto (-30), 3) := by decide +kernel
theorem dX4_reachedFrom_50 : decode cX4_reachedFrom 50 = .ok (.iinc 3 1, 3) := by decide +kernel
theorem dX4_reachedFrom_53 : decode cX4_reachedFrom 53 = .ok (.goto (-47), 3) := by decide +kernel
theorem dX4_reachedFrom_56 : decode cX4_reachedFrom 56 = .ok (.iload_n 2, 1) := by decide +kernel
theorem dX4_reachedFrom_57 : decode cX4_reachedFrom 57 = .ok (.ireturn, 1) := by decide +kernel
theorem dX4_placesNextTo_0 : decode cX4_placesNextTo 0 = .ok (.iconst 0, 1) := by decide +kernel
theorem dX4_placesNextTo_1 : decode cX4_placesNextTo 1 = .ok (.istore_n 2, 1) := by decide +kernel
theorem dX4_placesNextTo_2 : decode cX4_placesNextTo 2 = .ok (.iconst 0, 1) := by decide +kernel
theorem dX4_placesNextTo_3 : decode cX4_placesNextTo 3 = .ok (.istore_n 3, 1) := by decide +kernel
theorem dX4_placesNextTo_4 : decode cX4_placesNextTo 4 = .ok (.iload_n 3, 1) := by decide +kernel
theorem dX4_placesNextTo_5 : decode cX4_placesNextTo 5 = .ok (.aload_n 0, 1) := by decide +kernel
theorem dX4_placesNextTo_6 : decode cX4_placesNextTo 6 = .ok (.invokevirtual 50, 3) := by decide +kernel
theorem dX4_placesNextTo_9 : decode cX4_placesNextTo 9 = .ok (.if_icmp .ge 24, 3) := by decide +kernel
theorem dX4_placesNextTo_12 : decode cX4_placesNextTo 12 = .ok (.aload_n 0, 1) := by decide +kernel
theorem dX4_placesNextTo_13 : decode cX4_placesNextTo 13 = .ok (.iload_n 1, 1) := by decide +kernel
theorem dX4_placesNextTo_14 : decode cX4_placesNextTo 14 = .ok (.iload_n 3, 1) := by decide +kernel
theorem dX4_placesNextTo_15 : decode cX4_placesNextTo 15 = .ok (.invokevirtual 102, 3) := by decide +kernel
theorem dX4_placesNextTo_18 : decode cX4_placesNextTo 18 = .ok (.ifCond .eq 9, 3) := by decide +kernel
theorem dX4_placesNextTo_21 : decode cX4_placesNextTo 21 = .ok (.iload_n 2, 1) := by decide +kernel
theorem dX4_placesNextTo_22 : decode cX4_placesNextTo 22 = .ok (.iconst 1, 1) := by decide +kernel
theorem dX4_placesNextTo_23 : decode cX4_placesNextTo 23 = .ok (.iload_n 3, 1) := by decide +kernel
theorem dX4_placesNextTo_24 : decode cX4_placesNextTo 24 = .ok (.ishl, 1) := by decide +kernel
theorem dX4_placesNextTo_25 : decode cX4_placesNextTo 25 = .ok (.ior, 1) := by decide +kernel
theorem dX4_placesNextTo_26 : decode cX4_placesNextTo 26 = .ok (.istore_n 2, 1) := by decide +kernel
theorem dX4_placesNextTo_27 : decode cX4_placesNextTo 27 = .ok (.iinc 3 1, 3) := by decide +kernel
theorem dX4_placesNextTo_30 : decode cX4_placesNextTo 30 = .ok (.goto (-26), 3) := by decide +kernel
theorem dX4_placesNextTo_33 : decode cX4_placesNextTo 33 = .ok (.iload_n 2, 1) := by decide +kernel
theorem dX4_placesNextTo_34 : decode cX4_placesNextTo 34 = .ok (.ireturn, 1) := by decide +kernel
theorem dX4_learnPaying_0 : decode cX4_learnPaying 0 = .ok (.iconst 0, 1) := by decide +kernel
theorem dX4_learnPaying_1 : decode cX4_learnPaying 1 = .ok (.istore_n 2, 1) := by decide +kernel
theorem dX4_learnPaying_2 : decode cX4_learnPaying 2 = .ok (.iload_n 2, 1) := by decide +kernel
theorem dX4_learnPaying_3 : decode cX4_learnPaying 3 = .ok (.aload_n 0, 1) := by decide +kernel
theorem dX4_learnPaying_4 : decode cX4_learnPaying 4 = .ok (.getfield 34, 3) := by decide +kernel
theorem dX4_learnPaying_7 : decode cX4_learnPaying 7 = .ok (.getfield 38, 3) := by decide +kernel
theorem dX4_learnPaying_10 : decode cX4_learnPaying 10 = .ok (.getfield 129, 3) := by decide +kernel
theorem dX4_learnPaying_13 : decode cX4_learnPaying 13 = .ok (.if_icmp .ge 79, 3) := by decide +kernel
theorem dX4_learnPaying_16 : decode cX4_learnPaying 16 = .ok (.aload_n 0, 1) := by decide +kernel
theorem dX4_learnPaying_17 : decode cX4_learnPaying 17 = .ok (.getfield 34, 3) := by decide +kernel
theorem dX4_learnPaying_20 : decode cX4_learnPaying 20 = .ok (.getfield 57, 3) := by decide +kernel
theorem dX4_learnPaying_23 : decode cX4_learnPaying 23 = .ok (.getfield 132, 3) := by decide +kernel
theorem dX4_learnPaying_26 : decode cX4_learnPaying 26 = .ok (.iload_n 2, 1) := by decide +kernel
theorem dX4_learnPaying_27 : decode cX4_learnPaying 27 = .ok (.iaload, 1) := by decide +kernel
theorem dX4_learnPaying_28 : decode cX4_learnPaying 28 = .ok (.istore_n 3, 1) := by decide +kernel
theorem dX4_learnPaying_29 : decode cX4_learnPaying 29 = .ok (.aload_n 0, 1) := by decide +kernel
theorem dX4_learnPaying_30 : decode cX4_learnPaying 30 = .ok (.iload_n 2, 1) := by decide +kernel
theorem dX4_learnPaying_31 : decode cX4_learnPaying 31 = .ok (.iconst 0, 1) := by decide +kernel
theorem dX4_learnPaying_32 : decode cX4_learnPaying 32 = .ok (.invokevirtual 135, 3) := by decide +kernel
theorem dX4_learnPaying_35 : decode cX4_learnPaying 35 = .ok (.aload_n 0, 1) := by decide +kernel
theorem dX4_learnPaying_36 : decode cX4_learnPaying 36 = .ok (.iload_n 1, 1) := by decide +kernel
theorem dX4_learnPaying_37 : decode cX4_learnPaying 37 = .ok (.invokevirtual 139, 3) := by decide +kernel
theorem dX4_learnPaying_40 : decode cX4_learnPaying 40 = .ok (.aload_n 0, 1) := by decide +kernel
theorem dX4_learnPaying_41 : decode cX4_learnPaying 41 = .ok (.getfield 28, 3) := by decide +kernel
theorem dX4_learnPaying_44 : decode cX4_learnPaying 44 = .ok (.iload_n 2, 1) := by decide +kernel
theorem dX4_learnPaying_45 : decode cX4_learnPaying 45 = .ok (.aload_n 0, 1) := by decide +kernel
theorem dX4_learnPaying_46 : decode cX4_learnPaying 46 = .ok (.getfield 18, 3) := by decide +kernel
theorem dX4_learnPaying_49 : decode cX4_learnPaying 49 = .ok (.iload_n 3, 1) := by decide +kernel
theorem dX4_learnPaying_50 : decode cX4_learnPaying 50 = .ok (.iaload, 1) := by decide +kernel
theorem dX4_learnPaying_51 : decode cX4_learnPaying 51 = .ok (.iastore, 1) := by decide +kernel
theorem dX4_learnPaying_52 : decode cX4_learnPaying 52 = .ok (.iload_n 3, 1) := by decide +kernel
theorem dX4_learnPaying_53 : decode cX4_learnPaying 53 = .ok (.iload_n 1, 1) := by decide +kernel
theorem dX4_learnPaying_54 : decode cX4_learnPaying 54 = .ok (.if_icmp .eq 13, 3) := by decide +kernel
theorem dX4_learnPaying_57 : decode cX4_learnPaying 57 = .ok (.aload_n 0, 1) := by decide +kernel
theorem dX4_learnPaying_58 : decode cX4_learnPaying 58 = .ok (.getfield 31, 3) := by decide +kernel
theorem dX4_learnPaying_61 : decode cX4_learnPaying 61 = .ok (.iload_n 2, 1) := by decide +kernel
theorem dX4_learnPaying_62 : decode cX4_learnPaying 62 = .ok (.iconst 0, 1) := by decide +kernel
theorem dX4_learnPaying_63 : decode cX4_learnPaying 63 = .ok (.iastore, 1) := by decide +kernel
theorem dX4_learnPaying_64 : decode cX4_learnPaying 64 = .ok (.goto 22, 3) := by decide +kernel
theorem dX4_learnPaying_67 : decode cX4_learnPaying 67 = .ok (.aload_n 0, 1) := by decide +kernel
theorem dX4_learnPaying_68 : decode cX4_learnPaying 68 = .ok (.getfield 31, 3) := by decide +kernel
theorem dX4_learnPaying_71 : decode cX4_learnPaying 71 = .ok (.iload_n 2, 1) := by decide +kernel
theorem dX4_learnPaying_72 : decode cX4_learnPaying 72 = .ok (.aload_n 0, 1) := by decide +kernel
theorem dX4_learnPaying_73 : decode cX4_learnPaying 73 = .ok (.iload_n 1, 1) := by decide +kernel
theorem dX4_learnPaying_74 : decode cX4_learnPaying 74 = .ok (.invokevirtual 125, 3) := by decide +kernel
theorem dX4_learnPaying_77 : decode cX4_learnPaying 77 = .ok (.ifCond .eq 7, 3) := by decide +kernel
theorem dX4_learnPaying_80 : decode cX4_learnPaying 80 = .ok (.iconst 1, 1) := by decide +kernel
theorem dX4_learnPaying_81 : decode cX4_learnPaying 81 = .ok (.goto 4, 3) := by decide +kernel
theorem dX4_learnPaying_84 : decode cX4_learnPaying 84 = .ok (.iconst (-1), 1) := by decide +kernel
theorem dX4_learnPaying_85 : decode cX4_learnPaying 85 = .ok (.iastore, 1) := by decide +kernel
theorem dX4_learnPaying_86 : decode cX4_learnPaying 86 = .ok (.iinc 2 1, 3) := by decide +kernel
theorem dX4_learnPaying_89 : decode cX4_learnPaying 89 = .ok (.goto (-87), 3) := by decide +kernel
theorem dX4_learnPaying_92 : decode cX4_learnPaying 92 = .ok (.return_, 1) := by decide +kernel
theorem dX4_carryingsFor_0 : decode cX4_carryingsFor 0 = .ok (.iconst 0, 1) := by decide +kernel
theorem dX4_carryingsFor_1 : decode cX4_carryingsFor 1 = .ok (.istore_n 2, 1) := by decide +kernel
theorem dX4_carryingsFor_2 : decode cX4_carryingsFor 2 = .ok (.iconst 0, 1) := by decide +kernel
theorem dX4_carryingsFor_3 : decode cX4_carryingsFor 3 = .ok (.istore_n 3, 1) := by decide +kernel
theorem dX4_carryingsFor_4 : decode cX4_carryingsFor 4 = .ok (.iload_n 3, 1) := by decide +kernel
theorem dX4_carryingsFor_5 : decode cX4_carryingsFor 5 = .ok (.aload_n 0, 1) := by decide +kernel
theorem dX4_carryingsFor_6 : decode cX4_carryingsFor 6 = .ok (.getfield 34, 3) := by decide +kernel
theorem dX4_carryingsFor_9 : decode cX4_carryingsFor 9 = .ok (.getfield 38, 3) := by decide +kernel
theorem dX4_carryingsFor_12 : decode cX4_carryingsFor 12 = .ok (.getfield 129, 3) := by decide +kernel
theorem dX4_carryingsFor_15 : decode cX4_carryingsFor 15 = .ok (.if_icmp .ge 47, 3) := by decide +kernel
theorem dX4_carryingsFor_18 : decode cX4_carryingsFor 18 = .ok (.iload_n 1, 1) := by decide +kernel
theorem dX4_carryingsFor_19 : decode cX4_carryingsFor 19 = .ok (.iload_n 3, 1) := by decide +kernel
theorem dX4_carryingsFor_20 : decode cX4_carryingsFor 20 = .ok (.invokestatic 122, 3) := by decide +kernel
theorem dX4_carryingsFor_23 : decode cX4_carryingsFor 23 = .ok (.ifCond .eq 12, 3) := by decide +kernel
theorem dX4_carryingsFor_26 : decode cX4_carryingsFor 26 = .ok (.aload_n 0, 1) := by decide +kernel
theorem dX4_carryingsFor_27 : decode cX4_carryingsFor 27 = .ok (.getfield 28, 3) := by decide +kernel
theorem dX4_carryingsFor_30 : decode cX4_carryingsFor 30 = .ok (.iload_n 3, 1) := by decide +kernel
theorem dX4_carryingsFor_31 : decode cX4_carryingsFor 31 = .ok (.iaload, 1) := by decide +kernel
theorem dX4_carryingsFor_32 : decode cX4_carryingsFor 32 = .ok (.goto 9, 3) := by decide +kernel
theorem dX4_carryingsFor_35 : decode cX4_carryingsFor 35 = .ok (.aload_n 0, 1) := by decide +kernel
theorem dX4_carryingsFor_36 : decode cX4_carryingsFor 36 = .ok (.getfield 31, 3) := by decide +kernel
theorem dX4_carryingsFor_39 : decode cX4_carryingsFor 39 = .ok (.iload_n 3, 1) := by decide +kernel
theorem dX4_carryingsFor_40 : decode cX4_carryingsFor 40 = .ok (.iaload, 1) := by decide +kernel
theorem dX4_carryingsFor_41 : decode cX4_carryingsFor 41 = .ok (.istore 4, 2) := by decide +kernel
theorem dX4_carryingsFor_43 : decode cX4_carryingsFor 43 = .ok (.iload 4, 2) := by decide +kernel
theorem dX4_carryingsFor_45 : decode cX4_carryingsFor 45 = .ok (.iconst (-1), 1) := by decide +kernel
theorem dX4_carryingsFor_46 : decode cX4_carryingsFor 46 = .ok (.if_icmp .ne 5, 3) := by decide +kernel
theorem dX4_carryingsFor_49 : decode cX4_carryingsFor 49 = .ok (.iconst (-1), 1) := by decide +kernel
theorem dX4_carryingsFor_50 : decode cX4_carryingsFor 50 = .ok (.ireturn, 1) := by decide +kernel
theorem dX4_carryingsFor_51 : decode cX4_carryingsFor 51 = .ok (.iload_n 2, 1) := by decide +kernel
theorem dX4_carryingsFor_52 : decode cX4_carryingsFor 52 = .ok (.iload 4, 2) := by decide +kernel
theorem dX4_carryingsFor_54 : decode cX4_carryingsFor 54 = .ok (.iadd, 1) := by decide +kernel
theorem dX4_carryingsFor_55 : decode cX4_carryingsFor 55 = .ok (.istore_n 2, 1) := by decide +kernel
theorem dX4_carryingsFor_56 : decode cX4_carryingsFor 56 = .ok (.iinc 3 1, 3) := by decide +kernel
theorem dX4_carryingsFor_59 : decode cX4_carryingsFor 59 = .ok (.goto (-55), 3) := by decide +kernel
theorem dX4_carryingsFor_62 : decode cX4_carryingsFor 62 = .ok (.iload_n 2, 1) := by decide +kernel
theorem dX4_carryingsFor_63 : decode cX4_carryingsFor 63 = .ok (.ireturn, 1) := by decide +kernel
theorem dX4_leastPaying_0 : decode cX4_leastPaying 0 = .ok (.iconst (-1), 1) := by decide +kernel
theorem dX4_leastPaying_1 : decode cX4_leastPaying 1 = .ok (.istore_n 3, 1) := by decide +kernel
theorem dX4_leastPaying_2 : decode cX4_leastPaying 2 = .ok (.iconst 0, 1) := by decide +kernel
theorem dX4_leastPaying_3 : decode cX4_leastPaying 3 = .ok (.istore 4, 2) := by decide +kernel
theorem dX4_leastPaying_5 : decode cX4_leastPaying 5 = .ok (.iconst 0, 1) := by decide +kernel
theorem dX4_leastPaying_6 : decode cX4_leastPaying 6 = .ok (.istore 5, 2) := by decide +kernel
theorem dX4_leastPaying_8 : decode cX4_leastPaying 8 = .ok (.iload 5, 2) := by decide +kernel
theorem dX4_leastPaying_10 : decode cX4_leastPaying 10 = .ok (.iconst 1, 1) := by decide +kernel
theorem dX4_leastPaying_11 : decode cX4_leastPaying 11 = .ok (.aload_n 0, 1) := by decide +kernel
theorem dX4_leastPaying_12 : decode cX4_leastPaying 12 = .ok (.getfield 34, 3) := by decide +kernel
theorem dX4_leastPaying_15 : decode cX4_leastPaying 15 = .ok (.getfield 38, 3) := by decide +kernel
theorem dX4_leastPaying_18 : decode cX4_leastPaying 18 = .ok (.getfield 129, 3) := by decide +kernel
theorem dX4_leastPaying_21 : decode cX4_leastPaying 21 = .ok (.ishl, 1) := by decide +kernel
theorem dX4_leastPaying_22 : decode cX4_leastPaying 22 = .ok (.if_icmp .ge 78, 3) := by decide +kernel
theorem dX4_leastPaying_25 : decode cX4_leastPaying 25 = .ok (.aload_n 0, 1) := by decide +kernel
theorem dX4_leastPaying_26 : decode cX4_leastPaying 26 = .ok (.iload 5, 2) := by decide +kernel
theorem dX4_leastPaying_28 : decode cX4_leastPaying 28 = .ok (.invokevirtual 143, 3) := by decide +kernel
theorem dX4_leastPaying_31 : decode cX4_leastPaying 31 = .ok (.istore 6, 2) := by decide +kernel
theorem dX4_leastPaying_33 : decode cX4_leastPaying 33 = .ok (.aload_n 0, 1) := by decide +kernel
theorem dX4_leastPaying_34 : decode cX4_leastPaying 34 = .ok (.iload 5, 2) := by decide +kernel
theorem dX4_leastPaying_36 : decode cX4_leastPaying 36 = .ok (.invokevirtual 146, 3) := by decide +kernel
theorem dX4_leastPaying_39 : decode cX4_leastPaying 39 = .ok (.istore 7, 2) := by decide +kernel
theorem dX4_leastPaying_41 : decode cX4_leastPaying 41 = .ok (.iload 6, 2) := by decide +kernel
theorem dX4_leastPaying_43 : decode cX4_leastPaying 43 = .ok (.iload_n 1, 1) := by decide +kernel
theorem dX4_leastPaying_44 : decode cX4_leastPaying 44 = .ok (.if_icmp .eq 13, 3) := by decide +kernel
theorem dX4_leastPaying_47 : decode cX4_leastPaying 47 = .ok (.iload_n 2, 1) := by decide +kernel
theorem dX4_leastPaying_48 : decode cX4_leastPaying 48 = .ok (.ifCond .eq 13, 3) := by decide +kernel
theorem dX4_leastPaying_51 : decode cX4_leastPaying 51 = .ok (.iload 6, 2) := by decide +kernel
theorem dX4_leastPaying_53 : decode cX4_leastPaying 53 = .ok (.iload_n 1, 1) := by decide +kernel
theorem dX4_leastPaying_54 : decode cX4_leastPaying 54 = .ok (.if_icmp .le 7, 3) := by decide +kernel
theorem dX4_leastPaying_57 : decode cX4_leastPaying 57 = .ok (.iconst 1, 1) := by decide +kernel
theorem dX4_leastPaying_58 : decode cX4_leastPaying 58 = .ok (.goto 4, 3) := by decide +kernel
theorem dX4_leastPaying_61 : decode cX4_leastPaying 61 = .ok (.iconst 0, 1) := by decide +kernel
theorem dX4_leastPaying_62 : decode cX4_leastPaying 62 = .ok (.istore 8, 2) := by decide +kernel
theorem dX4_leastPaying_64 : decode cX4_leastPaying 64 = .ok (.iload 8, 2) := by decide +kernel
theorem dX4_leastPaying_66 : decode cX4_leastPaying 66 = .ok (.ifCond .eq 28, 3) := by decide +kernel
theorem dX4_leastPaying_69 : decode cX4_leastPaying 69 = .ok (.iload 7, 2) := by decide +kernel
theorem dX4_leastPaying_71 : decode cX4_leastPaying 71 = .ok (.iconst (-1), 1) := by decide +kernel
theorem dX4_leastPaying_72 : decode cX4_leastPaying 72 = .ok (.if_icmp .eq 22, 3) := by decide +kernel
theorem dX4_leastPaying_75 : decode cX4_leastPaying 75 = .ok (.iload_n 3, 1) := by decide +kernel
theorem dX4_leastPaying_76 : decode cX4_leastPaying 76 = .ok (.iconst (-1), 1) := by decide +kernel
theorem dX4_leastPaying_77 : decode cX4_leastPaying 77 = .ok (.if_icmp .eq 10, 3) := by decide +kernel
theorem dX4_leastPaying_80 : decode cX4_leastPaying 80 = .ok (.iload 7, 2) := by decide +kernel
theorem dX4_leastPaying_82 : decode cX4_leastPaying 82 = .ok (.iload 4, 2) := by decide +kernel
theorem dX4_leastPaying_84 : decode cX4_leastPaying 84 = .ok (.if_icmp .ge 10, 3) := by decide +kernel
theorem dX4_leastPaying_87 : decode cX4_leastPaying 87 = .ok (.iload 5, 2) := by decide +kernel
theorem dX4_leastPaying_89 : decode cX4_leastPaying 89 = .ok (.istore_n 3, 1) := by decide +kernel
theorem dX4_leastPaying_90 : decode cX4_leastPaying 90 = .ok (.iload 7, 2) := by decide +kernel
theorem dX4_leastPaying_92 : decode cX4_leastPaying 92 = .ok (.istore 4, 2) := by decide +kernel
theorem dX4_leastPaying_94 : decode cX4_leastPaying 94 = .ok (.iinc 5 1, 3) := by decide +kernel
theorem dX4_leastPaying_97 : decode cX4_leastPaying 97 = .ok (.goto (-89), 3) := by decide +kernel
theorem dX4_leastPaying_100 : decode cX4_leastPaying 100 = .ok (.iload_n 3, 1) := by decide +kernel
theorem dX4_leastPaying_101 : decode cX4_leastPaying 101 = .ok (.ireturn, 1) := by decide +kernel
theorem dX4_worthOf_0 : decode cX4_worthOf 0 = .ok (.iconst 0, 1) := by decide +kernel
theorem dX4_worthOf_1 : decode cX4_worthOf 1 = .ok (.istore_n 2, 1) := by decide +kernel
theorem dX4_worthOf_2 : decode cX4_worthOf 2 = .ok (.iconst 0, 1) := by decide +kernel
theorem dX4_worthOf_3 : decode cX4_worthOf 3 = .ok (.istore_n 3, 1) := by decide +kernel
theorem dX4_worthOf_4 : decode cX4_worthOf 4 = .ok (.iload_n 3, 1) := by decide +kernel
theorem dX4_worthOf_5 : decode cX4_worthOf 5 = .ok (.aload_n 0, 1) := by decide +kernel
theorem dX4_worthOf_6 : decode cX4_worthOf 6 = .ok (.getfield 34, 3) := by decide +kernel
theorem dX4_worthOf_9 : decode cX4_worthOf 9 = .ok (.getfield 38, 3) := by decide +kernel
theorem dX4_worthOf_12 : decode cX4_worthOf 12 = .ok (.getfield 129, 3) := by decide +kernel
theorem dX4_worthOf_15 : decode cX4_worthOf 15 = .ok (.if_icmp .ge 32, 3) := by decide +kernel
theorem dX4_worthOf_18 : decode cX4_worthOf 18 = .ok (.iload_n 1, 1) := by decide +kernel
theorem dX4_worthOf_19 : decode cX4_worthOf 19 = .ok (.iload_n 3, 1) := by decide +kernel
theorem dX4_worthOf_20 : decode cX4_worthOf 20 = .ok (.invokestatic 122, 3) := by decide +kernel
theorem dX4_worthOf_23 : decode cX4_worthOf 23 = .ok (.ifCond .eq 18, 3) := by decide +kernel
theorem dX4_worthOf_26 : decode cX4_worthOf 26 = .ok (.iload_n 2, 1) := by decide +kernel
theorem dX4_worthOf_27 : decode cX4_worthOf 27 = .ok (.aload_n 0, 1) := by decide +kernel
theorem dX4_worthOf_28 : decode cX4_worthOf 28 = .ok (.getfield 34, 3) := by decide +kernel
theorem dX4_worthOf_31 : decode cX4_worthOf 31 = .ok (.getfield 38, 3) := by decide +kernel
theorem dX4_worthOf_34 : decode cX4_worthOf 34 = .ok (.getfield 149, 3) := by decide +kernel
theorem dX4_worthOf_37 : decode cX4_worthOf 37 = .ok (.iload_n 3, 1) := by decide +kernel
theorem dX4_worthOf_38 : decode cX4_worthOf 38 = .ok (.iaload, 1) := by decide +kernel
theorem dX4_worthOf_39 : decode cX4_worthOf 39 = .ok (.iadd, 1) := by decide +kernel
theorem dX4_worthOf_40 : decode cX4_worthOf 40 = .ok (.istore_n 2, 1) := by decide +kernel
theorem dX4_worthOf_41 : decode cX4_worthOf 41 = .ok (.iinc 3 1, 3) := by decide +kernel
theorem dX4_worthOf_44 : decode cX4_worthOf 44 = .ok (.goto (-40), 3) := by decide +kernel
theorem dX4_worthOf_47 : decode cX4_worthOf 47 = .ok (.iload_n 2, 1) := by decide +kernel
theorem dX4_worthOf_48 : decode cX4_worthOf 48 = .ok (.ireturn, 1) := by decide +kernel
theorem dX5_init_0 : decode cX5_init 0 = .ok (.aload_n 0, 1) := by decide +kernel
theorem dX5_init_1 : decode cX5_init 1 = .ok (.invokespecial 3, 3) := by decide +kernel
theorem dX5_init_4 : decode cX5_init 4 = .ok (.aload_n 0, 1) := by decide +kernel
theorem dX5_init_5 : decode cX5_init 5 = .ok (.iconst 4, 1) := by decide +kernel
theorem dX5_init_6 : decode cX5_init 6 = .ok (.newarray .int, 2) := by decide +kernel
theorem dX5_init_8 : decode cX5_init 8 = .ok (.putfield 9, 3) := by decide +kernel
theorem dX5_init_11 : decode cX5_init 11 = .ok (.aload_n 0, 1) := by decide +kernel
theorem dX5_init_12 : decode cX5_init 12 = .ok (.iconst 4, 1) := by decide +kernel
theorem dX5_init_13 : decode cX5_init 13 = .ok (.newarray .int, 2) := by decide +kernel
theorem dX5_init_15 : decode cX5_init 15 = .ok (.putfield 15, 3) := by decide +kernel
theorem dX5_init_18 : decode cX5_init 18 = .ok (.aload_n 0, 1) := by decide +kernel
theorem dX5_init_19 : decode cX5_init 19 = .ok (.bipush 8, 2) := by decide +kernel
theorem dX5_init_21 : decode cX5_init 21 = .ok (.newarray .int, 2) := by decide +kernel
theorem dX5_init_23 : decode cX5_init 23 = .ok (.putfield 18, 3) := by decide +kernel
theorem dX5_init_26 : decode cX5_init 26 = .ok (.return_, 1) := by decide +kernel
theorem dX5_begin_0 : decode cX5_begin 0 = .ok (.aload_n 1, 1) := by decide +kernel
theorem dX5_begin_1 : decode cX5_begin 1 = .ok (.getfield 21, 3) := by decide +kernel
theorem dX5_begin_4 : decode cX5_begin 4 = .ok (.iconst 0, 1) := by decide +kernel
theorem dX5_begin_5 : decode cX5_begin 5 = .ok (.aload_n 0, 1) := by decide +kernel
theorem dX5_begin_6 : decode cX5_begin 6 = .ok (.getfield 9, 3) := by decide +kernel
theorem dX5_begin_9 : decode cX5_begin 9 = .ok (.iconst 0, 1) := by decide +kernel
theorem dX5_begin_10 : decode cX5_begin 10 = .ok (.iconst 4, 1) := by decide +kernel
theorem dX5_begin_11 : decode cX5_begin 11 = .ok (.invokestatic 26, 3) := by decide +kernel
theorem dX5_begin_14 : decode cX5_begin 14 = .ok (.aload_n 1, 1) := by decide +kernel
theorem dX5_begin_15 : decode cX5_begin 15 = .ok (.getfield 32, 3) := by decide +kernel
theorem dX5_begin_18 : decode cX5_begin 18 = .ok (.iconst 0, 1) := by decide +kernel
theorem dX5_begin_19 : decode cX5_begin 19 = .ok (.aload_n 0, 1) := by decide +kernel
theorem dX5_begin_20 : decode cX5_begin 20 = .ok (.getfield 18, 3) := by decide +kernel
theorem dX5_begin_23 : decode cX5_begin 23 = .ok (.iconst 0, 1) := by decide +kernel
theorem dX5_begin_24 : decode cX5_begin 24 = .ok (.bipush 8, 2) := by decide +kernel
theorem dX5_begin_26 : decode cX5_begin 26 = .ok (.invokestatic 26, 3) := by decide +kernel
theorem dX5_begin_29 : decode cX5_begin 29 = .ok (.aload_n 0, 1) := by decide +kernel
theorem dX5_begin_30 : decode cX5_begin 30 = .ok (.getfield 15, 3) := by decide +kernel
theorem dX5_begin_33 : decode cX5_begin 33 = .ok (.iconst 0, 1) := by decide +kernel
theorem dX5_begin_34 : decode cX5_begin 34 = .ok (.invokestatic 33, 3) := by decide +kernel
theorem dX5_begin_37 : decode cX5_begin 37 = .ok (.aload_n 0, 1) := by decide +kernel
theorem dX5_begin_38 : decode cX5_begin 38 = .ok (.aload_n 1, 1) := by decide +kernel
theorem dX5_begin_39 : decode cX5_begin 39 = .ok (.getfield 39, 3) := by decide +kernel
theorem dX5_begin_42 : decode cX5_begin 42 = .ok (.putfield 43, 3) := by decide +kernel
theorem dX5_begin_45 : decode cX5_begin 45 = .ok (.aload_n 0, 1) := by decide +kernel
theorem dX5_begin_46 : decode cX5_begin 46 = .ok (.iconst 0, 1) := by decide +kernel
theorem dX5_begin_47 : decode cX5_begin 47 = .ok (.putfield 46, 3) := by decide +kernel
theorem dX5_begin_50 : decode cX5_begin 50 = .ok (.return_, 1) := by decide +kernel
theorem dX5_copyFrom_0 : decode cX5_copyFrom 0 = .ok (.aload_n 1, 1) := by decide +kernel
theorem dX5_copyFrom_1 : decode cX5_copyFrom 1 = .ok (.getfield 9, 3) := by decide +kernel
theorem dX5_copyFrom_4 : decode cX5_copyFrom 4 = .ok (.iconst 0, 1) := by decide +kernel
theorem dX5_copyFrom_5 : decode cX5_copyFrom 5 = .ok (.aload_n 0, 1) := by decide +kernel
theorem dX5_copyFrom_6 : decode cX5_copyFrom 6 = .ok (.getfield 9, 3) := by decide +kernel
theorem dX5_copyFrom_9 : decode cX5_copyFrom 9 = .ok (.iconst 0, 1) := by decide +kernel
theorem dX5_copyFrom_10 : decode cX5_copyFrom 10 = .ok (.iconst 4, 1) := by decide +kernel
theorem dX5_copyFrom_11 : decode cX5_copyFrom 11 = .ok (.invokestatic 26, 3) := by decide +kernel
theorem dX5_copyFrom_14 : decode cX5_copyFrom 14 = .ok (.aload_n 1, 1) := by decide +kernel
theorem dX5_copyFrom_15 : decode cX5_copyFrom 15 = .ok (.getfield 15, 3) := by decide +kernel
theorem dX5_copyFrom_18 : decode cX5_copyFrom 18 = .ok (.iconst 0, 1) := by decide +kernel
theorem dX5_copyFrom_19 : decode cX5_copyFrom 19 = .ok (.aload_n 0, 1) := by decide +kernel
theorem dX5_copyFrom_20 : decode cX5_copyFrom 20 = .ok (.getfield 15, 3) := by decide +kernel
theorem dX5_copyFrom_23 : decode cX5_copyFrom 23 = .ok (.iconst 0, 1) := by decide +kernel
theorem dX5_copyFrom_24 : decode cX5_copyFrom 24 = .ok (.iconst 4, 1) := by decide +kernel
theorem dX5_copyFrom_25 : decode cX5_copyFrom 25 = .ok (.invokestatic 26, 3) := by decide +kernel
theorem dX5_copyFrom_28 : decode cX5_copyFrom 28 = .ok (.aload_n 1, 1) := by decide +kernel
theorem dX5_copyFrom_29 : decode cX5_copyFrom 29 = .ok (.getfield 18, 3) := by decide +kernel
theorem dX5_copyFrom_32 : decode cX5_copyFrom 32 = .ok (.iconst 0, 1) := by decide +kernel
theorem dX5_copyFrom_33 : decode cX5_copyFrom 33 = .ok (.aload_n 0, 1) := by decide +kernel
theorem dX5_copyFrom_34 : decode cX5_copyFrom 34 = .ok (.getfield 18, 3) := by decide +kernel
theorem dX5_copyFrom_37 : decode cX5_copyFrom 37 = .ok (.iconst 0, 1) := by decide +kernel
theorem dX5_copyFrom_38 : decode cX5_copyFrom 38 = .ok (.bipush 8, 2) := by decide +kernel
theorem dX5_copyFrom_40 : decode cX5_copyFrom 40 = .ok (.invokestatic 26, 3) := by decide +kernel
theorem dX5_copyFrom_43 : decode cX5_copyFrom 43 = .ok (.aload_n 0, 1) := by decide +kernel
theorem dX5_copyFrom_44 : decode cX5_copyFrom 44 = .ok (.aload_n 1, 1) := by decide +kernel
theorem dX5_copyFrom_45 : decode cX5_copyFrom 45 = .ok (.getfield 43, 3) := by decide +kernel
theorem dX5_copyFrom_48 : decode cX5_copyFrom 48 = .ok (.putfield 43, 3) := by decide +kernel
theorem dX5_copyFrom_51 : decode cX5_copyFrom 51 = .ok (.aload_n 0, 1) := by decide +kernel
theorem dX5_copyFrom_52 : decode cX5_copyFrom 52 = .ok (.aload_n 1, 1) := by decide +kernel
theorem dX5_copyFrom_53 : decode cX5_copyFrom 53 = .ok (.getfield 46, 3) := by decide +kernel
theorem dX5_copyFrom_56 : decode cX5_copyFrom 56 = .ok (.putfield 46, 3) := by decide +kernel
theorem dX5_copyFrom_59 : decode cX5_copyFrom 59 = .ok (.return_, 1) := by decide +kernel
theorem dX5_move_0 : decode cX5_move 0 = .ok (.aload_n 0, 1) := by decide +kernel
theorem dX5_move_1 : decode cX5_move 1 = .ok (.getfield 9, 3) := by decide +kernel
theorem dX5_move_4 : decode cX5_move 4 = .ok (.iload_n 1, 1) := by decide +kernel
theorem dX5_move_5 : decode cX5_move 5 = .ok (.iload_n 2, 1) := by decide +kernel
theorem dX5_move_6 : decode cX5_move 6 = .ok (.iastore, 1) := by decide +kernel
theorem dX5_move_7 : decode cX5_move 7 = .ok (.aload_n 0, 1) := by decide +kernel
theorem dX5_move_8 : decode cX5_move 8 = .ok (.getfield 15, 3) := by decide +kernel
theorem dX5_move_11 : decode cX5_move 11 = .ok (.iload_n 1, 1) := by decide +kernel
theorem dX5_move_12 : decode cX5_move 12 = .ok (.dup2, 1) := by decide +kernel
theorem dX5_move_13 : decode cX5_move 13 = .ok (.iaload, 1) := by decide +kernel
theorem dX5_move_14 : decode cX5_move 14 = .ok (.iload_n 3, 1) := by decide +kernel
theorem dX5_move_15 : decode cX5_move 15 = .ok (.iadd, 1) := by decide +kernel
theorem dX5_move_16 : decode cX5_move 16 = .ok (.iastore, 1) := by decide +kernel
theorem dX5_move_17 : decode cX5_move 17 = .ok (.aload_n 0, 1) := by decide +kernel
theorem dX5_move_18 : decode cX5_move 18 = .ok (.dup, 1) := by decide +kernel
theorem dX5_move_19 : decode cX5_move 19 = .ok (.getfield 46, 3) := by decide +kernel
theorem dX5_move_22 : decode cX5_move 22 = .ok (.iconst 1, 1) := by decide +kernel
theorem dX5_move_23 : decode cX5_move 23 = .ok (.iadd, 1) := by decide +kernel
theorem dX5_move_24 : decode cX5_move 24 = .ok (.putfield 46, 3) := by decide +kernel
theorem dX5_move_27 : decode cX5_move 27 = .ok (.return_, 1) := by decide +kernel
theorem dX5_feuding_0 : decode cX5_feuding 0 = .ok (.aload_n 0, 1) := by decide +kernel
theorem dX5_feuding_1 : decode cX5_feuding 1 = .ok (.getfield 18, 3) := by decide +kernel
theorem dX5_feuding_4 : decode cX5_feuding 4 = .ok (.iload_n 1, 1) := by decide +kernel
theorem dX5_feuding_5 : decode cX5_feuding 5 = .ok (.iaload, 1) := by decide +kernel
theorem dX5_feuding_6 : decode cX5_feuding 6 = .ok (.iload_n 2, 1) := by decide +kernel
theorem dX5_feuding_7 : decode cX5_feuding 7 = .ok (.invokestatic 49, 3) := by decide +kernel
theorem dX5_feuding_10 : decode cX5_feuding 10 = .ok (.ireturn, 1) := by decide +kernel
theorem dX5_quarrelsThereAre_0 : decode cX5_quarrelsThereAre 0 = .ok (.iconst 0, 1) := by decide +kernel
theorem dX5_quarrelsThereAre_1 : decode cX5_quarrelsThereAre 1 = .ok (.istore_n 1, 1) := by decide +kernel
theorem dX5_quarrelsThereAre_2 : decode cX5_quarrelsThereAre 2 = .ok (.iconst 0, 1) := by decide +kernel
theorem dX5_quarrelsThereAre_3 : decode cX5_quarrelsThereAre 3 = .ok (.istore_n 2, 1) := by decide +kernel
theorem dX5_quarrelsThereAre_4 : decode cX5_quarrelsThereAre 4 = .ok (.iload_n 2, 1) := by decide +kernel
theorem dX5_quarrelsThereAre_5 : decode cX5_quarrelsThereAre 5 = .ok (.bipush 8, 2) := by decide +kernel
theorem dX5_quarrelsThereAre_7 : decode cX5_quarrelsThereAre 7 = .ok (.if_icmp .ge 21, 3) := by decide +kernel
theorem dX5_quarrelsThereAre_10 : decode cX5_quarrelsThereAre 10 = .ok (.iload_n 1, 1) := by decide +kernel
theorem dX5_quarrelsThereAre_11 : decode cX5_quarrelsThereAre 11 = .ok (.aload_n 0, 1) := by decide +kernel
theorem dX5_quarrelsThereAre_12 : decode cX5_quarrelsThereAre 12 = .ok (.getfield 18, 3) := by decide +kernel
theorem dX5_quarrelsThereAre_15 : decode cX5_quarrelsThereAre 15 = .ok (.iload_n 2, 1) := by decide +kernel
theorem dX5_quarrelsThereAre_16 : decode cX5_quarrelsThereAre 16 = .ok (.iaload, 1) := by decide +kernel
theorem dX5_quarrelsThereAre_17 : decode cX5_quarrelsThereAre 17 = .ok (.invokestatic 53, 3) := by decide +kernel
theorem dX5_quarrelsThereAre_20 : decode cX5_quarrelsThereAre 20 = .ok (.iadd, 1) := by decide +kernel
theorem dX5_quarrelsThereAre_21 : decode cX5_quarrelsThereAre 21 = .ok (.istore_n 1, 1) := by decide +kernel
theorem dX5_quarrelsThereAre_22 : decode cX5_quarrelsThereAre 22 = .ok (.iinc 2 1, 3) := by decide +kernel
theorem dX5_quarrelsThereAre_25 : decode cX5_quarrelsThereAre 25 = .ok (.goto (-21), 3) := by decide +kernel
theorem dX5_quarrelsThereAre_28 : decode cX5_quarrelsThereAre 28 = .ok (.iload_n 1, 1) := by decide +kernel
theorem dX5_quarrelsThereAre_29 : decode cX5_quarrelsThereAre 29 = .ok (.iconst 2, 1) := by decide +kernel
theorem dX5_quarrelsThereAre_30 : decode cX5_quarrelsThereAre 30 = .ok (.idiv, 1) := by decide +kernel
theorem dX5_quarrelsThereAre_31 : decode cX5_quarrelsThereAre 31 = .ok (.ireturn, 1) := by decide +kernel
theorem dX5_rimsTogether_0 : decode cX5_rimsTogether 0 = .ok (.iconst 0, 1) := by decide +kernel
theorem dX5_rimsTogether_1 : decode cX5_rimsTogether 1 = .ok (.istore_n 1, 1) := by decide +kernel
theorem dX5_rimsTogether_2 : decode cX5_rimsTogether 2 = .ok (.iconst 0, 1) := by decide +kernel
theorem dX5_rimsTogether_3 : decode cX5_rimsTogether 3 = .ok (.istore_n 2, 1) := by decide +kernel
theorem dX5_rimsTogether_4 : decode cX5_rimsTogether 4 = .ok (.iload_n 2, 1) := by decide +kernel
theorem dX5_rimsTogether_5 : decode cX5_rimsTogether 5 = .ok (.iconst 4, 1) := by decide +kernel
theorem dX5_rimsTogether_6 : decode cX5_rimsTogether 6 = .ok (.if_icmp .ge 18, 3) := by decide +kernel
theorem dX5_rimsTogether_9 : decode cX5_rimsTogether 9 = .ok (.iload_n 1, 1) := by decide +kernel
theorem dX5_rimsTogether_10 : decode cX5_rimsTogether 10 = .ok (.aload_n 0, 1) := by decide +kernel
theorem dX5_rimsTogether_11 : decode cX5_rimsTogether 11 = .ok (.getfield 15, 3) := by decide +kernel
theorem dX5_rimsTogether_14 : decode cX5_rimsTogether 14 = .ok (.iload_n 2, 1) := by decide +kernel
theorem dX5_rimsTogether_15 : decode cX5_rimsTogether 15 = .ok (.iaload, 1) := by decide +kernel
theorem dX5_rimsTogether_16 : decode cX5_rimsTogether 16 = .ok (.iadd, 1) := by decide +kernel
theorem dX5_rimsTogether_17 : decode cX5_rimsTogether 17 = .ok (.istore_n 1, 1) := by decide +kernel
theorem dX5_rimsTogether_18 : decode cX5_rimsTogether 18 = .ok (.iinc 2 1, 3) := by decide +kernel
theorem dX5_rimsTogether_21 : decode cX5_rimsTogether 21 = .ok (.goto (-17), 3) := by decide +kernel
theorem dX5_rimsTogether_24 : decode cX5_rimsTogether 24 = .ok (.iload_n 1, 1) := by decide +kernel
theorem dX5_rimsTogether_25 : decode cX5_rimsTogether 25 = .ok (.ireturn, 1) := by decide +kernel
theorem dX5_placesAsDigits_0 : decode cX5_placesAsDigits 0 = .ok (.iconst 0, 1) := by decide +kernel
theorem dX5_placesAsDigits_1 : decode cX5_placesAsDigits 1 = .ok (.istore_n 1, 1) := by decide +kernel
theorem dX5_placesAsDigits_2 : decode cX5_placesAsDigits 2 = .ok (.iconst 3, 1) := by decide +kernel
theorem dX5_placesAsDigits_3 : decode cX5_placesAsDigits 3 = .ok (.istore_n 2, 1) := by decide +kernel
theorem dX5_placesAsDigits_4 : decode cX5_placesAsDigits 4 = .ok (.iload_n 2, 1) := by decide +kernel
theorem dX5_placesAsDigits_5 : decode cX5_placesAsDigits 5 = .ok (.ifCond .lt 21, 3) := by decide +kernel
theorem dX5_placesAsDigits_8 : decode cX5_placesAsDigits 8 = .ok (.bipush 10, 2) := by decide +kernel
theorem dX5_placesAsDigits_10 : decode cX5_placesAsDigits 10 = .ok (.iload_n 1, 1) := by decide +kernel
theorem dX5_placesAsDigits_11 : decode cX5_placesAsDigits 11 = .ok (.imul, 1) := by decide +kernel
theorem dX5_placesAsDigits_12 : decode cX5_placesAsDigits 12 = .ok (.aload_n 0, 1) := by decide +kernel
theorem dX5_placesAsDigits_13 : decode cX5_placesAsDigits 13 = .ok (.getfield 9, 3) := by decide +kernel
theorem dX5_placesAsDigits_16 : decode cX5_placesAsDigits 16 = .ok (.iload_n 2, 1) := by decide +kernel
theorem dX5_placesAsDigits_17 : decode cX5_placesAsDigits 17 = .ok (.iaload, 1) := by decide +kernel
theorem dX5_placesAsDigits_18 : decode cX5_placesAsDigits 18 = .ok (.iadd, 1) := by decide +kernel
theorem dX5_placesAsDigits_19 : decode cX5_placesAsDigits 19 = .ok (.istore_n 1, 1) := by decide +kernel
theorem dX5_placesAsDigits_20 : decode cX5_placesAsDigits 20 = .ok (.iinc 2 (-1), 3) := by decide +kernel
theorem dX5_placesAsDigits_23 : decode cX5_placesAsDigits 23 = .ok (.goto (-19), 3) := by decide +kernel
theorem dX5_placesAsDigits_26 : decode cX5_placesAsDigits 26 = .ok (.iload_n 1, 1) := by decide +kernel
theorem dX5_placesAsDigits_27 : decode cX5_placesAsDigits 27 = .ok (.ireturn, 1) := by decide +kernel
theorem dX6_init_0 : decode cX6_init 0 = .ok (.aload_n 0, 1) := by decide +kernel
theorem dX6_init_1 : decode cX6_init 1 = .ok (.invokespecial 3, 3) := by decide +kernel
theorem dX6_init_4 : decode cX6_init 4 = .ok (.aload_n 0, 1) := by decide +kernel
theorem dX6_init_5 : decode cX6_init 5 = .ok (.bipush 10, 2) := by decide +kernel
theorem dX6_init_7 : decode cX6_init 7 = .ok (.anewarray 9, 3) := by decide +kernel
theorem dX6_init_10 : decode cX6_init 10 = .ok (.putfield 11, 3) := by decide +kernel
theorem dX6_init_13 : decode cX6_init 13 = .ok (.iconst 0, 1) := by decide +kernel
theorem dX6_init_14 : decode cX6_init 14 = .ok (.istore_n 1, 1) := by decide +kernel
theorem dX6_init_15 : decode cX6_init 15 = .ok (.iload_n 1, 1) := by decide +kernel
theorem dX6_init_16 : decode cX6_init 16 = .ok (.bipush 10, 2) := by decide +kernel
theorem dX6_init_18 : decode cX6_init 18 = .ok (.if_icmp .ge 22, 3) := by decide +kernel
theorem dX6_init_21 : decode cX6_init 21 = .ok (.aload_n 0, 1) := by decide +kernel
theorem dX6_init_22 : decode cX6_init 22 = .ok (.getfield 11, 3) := by decide +kernel
theorem dX6_init_25 : decode cX6_init 25 = .ok (.iload_n 1, 1) := by decide +kernel
theorem dX6_init_26 : decode cX6_init 26 = .ok (.new 9, 3) := by decide +kernel
theorem dX6_init_29 : decode cX6_init 29 = .ok (.dup, 1) := by decide +kernel
theorem dX6_init_30 : decode cX6_init 30 = .ok (.invokespecial 17, 3) := by decide +kernel
theorem dX6_init_33 : decode cX6_init 33 = .ok (.aastore, 1) := by decide +kernel
theorem dX6_init_34 : decode cX6_init 34 = .ok (.iinc 1 1, 3) := by decide +kernel
theorem dX6_init_37 : decode cX6_init 37 = .ok (.goto (-22), 3) := by decide +kernel
theorem dX6_init_40 : decode cX6_init 40 = .ok (.return_, 1) := by decide +kernel
theorem dX6_keep_0 : decode cX6_keep 0 = .ok (.aload_n 0, 1) := by decide +kernel
theorem dX6_keep_1 : decode cX6_keep 1 = .ok (.getfield 11, 3) := by decide +kernel
theorem dX6_keep_4 : decode cX6_keep 4 = .ok (.aload_n 0, 1) := by decide +kernel
theorem dX6_keep_5 : decode cX6_keep 5 = .ok (.getfield 18, 3) := by decide +kernel
theorem dX6_keep_8 : decode cX6_keep 8 = .ok (.aaload, 1) := by decide +kernel
theorem dX6_keep_9 : decode cX6_keep 9 = .ok (.aload_n 1, 1) := by decide +kernel
theorem dX6_keep_10 : decode cX6_keep 10 = .ok (.invokevirtual 22, 3) := by decide +kernel
theorem dX6_keep_13 : decode cX6_keep 13 = .ok (.aload_n 0, 1) := by decide +kernel
theorem dX6_keep_14 : decode cX6_keep 14 = .ok (.aload_n 0, 1) := by decide +kernel
theorem dX6_keep_15 : decode cX6_keep 15 = .ok (.getfield 18, 3) := by decide +kernel
theorem dX6_keep_18 : decode cX6_keep 18 = .ok (.iconst 1, 1) := by decide +kernel
theorem dX6_keep_19 : decode cX6_keep 19 = .ok (.iadd, 1) := by decide +kernel
theorem dX6_keep_20 : decode cX6_keep 20 = .ok (.bipush 10, 2) := by decide +kernel
theorem dX6_keep_22 : decode cX6_keep 22 = .ok (.irem, 1) := by decide +kernel
theorem dX6_keep_23 : decode cX6_keep 23 = .ok (.putfield 18, 3) := by decide +kernel
theorem dX6_keep_26 : decode cX6_keep 26 = .ok (.aload_n 0, 1) := by decide +kernel
theorem dX6_keep_27 : decode cX6_keep 27 = .ok (.bipush 10, 2) := by decide +kernel
theorem dX6_keep_29 : decode cX6_keep 29 = .ok (.aload_n 0, 1) := by decide +kernel
theorem dX6_keep_30 : decode cX6_keep 30 = .ok (.getfield 26, 3) := by decide +kernel
theorem dX6_keep_33 : decode cX6_keep 33 = .ok (.iconst 1, 1) := by decide +kernel
theorem dX6_keep_34 : decode cX6_keep 34 = .ok (.iadd, 1) := by decide +kernel
theorem dX6_keep_35 : decode cX6_keep 35 = .ok (.invokestatic 29, 3) := by decide +kernel
theorem dX6_keep_38 : decode cX6_keep 38 = .ok (.putfield 26, 3) := by decide +kernel
theorem dX6_keep_41 : decode cX6_keep 41 = .ok (.return_, 1) := by decide +kernel
theorem dX6_goBack_0 : decode cX6_goBack 0 = .ok (.aload_n 0, 1) := by decide +kernel
theorem dX6_goBack_1 : decode cX6_goBack 1 = .ok (.aload_n 0, 1) := by decide +kernel
theorem dX6_goBack_2 : decode cX6_goBack 2 = .ok (.getfield 18, 3) := by decide +kernel
theorem dX6_goBack_5 : decode cX6_goBack 5 = .ok (.iload_n 2, 1) := by decide +kernel
theorem dX6_goBack_6 : decode cX6_goBack 6 = .ok (.isub, 1) := by decide +kernel
theorem dX6_goBack_7 : decode cX6_goBack 7 = .ok (.bipush 10, 2) := by decide +kernel
theorem dX6_goBack_9 : decode cX6_goBack 9 = .ok (.invokestatic 35, 3) := by decide +kernel
theorem dX6_goBack_12 : decode cX6_goBack 12 = .ok (.putfield 18, 3) := by decide +kernel
theorem dX6_goBack_15 : decode cX6_goBack 15 = .ok (.aload_n 1, 1) := by decide +kernel
theorem dX6_goBack_16 : decode cX6_goBack 16 = .ok (.aload_n 0, 1) := by decide +kernel
theorem dX6_goBack_17 : decode cX6_goBack 17 = .ok (.getfield 11, 3) := by decide +kernel
theorem dX6_goBack_20 : decode cX6_goBack 20 = .ok (.aload_n 0, 1) := by decide +kernel
theorem dX6_goBack_21 : decode cX6_goBack 21 = .ok (.getfield 18, 3) := by decide +kernel
theorem dX6_goBack_24 : decode cX6_goBack 24 = .ok (.aaload, 1) := by decide +kernel
theorem dX6_goBack_25 : decode cX6_goBack 25 = .ok (.invokevirtual 22, 3) := by decide +kernel
theorem dX6_goBack_28 : decode cX6_goBack 28 = .ok (.aload_n 0, 1) := by decide +kernel
theorem dX6_goBack_29 : decode cX6_goBack 29 = .ok (.dup, 1) := by decide +kernel
theorem dX6_goBack_30 : decode cX6_goBack 30 = .ok (.getfield 26, 3) := by decide +kernel
theorem dX6_goBack_33 : decode cX6_goBack 33 = .ok (.iload_n 2, 1) := by decide +kernel
theorem dX6_goBack_34 : decode cX6_goBack 34 = .ok (.isub, 1) := by decide +kernel
theorem dX6_goBack_35 : decode cX6_goBack 35 = .ok (.putfield 26, 3) := by decide +kernel
theorem dX6_goBack_38 : decode cX6_goBack 38 = .ok (.return_, 1) := by decide +kernel
theorem dX6_forget_0 : decode cX6_forget 0 = .ok (.aload_n 0, 1) := by decide +kernel
theorem dX6_forget_1 : decode cX6_forget 1 = .ok (.iconst 0, 1) := by decide +kernel
theorem dX6_forget_2 : decode cX6_forget 2 = .ok (.putfield 26, 3) := by decide +kernel
theorem dX6_forget_5 : decode cX6_forget 5 = .ok (.return_, 1) := by decide +kernel
theorem dX7_init_0 : decode cX7_init 0 = .ok (.aload_n 0, 1) := by decide +kernel
theorem dX7_init_1 : decode cX7_init 1 = .ok (.invokespecial 3, 3) := by decide +kernel
theorem dX7_init_4 : decode cX7_init 4 = .ok (.aload_n 0, 1) := by decide +kernel
theorem dX7_init_5 : decode cX7_init 5 = .ok (.sipush 900, 3) := by decide +kernel
theorem dX7_init_8 : decode cX7_init 8 = .ok (.newarray .char, 2) := by decide +kernel
theorem dX7_init_10 : decode cX7_init 10 = .ok (.putfield 9, 3) := by decide +kernel
theorem dX7_init_13 : decode cX7_init 13 = .ok (.aload_n 0, 1) := by decide +kernel
theorem dX7_init_14 : decode cX7_init 14 = .ok (.new 15, 3) := by decide +kernel
theorem dX7_init_17 : decode cX7_init 17 = .ok (.dup, 1) := by decide +kernel
theorem dX7_init_18 : decode cX7_init 18 = .ok (.invokespecial 17, 3) := by decide +kernel
theorem dX7_init_21 : decode cX7_init 21 = .ok (.putfield 18, 3) := by decide +kernel
theorem dX7_init_24 : decode cX7_init 24 = .ok (.aload_n 0, 1) := by decide +kernel
theorem dX7_init_25 : decode cX7_init 25 = .ok (.iconst (-1), 1) := by decide +kernel
theorem dX7_init_26 : decode cX7_init 26 = .ok (.putfield 22, 3) := by decide +kernel
theorem dX7_init_29 : decode cX7_init 29 = .ok (.return_, 1) := by decide +kernel
theorem dX7_append_0 : decode cX7_append 0 = .ok (.bipush 24, 2) := by decide +kernel
theorem dX7_append_2 : decode cX7_append 2 = .ok (.istore_n 2, 1) := by decide +kernel
theorem dX7_append_3 : decode cX7_append 3 = .ok (.iload_n 2, 1) := by decide +kernel
theorem dX7_append_4 : decode cX7_append 4 = .ok (.ifCond .lt 46, 3) := by decide +kernel
theorem dX7_append_7 : decode cX7_append 7 = .ok (.aload_n 0, 1) := by decide +kernel
theorem dX7_append_8 : decode cX7_append 8 = .ok (.getfield 26, 3) := by decide +kernel
theorem dX7_append_11 : decode cX7_append 11 = .ok (.sipush 900, 3) := by decide +kernel
theorem dX7_append_14 : decode cX7_append 14 = .ok (.if_icmp .ge 36, 3) := by decide +kernel
theorem dX7_append_17 : decode cX7_append 17 = .ok (.aload_n 0, 1) := by decide +kernel
theorem dX7_append_18 : decode cX7_append 18 = .ok (.getfield 9, 3) := by decide +kernel
theorem dX7_append_21 : decode cX7_append 21 = .ok (.aload_n 0, 1) := by decide +kernel
theorem dX7_append_22 : decode cX7_append 22 = .ok (.getfield 26, 3) := by decide +kernel
theorem dX7_append_25 : decode cX7_append 25 = .ok (.iload_n 1, 1) := by decide +kernel
theorem dX7_append_26 : decode cX7_append 26 = .ok (.iload_n 2, 1) := by decide +kernel
theorem dX7_append_27 : decode cX7_append 27 = .ok (.iushr, 1) := by decide +kernel
theorem dX7_append_28 : decode cX7_append 28 = .ok (.sipush 255, 3) := by decide +kernel
theorem dX7_append_31 : decode cX7_append 31 = .ok (.iand, 1) := by decide +kernel
theorem dX7_append_32 : decode cX7_append 32 = .ok (.i2c, 1) := by decide +kernel
theorem dX7_append_33 : decode cX7_append 33 = .ok (.castore, 1) := by decide +kernel
theorem dX7_append_34 : decode cX7_append 34 = .ok (.aload_n 0, 1) := by decide +kernel
theorem dX7_append_35 : decode cX7_append 35 = .ok (.dup, 1) := by decide +kernel
theorem dX7_append_36 : decode cX7_append 36 = .ok (.getfield 26, 3) := by decide +kernel
theorem dX7_append_39 : decode cX7_append 39 = .ok (.iconst 1, 1) := by decide +kernel
theorem dX7_append_40 : decode cX7_append 40 = .ok (.iadd, 1) := by decide +kernel
theorem dX7_append_41 : decode cX7_append 41 = .ok (.putfield 26, 3) := by decide +kernel
theorem dX7_append_44 : decode cX7_append 44 = .ok (.iinc 2 (-8), 3) := by decide +kernel
theorem dX7_append_47 : decode cX7_append 47 = .ok (.goto (-44), 3) := by decide +kernel
theorem dX7_append_50 : decode cX7_append 50 = .ok (.return_, 1) := by decide +kernel
theorem dX7_readText_0 : decode cX7_readText 0 = .ok (.aload_n 0, 1) := by decide +kernel
theorem dX7_readText_1 : decode cX7_readText 1 = .ok (.iload_n 1, 1) := by decide +kernel
theorem dX7_readText_2 : decode cX7_readText 2 = .ok (.putfield 29, 3) := by decide +kernel
theorem dX7_readText_5 : decode cX7_readText 5 = .ok (.aload_n 0, 1) := by decide +kernel
theorem dX7_readText_6 : decode cX7_readText 6 = .ok (.iconst 0, 1) := by decide +kernel
theorem dX7_readText_7 : decode cX7_readText 7 = .ok (.putfield 32, 3) := by decide +kernel
theorem dX7_readText_10 : decode cX7_readText 10 = .ok (.aload_n 0, 1) := by decide +kernel
theorem dX7_readText_11 : decode cX7_readText 11 = .ok (.iconst 0, 1) := by decide +kernel
theorem dX7_readText_12 : decode cX7_readText 12 = .ok (.putfield 35, 3) := by decide +kernel
theorem dX7_readText_15 : decode cX7_readText 15 = .ok (.aload_n 0, 1) := by decide +kernel
theorem dX7_readText_16 : decode cX7_readText 16 = .ok (.iconst (-1), 1) := by decide +kernel
theorem dX7_readText_17 : decode cX7_readText 17 = .ok (.putfield 22, 3) := by decide +kernel
theorem dX7_readText_20 : decode cX7_readText 20 = .ok (.aload_n 0, 1) := by decide +kernel
theorem dX7_readText_21 : decode cX7_readText 21 = .ok (.getfield 18, 3) := by decide +kernel
theorem dX7_readText_24 : decode cX7_readText 24 = .ok (.invokevirtual 38, 3) := by decide +kernel
theorem dX7_readText_27 : decode cX7_readText 27 = .ok (.aload_n 0, 1) := by decide +kernel
theorem dX7_readText_28 : decode cX7_readText 28 = .ok (.invokevirtual 41, 3) := by decide +kernel
theorem dX7_readText_31 : decode cX7_readText 31 = .ok (.aload_n 0, 1) := by decide +kernel
theorem dX7_readText_32 : decode cX7_readText 32 = .ok (.invokevirtual 44, 3) := by decide +kernel
theorem dX7_readText_35 : decode cX7_readText 35 = .ok (.istore_n 2, 1) := by decide +kernel
theorem dX7_readText_36 : decode cX7_readText 36 = .ok (.iconst 0, 1) := by decide +kernel
theorem dX7_readText_37 : decode cX7_readText 37 = .ok (.istore_n 3, 1) := by decide +kernel
theorem dX7_readText_38 : decode cX7_readText 38 = .ok (.iload_n 3, 1) := by decide +kernel
theorem dX7_readText_39 : decode cX7_readText 39 = .ok (.sipush 900, 3) := by decide +kernel
theorem dX7_readText_42 : decode cX7_readText 42 = .ok (.if_icmp .ge 40, 3) := by decide +kernel
theorem dX7_readText_45 : decode cX7_readText 45 = .ok (.iload_n 2, 1) := by decide +kernel
theorem dX7_readText_46 : decode cX7_readText 46 = .ok (.ifCond .eq 36, 3) := by decide +kernel
theorem dX7_readText_49 : decode cX7_readText 49 = .ok (.aload_n 0, 1) := by decide +kernel
theorem dX7_readText_50 : decode cX7_readText 50 = .ok (.getfield 48, 3) := by decide +kernel
theorem dX7_readText_53 : decode cX7_readText 53 = .ok (.ifCond .eq 29, 3) := by decide +kernel
theorem dX7_readText_56 : decode cX7_readText 56 = .ok (.aload_n 0, 1) := by decide +kernel
theorem dX7_readText_57 : decode cX7_readText 57 = .ok (.invokevirtual 51, 3) := by decide +kernel
theorem dX7_readText_60 : decode cX7_readText 60 = .ok (.ifCond .eq 14, 3) := by decide +kernel
theorem dX7_readText_63 : decode cX7_readText 63 = .ok (.aload_n 0, 1) := by decide +kernel
theorem dX7_readText_64 : decode cX7_readText 64 = .ok (.invokevirtual 54, 3) := by decide +kernel
theorem dX7_readText_67 : decode cX7_readText 67 = .ok (.ifCond .eq 7, 3) := by decide +kernel
theorem dX7_readText_70 : decode cX7_readText 70 = .ok (.iconst 1, 1) := by decide +kernel
theorem dX7_readText_71 : decode cX7_readText 71 = .ok (.goto 4, 3) := by decide +kernel
theorem dX7_readText_74 : decode cX7_readText 74 = .ok (.iconst 0, 1) := by decide +kernel
theorem dX7_readText_75 : decode cX7_readText 75 = .ok (.istore_n 2, 1) := by decide +kernel
theorem dX7_readText_76 : decode cX7_readText 76 = .ok (.iinc 3 1, 3) := by decide +kernel
theorem dX7_readText_79 : decode cX7_readText 79 = .ok (.goto (-41), 3) := by decide +kernel
theorem dX7_readText_82 : decode cX7_readText 82 = .ok (.aload_n 0, 1) := by decide +kernel
theorem dX7_readText_83 : decode cX7_readText 83 = .ok (.getfield 18, 3) := by decide +kernel
theorem dX7_readText_86 : decode cX7_readText 86 = .ok (.invokevirtual 57, 3) := by decide +kernel
theorem dX7_readText_89 : decode cX7_readText 89 = .ok (.aload_n 0, 1) := by decide +kernel
theorem dX7_readText_90 : decode cX7_readText 90 = .ok (.iconst 0, 1) := by decide +kernel
theorem dX7_readText_91 : decode cX7_readText 91 = .ok (.putfield 26, 3) := by decide +kernel
theorem dX7_readText_94 : decode cX7_readText 94 = .ok (.iload_n 2, 1) := by decide +kernel
theorem dX7_readText_95 : decode cX7_readText 95 = .ok (.ireturn, 1) := by decide +kernel
theorem dX7_readHead_0 : decode cX7_readHead 0 = .ok (.aload_n 0, 1) := by decide +kernel
theorem dX7_readHead_1 : decode cX7_readHead 1 = .ok (.ldc 60, 2) := by decide +kernel
theorem dX7_readHead_3 : decode cX7_readHead 3 = .ok (.invokevirtual 62, 3) := by decide +kernel
theorem dX7_readHead_6 : decode cX7_readHead 6 = .ok (.ifCond .eq 23, 3) := by decide +kernel
theorem dX7_readHead_9 : decode cX7_readHead 9 = .ok (.aload_n 0, 1) := by decide +kernel
theorem dX7_readHead_10 : decode cX7_readHead 10 = .ok (.ldc 66, 2) := by decide +kernel
theorem dX7_readHead_12 : decode cX7_readHead 12 = .ok (.invokevirtual 62, 3) := by decide +kernel
theorem dX7_readHead_15 : decode cX7_readHead 15 = .ok (.ifCond .eq 14, 3) := by decide +kernel
theorem dX7_readHead_18 : decode cX7_readHead 18 = .ok (.aload_n 0, 1) := by decide +kernel
theorem dX7_readHead_19 : decode cX7_readHead 19 = .ok (.iconst 1, 1) := by decide +kernel
theorem dX7_readHead_20 : decode cX7_readHead 20 = .ok (.bipush 6, 2) := by decide +kernel
theorem dX7_readHead_22 : decode cX7_readHead 22 = .ok (.iconst (-1), 1) := by decide +kernel
theorem dX7_readHead_23 : decode cX7_readHead 23 = .ok (.invokevirtual 68, 3) := by decide +kernel
theorem dX7_readHead_26 : decode cX7_readHead 26 = .ok (.ifCond .ne 5, 3) := by decide +kernel
theorem dX7_readHead_29 : decode cX7_readHead 29 = .ok (.iconst 0, 1) := by decide +kernel
theorem dX7_readHead_30 : decode cX7_readHead 30 = .ok (.ireturn, 1) := by decide +kernel
theorem dX7_readHead_31 : decode cX7_readHead 31 = .ok (.aload_n 0, 1) := by decide +kernel
theorem dX7_readHead_32 : decode cX7_readHead 32 = .ok (.getfield 18, 3) := by decide +kernel
theorem dX7_readHead_35 : decode cX7_readHead 35 = .ok (.aload_n 0, 1) := by decide +kernel
theorem dX7_readHead_36 : decode cX7_readHead 36 = .ok (.getfield 72, 3) := by decide +kernel
theorem dX7_readHead_39 : decode cX7_readHead 39 = .ok (.putfield 75, 3) := by decide +kernel
theorem dX7_readHead_42 : decode cX7_readHead 42 = .ok (.aload_n 0, 1) := by decide +kernel
theorem dX7_readHead_43 : decode cX7_readHead 43 = .ok (.ldc 77, 2) := by decide +kernel
theorem dX7_readHead_45 : decode cX7_readHead 45 = .ok (.invokevirtual 62, 3) := by decide +kernel
theorem dX7_readHead_48 : decode cX7_readHead 48 = .ok (.ifCond .eq 14, 3) := by decide +kernel
theorem dX7_readHead_51 : decode cX7_readHead 51 = .ok (.aload_n 0, 1) := by decide +kernel
theorem dX7_readHead_52 : decode cX7_readHead 52 = .ok (.iconst 0, 1) := by decide +kernel
theorem dX7_readHead_53 : decode cX7_readHead 53 = .ok (.bipush 9, 2) := by decide +kernel
theorem dX7_readHead_55 : decode cX7_readHead 55 = .ok (.iconst (-1), 1) := by decide +kernel
theorem dX7_readHead_56 : decode cX7_readHead 56 = .ok (.invokevirtual 68, 3) := by decide +kernel
theorem dX7_readHead_59 : decode cX7_readHead 59 = .ok (.ifCond .ne 5, 3) := by decide +kernel
theorem dX7_readHead_62 : decode cX7_readHead 62 = .ok (.iconst 0, 1) := by decide +kernel
theorem dX7_readHead_63 : decode cX7_readHead 63 = .ok (.ireturn, 1) := by decide +kernel
theorem dX7_readHead_64 : decode cX7_readHead 64 = .ok (.aload_n 0, 1) := by decide +kernel
theorem dX7_readHead_65 : decode cX7_readHead 65 = .ok (.getfield 18, 3) := by decide +kernel
theorem dX7_readHead_68 : decode cX7_readHead 68 = .ok (.aload_n 0, 1) := by decide +kernel
theorem dX7_readHead_69 : decode cX7_readHead 69 = .ok (.getfield 72, 3) := by decide +kernel
theorem dX7_readHead_72 : decode cX7_readHead 72 = .ok (.putfield 79, 3) := by decide +kernel
theorem dX7_readHead_75 : decode cX7_readHead 75 = .ok (.aload_n 0, 1) := by decide +kernel
theorem dX7_readHead_76 : decode cX7_readHead 76 = .ok (.invokevirtual 54, 3) := by decide +kernel
theorem dX7_readHead_79 : decode cX7_readHead 79 = .ok (.ireturn, 1) := by decide +kernel
theorem dX7_takeLineEnd_0 : decode cX7_takeLineEnd 0 = .ok (.aload_n 0, 1) := by decide +kernel
theorem dX7_takeLineEnd_1 : decode cX7_takeLineEnd 1 = .ok (.bipush 59, 2) := by decide +kernel
theorem dX7_takeLineEnd_3 : decode cX7_takeLineEnd 3 = .ok (.invokevirtual 82, 3) := by decide +kernel
theorem dX7_takeLineEnd_6 : decode cX7_takeLineEnd 6 = .ok (.ifCond .ne 5, 3) := by decide +kernel
theorem dX7_takeLineEnd_9 : decode cX7_takeLineEnd 9 = .ok (.iconst 0, 1) := by decide +kernel
theorem dX7_takeLineEnd_10 : decode cX7_takeLineEnd 10 = .ok (.ireturn, 1) := by decide +kernel
theorem dX7_takeLineEnd_11 : decode cX7_takeLineEnd 11 = .ok (.aload_n 0, 1) := by decide +kernel
theorem dX7_takeLineEnd_12 : decode cX7_takeLineEnd 12 = .ok (.getfield 18, 3) := by decide +kernel
theorem dX7_takeLineEnd_15 : decode cX7_takeLineEnd 15 = .ok (.dup, 1) := by decide +kernel
theorem dX7_takeLineEnd_16 : decode cX7_takeLineEnd 16 = .ok (.getfield 86, 3) := by decide +kernel
theorem dX7_takeLineEnd_19 : decode cX7_takeLineEnd 19 = .ok (.iconst 1, 1) := by decide +kernel
theorem dX7_takeLineEnd_20 : decode cX7_takeLineEnd 20 = .ok (.iadd, 1) := by decide +kernel
theorem dX7_takeLineEnd_21 : decode cX7_takeLineEnd 21 = .ok (.putfield 86, 3) := by decide +kernel
theorem dX7_takeLineEnd_24 : decode cX7_takeLineEnd 24 = .ok (.iconst 1, 1) := by decide +kernel
theorem dX7_takeLineEnd_25 : decode cX7_takeLineEnd 25 = .ok (.ireturn, 1) := by decide +kernel
theorem dX7_readLine_0 : decode cX7_readLine 0 = .ok (.aload_n 0, 1) := by decide +kernel
theorem dX7_readLine_1 : decode cX7_readLine 1 = .ok (.ldc 89, 2) := by decide +kernel
theorem dX7_readLine_3 : decode cX7_readLine 3 = .ok (.invokevirtual 91, 3) := by decide +kernel
theorem dX7_readLine_6 : decode cX7_readLine 6 = .ok (.ifCond .eq 8, 3) := by decide +kernel
theorem dX7_readLine_9 : decode cX7_readLine 9 = .ok (.aload_n 0, 1) := by decide +kernel
theorem dX7_readLine_10 : decode cX7_readLine 10 = .ok (.invokevirtual 94, 3) := by decide +kernel
theorem dX7_readLine_13 : decode cX7_readLine 13 = .ok (.ireturn, 1) := by decide +kernel
theorem dX7_readLine_14 : decode cX7_readLine 14 = .ok (.aload_n 0, 1) := by decide +kernel
theorem dX7_readLine_15 : decode cX7_readLine 15 = .ok (.ldc 97, 2) := by decide +kernel
theorem dX7_readLine_17 : decode cX7_readLine 17 = .ok (.invokevirtual 91, 3) := by decide +kernel
theorem dX7_readLine_20 : decode cX7_readLine 20 = .ok (.ifCond .eq 8, 3) := by decide +kernel
theorem dX7_readLine_23 : decode cX7_readLine 23 = .ok (.aload_n 0, 1) := by decide +kernel
theorem dX7_readLine_24 : decode cX7_readLine 24 = .ok (.invokevirtual 99, 3) := by decide +kernel
theorem dX7_readLine_27 : decode cX7_readLine 27 = .ok (.ireturn, 1) := by decide +kernel
theorem dX7_readLine_28 : decode cX7_readLine 28 = .ok (.aload_n 0, 1) := by decide +kernel
theorem dX7_readLine_29 : decode cX7_readLine 29 = .ok (.ldc 102, 2) := by decide +kernel
theorem dX7_readLine_31 : decode cX7_readLine 31 = .ok (.invokevirtual 91, 3) := by decide +kernel
theorem dX7_readLine_34 : decode cX7_readLine 34 = .ok (.ifCond .eq 8, 3) := by decide +kernel
theorem dX7_readLine_37 : decode cX7_readLine 37 = .ok (.aload_n 0, 1) := by decide +kernel
theorem dX7_readLine_38 : decode cX7_readLine 38 = .ok (.invokevirtual 104, 3) := by decide +kernel
theorem dX7_readLine_41 : decode cX7_readLine 41 = .ok (.ireturn, 1) := by decide +kernel
theorem dX7_readLine_42 : decode cX7_readLine 42 = .ok (.aload_n 0, 1) := by decide +kernel
theorem dX7_readLine_43 : decode cX7_readLine 43 = .ok (.ldc 107, 2) := by decide +kernel
theorem dX7_readLine_45 : decode cX7_readLine 45 = .ok (.invokevirtual 91, 3) := by decide +kernel
theorem dX7_readLine_48 : decode cX7_readLine 48 = .ok (.ifCond .eq 8, 3) := by decide +kernel
theorem dX7_readLine_51 : decode cX7_readLine 51 = .ok (.aload_n 0, 1) := by decide +kernel
theorem dX7_readLine_52 : decode cX7_readLine 52 = .ok (.invokevirtual 109, 3) := by decide +kernel
theorem dX7_readLine_55 : decode cX7_readLine 55 = .ok (.ireturn, 1) := by decide +kernel
theorem dX7_readLine_56 : decode cX7_readLine 56 = .ok (.aload_n 0, 1) := by decide +kernel
theorem dX7_readLine_57 : decode cX7_readLine 57 = .ok (.ldc 112, 2) := by decide +kernel
theorem dX7_readLine_59 : decode cX7_readLine 59 = .ok (.invokevirtual 91, 3) := by decide +kernel
theorem dX7_readLine_62 : decode cX7_readLine 62 = .ok (.ifCond .eq 8, 3) := by decide +kernel
theorem dX7_readLine_65 : decode cX7_readLine 65 = .ok (.aload_n 0, 1) := by decide +kernel
theorem dX7_readLine_66 : decode cX7_readLine 66 = .ok (.invokevirtual 114, 3) := by decide +kernel
theorem dX7_readLine_69 : decode cX7_readLine 69 = .ok (.ireturn, 1) := by decide +kernel
theorem dX7_readLine_70 : decode cX7_readLine 70 = .ok (.aload_n 0, 1) := by decide +kernel
theorem dX7_readLine_71 : decode cX7_readLine 71 = .ok (.ldc 117, 2) := by decide +kernel
theorem dX7_readLine_73 : decode cX7_readLine 73 = .ok (.invokevirtual 91, 3) := by decide +kernel
theorem dX7_readLine_76 : decode cX7_readLine 76 = .ok (.ifCond .eq 10, 3) := by decide +kernel
theorem dX7_readLine_79 : decode cX7_readLine 79 = .ok (.aload_n 0, 1) := by decide +kernel
theorem dX7_readLine_80 : decode cX7_readLine 80 = .ok (.invokevirtual 119, 3) := by decide +kernel
theorem dX7_readLine_83 : decode cX7_readLine 83 = .ok (.goto 8, 3) := by decide +kernel
theorem dX7_readLine_86 : decode cX7_readLine 86 = .ok (.aload_n 0, 1) := by decide +kernel
theorem dX7_readLine_87 : decode cX7_readLine 87 = .ok (.iconst 2, 1) := by decide +kernel
theorem dX7_readLine_88 : decode cX7_readLine 88 = .ok (.invokevirtual 122, 3) := by decide +kernel
theorem dX7_readLine_91 : decode cX7_readLine 91 = .ok (.ireturn, 1) := by decide +kernel
theorem dX7_readRoad_0 : decode cX7_readRoad 0 = .ok (.aload_n 0, 1) := by decide +kernel
theorem dX7_readRoad_1 : decode cX7_readRoad 1 = .ok (.getfield 18, 3) := by decide +kernel
theorem dX7_readRoad_4 : decode cX7_readRoad 4 = .ok (.getfield 126, 3) := by decide +kernel
theorem dX7_readRoad_7 : decode cX7_readRoad 7 = .ok (.istore_n 1, 1) := by decide +kernel
theorem dX7_readRoad_8 : decode cX7_readRoad 8 = .ok (.iload_n 1, 1) := by decide +kernel
theorem dX7_readRoad_9 : decode cX7_readRoad 9 = .ok (.bipush 9, 2) := by decide +kernel
theorem dX7_readRoad_11 : decode cX7_readRoad 11 = .ok (.if_icmp .lt 9, 3) := by decide +kernel
theorem dX7_readRoad_14 : decode cX7_readRoad 14 = .ok (.aload_n 0, 1) := by decide +kernel
theorem dX7_readRoad_15 : decode cX7_readRoad 15 = .ok (.iconst 4, 1) := by decide +kernel
theorem dX7_readRoad_16 : decode cX7_readRoad 16 = .ok (.invokevirtual 122, 3) := by decide +kernel
theorem dX7_readRoad_19 : decode cX7_readRoad 19 = .ok (.ireturn, 1) := by decide +kernel
theorem dX7_readRoad_20 : decode cX7_readRoad 20 = .ok (.aload_n 0, 1) := by decide +kernel
theorem dX7_readRoad_21 : decode cX7_readRoad 21 = .ok (.invokevirtual 41, 3) := by decide +kernel
theorem dX7_readRoad_24 : decode cX7_readRoad 24 = .ok (.aload_n 0, 1) := by decide +kernel
theorem dX7_readRoad_25 : decode cX7_readRoad 25 = .ok (.iconst 0, 1) := by decide +kernel
theorem dX7_readRoad_26 : decode cX7_readRoad 26 = .ok (.aload_n 0, 1) := by decide +kernel
theorem dX7_readRoad_27 : decode cX7_readRoad 27 = .ok (.getfield 18, 3) := by decide +kernel
theorem dX7_readRoad_30 : decode cX7_readRoad 30 = .ok (.getfield 75, 3) := by decide +kernel
theorem dX7_readRoad_33 : decode cX7_readRoad 33 = .ok (.iconst 1, 1) := by decide +kernel
theorem dX7_readRoad_34 : decode cX7_readRoad 34 = .ok (.isub, 1) := by decide +kernel
theorem dX7_readRoad_35 : decode cX7_readRoad 35 = .ok (.iconst (-1), 1) := by decide +kernel
theorem dX7_readRoad_36 : decode cX7_readRoad 36 = .ok (.invokevirtual 68, 3) := by decide +kernel
theorem dX7_readRoad_39 : decode cX7_readRoad 39 = .ok (.ifCond .ne 5, 3) := by decide +kernel
theorem dX7_readRoad_42 : decode cX7_readRoad 42 = .ok (.iconst 0, 1) := by decide +kernel
theorem dX7_readRoad_43 : decode cX7_readRoad 43 = .ok (.ireturn, 1) := by decide +kernel
theorem dX7_readRoad_44 : decode cX7_readRoad 44 = .ok (.aload_n 0, 1) := by decide +kernel
theorem dX7_readRoad_45 : decode cX7_readRoad 45 = .ok (.getfield 18, 3) := by decide +kernel
theorem dX7_readRoad_48 : decode cX7_readRoad 48 = .ok (.getfield 129, 3) := by decide +kernel
theorem dX7_readRoad_51 : decode cX7_readRoad 51 = .ok (.iload_n 1, 1) := by decide +kernel
theorem dX7_readRoad_52 : decode cX7_readRoad 52 = .ok (.aload_n 0, 1) := by decide +kernel
theorem dX7_readRoad_53 : decode cX7_readRoad 53 = .ok (.getfield 72, 3) := by decide +kernel
theorem dX7_readRoad_56 : decode cX7_readRoad 56 = .ok (.iastore, 1) := by decide +kernel
theorem dX7_readRoad_57 : decode cX7_readRoad 57 = .ok (.aload_n 0, 1) := by decide +kernel
theorem dX7_readRoad_58 : decode cX7_readRoad 58 = .ok (.iconst 0, 1) := by decide +kernel
theorem dX7_readRoad_59 : decode cX7_readRoad 59 = .ok (.aload_n 0, 1) := by decide +kernel
theorem dX7_readRoad_60 : decode cX7_readRoad 60 = .ok (.getfield 18, 3) := by decide +kernel
theorem dX7_readRoad_63 : decode cX7_readRoad 63 = .ok (.getfield 75, 3) := by decide +kernel
theorem dX7_readRoad_66 : decode cX7_readRoad 66 = .ok (.iconst 1, 1) := by decide +kernel
theorem dX7_readRoad_67 : decode cX7_readRoad 67 = .ok (.isub, 1) := by decide +kernel
theorem dX7_readRoad_68 : decode cX7_readRoad 68 = .ok (.aload_n 0, 1) := by decide +kernel
theorem dX7_readRoad_69 : decode cX7_readRoad 69 = .ok (.getfield 72, 3) := by decide +kernel
theorem dX7_readRoad_72 : decode cX7_readRoad 72 = .ok (.invokevirtual 68, 3) := by decide +kernel
theorem dX7_readRoad_75 : decode cX7_readRoad 75 = .ok (.ifCond .ne 5, 3) := by decide +kernel
theorem dX7_readRoad_78 : decode cX7_readRoad 78 = .ok (.iconst 0, 1) := by decide +kernel
theorem dX7_readRoad_79 : decode cX7_readRoad 79 = .ok (.ireturn, 1) := by decide +kernel
theorem dX7_readRoad_80 : decode cX7_readRoad 80 = .ok (.aload_n 0, 1) := by decide +kernel
theorem dX7_readRoad_81 : decode cX7_readRoad 81 = .ok (.getfield 18, 3) := by decide +kernel
theorem dX7_readRoad_84 : decode cX7_readRoad 84 = .ok (.getfield 133, 3) := by decide +kernel
theorem dX7_readRoad_87 : decode cX7_readRoad 87 = .ok (.iload_n 1, 1) := by decide +kernel
theorem dX7_readRoad_88 : decode cX7_readRoad 88 = .ok (.aload_n 0, 1) := by decide +kernel
theorem dX7_readRoad_89 : decode cX7_readRoad 89 = .ok (.getfield 72, 3) := by decide +kernel
theorem dX7_readRoad_92 : decode cX7_readRoad 92 = .ok (.iastore, 1) := by decide +kernel
theorem dX7_readRoad_93 : decode cX7_readRoad 93 = .ok (.aload_n 0, 1) := by decide +kernel
theorem dX7_readRoad_94 : decode cX7_readRoad 94 = .ok (.ldc 136, 2) := by decide +kernel
theorem dX7_readRoad_96 : decode cX7_readRoad 96 = .ok (.invokevirtual 62, 3) := by decide +kernel
theorem dX7_readRoad_99 : decode cX7_readRoad 99 = .ok (.ifCond .eq 14, 3) := by decide +kernel
theorem dX7_readRoad_102 : decode cX7_readRoad 102 = .ok (.aload_n 0, 1) := by decide +kernel
theorem dX7_readRoad_103 : decode cX7_readRoad 103 = .ok (.iconst 1, 1) := by decide +kernel
theorem dX7_readRoad_104 : decode cX7_readRoad 104 = .ok (.bipush 9, 2) := by decide +kernel
theorem dX7_readRoad_106 : decode cX7_readRoad 106 = .ok (.iconst (-1), 1) := by decide +kernel
theorem dX7_readRoad_107 : decode cX7_readRoad 107 = .ok (.invokevirtual 68, 3) := by decide +kernel
theorem dX7_readRoad_110 : decode cX7_readRoad 110 = .ok (.ifCond .ne 5, 3) := by decide +kernel
theorem dX7_readRoad_113 : decode cX7_readRoad 113 = .ok (.iconst 0, 1) := by decide +kernel
theorem dX7_readRoad_114 : decode cX7_readRoad 114 = .ok (.ireturn, 1) := by decide +kernel
theorem dX7_readRoad_115 : decode cX7_readRoad 115 = .ok (.aload_n 0, 1) := by decide +kernel
theorem dX7_readRoad_116 : decode cX7_readRoad 116 = .ok (.getfield 18, 3) := by decide +kernel
theorem dX7_readRoad_119 : decode cX7_readRoad 119 = .ok (.getfield 138, 3) := by decide +kernel
theorem dX7_readRoad_122 : decode cX7_readRoad 122 = .ok (.iload_n 1, 1) := by decide +kernel
theorem dX7_readRoad_123 : decode cX7_readRoad 123 = .ok (.aload_n 0, 1) := by decide +kernel
theorem dX7_readRoad_124 : decode cX7_readRoad 124 = .ok (.getfield 72, 3) := by decide +kernel
theorem dX7_readRoad_127 : decode cX7_readRoad 127 = .ok (.iastore, 1) := by decide +kernel
theorem dX7_readRoad_128 : decode cX7_readRoad 128 = .ok (.aload_n 0, 1) := by decide +kernel
theorem dX7_readRoad_129 : decode cX7_readRoad 129 = .ok (.getfield 18, 3) := by decide +kernel
theorem dX7_readRoad_132 : decode cX7_readRoad 132 = .ok (.dup, 1) := by decide +kernel
theorem dX7_readRoad_133 : decode cX7_readRoad 133 = .ok (.getfield 126, 3) := by decide +kernel
theorem dX7_readRoad_136 : decode cX7_readRoad 136 = .ok (.iconst 1, 1) := by decide +kernel
theorem dX7_readRoad_137 : decode cX7_readRoad 137 = .ok (.iadd, 1) := by decide +kernel
theorem dX7_readRoad_138 : decode cX7_readRoad 138 = .ok (.putfield 126, 3) := by decide +kernel
theorem dX7_readRoad_141 : decode cX7_readRoad 141 = .ok (.iconst 1, 1) := by decide +kernel
theorem dX7_readRoad_142 : decode cX7_readRoad 142 = .ok (.ireturn, 1) := by decide +kernel
theorem dX7_readPerson_0 : decode cX7_readPerson 0 = .ok (.aload_n 0, 1) := by decide +kernel
theorem dX7_readPerson_1 : decode cX7_readPerson 1 = .ok (.getfield 18, 3) := by decide +kernel
theorem dX7_readPerson_4 : decode cX7_readPerson 4 = .ok (.getfield 141, 3) := by decide +kernel
theorem dX7_readPerson_7 : decode cX7_readPerson 7 = .ok (.istore_n 1, 1) := by decide +kernel
theorem dX7_readPerson_8 : decode cX7_readPerson 8 = .ok (.iload_n 1, 1) := by decide +kernel
theorem dX7_readPerson_9 : decode cX7_readPerson 9 = .ok (.bipush 8, 2) := by decide +kernel
theorem dX7_readPerson_11 : decode cX7_readPerson 11 = .ok (.if_icmp .lt 9, 3) := by decide +kernel
theorem dX7_readPerson_14 : decode cX7_readPerson 14 = .ok (.aload_n 0, 1) := by decide +kernel
theorem dX7_readPerson_15 : decode cX7_readPerson 15 = .ok (.iconst 4, 1) := by decide +kernel
theorem dX7_readPerson_16 : decode cX7_readPerson 16 = .ok (.invokevirtual 122, 3) := by decide +kernel
theorem dX7_readPerson_19 : decode cX7_readPerson 19 = .ok (.ireturn, 1) := by decide +kernel
theorem dX7_readPerson_20 : decode cX7_readPerson 20 = .ok (.aload_n 0, 1) := by decide +kernel
theorem dX7_readPerson_21 : decode cX7_readPerson 21 = .ok (.invokevirtual 41, 3) := by decide +kernel
theorem dX7_readPerson_24 : decode cX7_readPerson 24 = .ok (.aload_n 0, 1) := by decide +kernel
theorem dX7_readPerson_25 : decode cX7_readPerson 25 = .ok (.ldc 144, 2) := by decide +kernel
theorem dX7_readPerson_27 : decode cX7_readPerson 27 = .ok (.invokevirtual 62, 3) := by decide +kernel
theorem dX7_readPerson_30 : decode cX7_readPerson 30 = .ok (.ifCond .eq 21, 3) := by decide +kernel
theorem dX7_readPerson_33 : decode cX7_readPerson 33 = .ok (.aload_n 0, 1) := by decide +kernel
theorem dX7_readPerson_34 : decode cX7_readPerson 34 = .ok (.iconst 0, 1) := by decide +kernel
theorem dX7_readPerson_35 : decode cX7_readPerson 35 = .ok (.aload_n 0, 1) := by decide +kernel
theorem dX7_readPerson_36 : decode cX7_readPerson 36 = .ok (.getfield 18, 3) := by decide +kernel
theorem dX7_readPerson_39 : decode cX7_readPerson 39 = .ok (.getfield 75, 3) := by decide +kernel
theorem dX7_readPerson_42 : decode cX7_readPerson 42 = .ok (.iconst 1, 1) := by decide +kernel
theorem dX7_readPerson_43 : decode cX7_readPerson 43 = .ok (.isub, 1) := by decide +kernel
theorem dX7_readPerson_44 : decode cX7_readPerson 44 = .ok (.iconst (-1), 1) := by decide +kernel
theorem dX7_readPerson_45 : decode cX7_readPerson 45 = .ok (.invokevirtual 68, 3) := by decide +kernel
theorem dX7_readPerson_48 : decode cX7_readPerson 48 = .ok (.ifCond .ne 5, 3) := by decide +kernel
theorem dX7_readPerson_51 : decode cX7_readPerson 51 = .ok (.iconst 0, 1) := by decide +kernel
theorem dX7_readPerson_52 : decode cX7_readPerson 52 = .ok (.ireturn, 1) := by decide +kernel
theorem dX7_readPerson_53 : decode cX7_readPerson 53 = .ok (.aload_n 0, 1) := by decide +kernel
theorem dX7_readPerson_54 : decode cX7_readPerson 54 = .ok (.getfield 18, 3) := by decide +kernel
theorem dX7_readPerson_57 : decode cX7_readPerson 57 = .ok (.getfield 146, 3) := by decide +kernel
theorem dX7_readPerson_60 : decode cX7_readPerson 60 = .ok (.iload_n 1, 1) := by decide +kernel
theorem dX7_readPerson_61 : decode cX7_readPerson 61 = .ok (.aload_n 0, 1) := by decide +kernel
theorem dX7_readPerson_62 : decode cX7_readPerson 62 = .ok (.getfield 72, 3) := by decide +kernel
theorem dX7_readPerson_65 : decode cX7_readPerson 65 = .ok (.iastore, 1) := by decide +kernel
theorem dX7_readPerson_66 : decode cX7_readPerson 66 = .ok (.aload_n 0, 1) := by decide +kernel
theorem dX7_readPerson_67 : decode cX7_readPerson 67 = .ok (.ldc 149, 2) := by decide +kernel
theorem dX7_readPerson_69 : decode cX7_readPerson 69 = .ok (.invokevirtual 62, 3) := by decide +kernel
theorem dX7_readPerson_72 : decode cX7_readPerson 72 = .ok (.ifCond .eq 14, 3) := by decide +kernel
theorem dX7_readPerson_75 : decode cX7_readPerson 75 = .ok (.aload_n 0, 1) := by decide +kernel
theorem dX7_readPerson_76 : decode cX7_readPerson 76 = .ok (.iconst 0, 1) := by decide +kernel
theorem dX7_readPerson_77 : decode cX7_readPerson 77 = .ok (.bipush 9, 2) := by decide +kernel
theorem dX7_readPerson_79 : decode cX7_readPerson 79 = .ok (.iconst (-1), 1) := by decide +kernel
theorem dX7_readPerson_80 : decode cX7_readPerson 80 = .ok (.invokevirtual 68, 3) := by decide +kernel
theorem dX7_readPerson_83 : decode cX7_readPerson 83 = .ok (.ifCond .ne 5, 3) := by decide +kernel
theorem dX7_readPerson_86 : decode cX7_readPerson 86 = .ok (.iconst 0, 1) := by decide +kernel
theorem dX7_readPerson_87 : decode cX7_readPerson 87 = .ok (.ireturn, 1) := by decide +kernel
theorem dX7_readPerson_88 : decode cX7_readPerson 88 = .ok (.aload_n 0, 1) := by decide +kernel
theorem dX7_readPerson_89 : decode cX7_readPerson 89 = .ok (.getfield 18, 3) := by decide +kernel
theorem dX7_readPerson_92 : decode cX7_readPerson 92 = .ok (.getfield 151, 3) := by decide +kernel
theorem dX7_readPerson_95 : decode cX7_readPerson 95 = .ok (.iload_n 1, 1) := by decide +kernel
theorem dX7_readPerson_96 : decode cX7_readPerson 96 = .ok (.aload_n 0, 1) := by decide +kernel
theorem dX7_readPerson_97 : decode cX7_readPerson 97 = .ok (.getfield 72, 3) := by decide +kernel
theorem dX7_readPerson_100 : decode cX7_readPerson 100 = .ok (.iastore, 1) := by decide +kernel
theorem dX7_readPerson_101 : decode cX7_readPerson 101 = .ok (.aload_n 0, 1) := by decide +kernel
theorem dX7_readPerson_102 : decode cX7_readPerson 102 = .ok (.getfield 18, 3) := by decide +kernel
theorem dX7_readPerson_105 : decode cX7_readPerson 105 = .ok (.dup, 1) := by decide +kernel
theorem dX7_readPerson_106 : decode cX7_readPerson 106 = .ok (.getfield 141, 3) := by decide +kernel
theorem dX7_readPerson_109 : decode cX7_readPerson 109 = .ok (.iconst 1, 1) := by decide +kernel
theorem dX7_readPerson_110 : decode cX7_readPerson 110 = .ok (.iadd, 1) := by decide +kernel
theorem dX7_readPerson_111 : decode cX7_readPerson 111 = .ok (.putfield 141, 3) := by decide +kernel
theorem dX7_readPerson_114 : decode cX7_readPerson 114 = .ok (.iconst 1, 1) := by decide +kernel
theorem dX7_readPerson_115 : decode cX7_readPerson 115 = .ok (.ireturn, 1) := by decide +kernel
theorem dX7_readQuarrel_0 : decode cX7_readQuarrel 0 = .ok (.aload_n 0, 1) := by decide +kernel
theorem dX7_readQuarrel_1 : decode cX7_readQuarrel 1 = .ok (.invokevirtual 41, 3) := by decide +kernel
theorem dX7_readQuarrel_4 : decode cX7_readQuarrel 4 = .ok (.aload_n 0, 1) := by decide +kernel
theorem dX7_readQuarrel_5 : decode cX7_readQuarrel 5 = .ok (.iconst 0, 1) := by decide +kernel
theorem dX7_readQuarrel_6 : decode cX7_readQuarrel 6 = .ok (.aload_n 0, 1) := by decide +kernel
theorem dX7_readQuarrel_7 : decode cX7_readQuarrel 7 = .ok (.getfield 18, 3) := by decide +kernel
theorem dX7_readQuarrel_10 : decode cX7_readQuarrel 10 = .ok (.getfield 141, 3) := by decide +kernel
theorem dX7_readQuarrel_13 : decode cX7_readQuarrel 13 = .ok (.iconst 1, 1) := by decide +kernel
theorem dX7_readQuarrel_14 : decode cX7_readQuarrel 14 = .ok (.isub, 1) := by decide +kernel
theorem dX7_readQuarrel_15 : decode cX7_readQuarrel 15 = .ok (.iconst (-1), 1) := by decide +kernel
theorem dX7_readQuarrel_16 : decode cX7_readQuarrel 16 = .ok (.invokevirtual 68, 3) := by decide +kernel
theorem dX7_readQuarrel_19 : decode cX7_readQuarrel 19 = .ok (.ifCond .ne 5, 3) := by decide +kernel
theorem dX7_readQuarrel_22 : decode cX7_readQuarrel 22 = .ok (.iconst 0, 1) := by decide +kernel
theorem dX7_readQuarrel_23 : decode cX7_readQuarrel 23 = .ok (.ireturn, 1) := by decide +kernel
theorem dX7_readQuarrel_24 : decode cX7_readQuarrel 24 = .ok (.aload_n 0, 1) := by decide +kernel
theorem dX7_readQuarrel_25 : decode cX7_readQuarrel 25 = .ok (.getfield 72, 3) := by decide +kernel
theorem dX7_readQuarrel_28 : decode cX7_readQuarrel 28 = .ok (.istore_n 1, 1) := by decide +kernel
theorem dX7_readQuarrel_29 : decode cX7_readQuarrel 29 = .ok (.aload_n 0, 1) := by decide +kernel
theorem dX7_readQuarrel_30 : decode cX7_readQuarrel 30 = .ok (.iconst 0, 1) := by decide +kernel
theorem dX7_readQuarrel_31 : decode cX7_readQuarrel 31 = .ok (.aload_n 0, 1) := by decide +kernel
theorem dX7_readQuarrel_32 : decode cX7_readQuarrel 32 = .ok (.getfield 18, 3) := by decide +kernel
theorem dX7_readQuarrel_35 : decode cX7_readQuarrel 35 = .ok (.getfield 141, 3) := by decide +kernel
theorem dX7_readQuarrel_38 : decode cX7_readQuarrel 38 = .ok (.iconst 1, 1) := by decide +kernel
theorem dX7_readQuarrel_39 : decode cX7_readQuarrel 39 = .ok (.isub, 1) := by decide +kernel
theorem dX7_readQuarrel_40 : decode cX7_readQuarrel 40 = .ok (.iload_n 1, 1) := by decide +kernel
theorem dX7_readQuarrel_41 : decode cX7_readQuarrel 41 = .ok (.invokevirtual 68, 3) := by decide +kernel
theorem dX7_readQuarrel_44 : decode cX7_readQuarrel 44 = .ok (.ifCond .ne 5, 3) := by decide +kernel
theorem dX7_readQuarrel_47 : decode cX7_readQuarrel 47 = .ok (.iconst 0, 1) := by decide +kernel
theorem dX7_readQuarrel_48 : decode cX7_readQuarrel 48 = .ok (.ireturn, 1) := by decide +kernel
theorem dX7_readQuarrel_49 : decode cX7_readQuarrel 49 = .ok (.aload_n 0, 1) := by decide +kernel
theorem dX7_readQuarrel_50 : decode cX7_readQuarrel 50 = .ok (.getfield 18, 3) := by decide +kernel
theorem dX7_readQuarrel_53 : decode cX7_readQuarrel 53 = .ok (.getfield 154, 3) := by decide +kernel
theorem dX7_readQuarrel_56 : decode cX7_readQuarrel 56 = .ok (.iload_n 1, 1) := by decide +kernel
theorem dX7_readQuarrel_57 : decode cX7_readQuarrel 57 = .ok (.dup2, 1) := by decide +kernel
theorem dX7_readQuarrel_58 : decode cX7_readQuarrel 58 = .ok (.iaload, 1) := by decide +kernel
theorem dX7_readQuarrel_59 : decode cX7_readQuarrel 59 = .ok (.iconst 1, 1) := by decide +kernel
theorem dX7_readQuarrel_60 : decode cX7_readQuarrel 60 = .ok (.aload_n 0, 1) := by decide +kernel
theorem dX7_readQuarrel_61 : decode cX7_readQuarrel 61 = .ok (.getfield 72, 3) := by decide +kernel
theorem dX7_readQuarrel_64 : decode cX7_readQuarrel 64 = .ok (.ishl, 1) := by decide +kernel
theorem dX7_readQuarrel_65 : decode cX7_readQuarrel 65 = .ok (.ior, 1) := by decide +kernel
theorem dX7_readQuarrel_66 : decode cX7_readQuarrel 66 = .ok (.iastore, 1) := by decide +kernel
theorem dX7_readQuarrel_67 : decode cX7_readQuarrel 67 = .ok (.aload_n 0, 1) := by decide +kernel
theorem dX7_readQuarrel_68 : decode cX7_readQuarrel 68 = .ok (.getfield 18, 3) := by decide +kernel
theorem dX7_readQuarrel_71 : decode cX7_readQuarrel 71 = .ok (.getfield 154, 3) := by decide +kernel
theorem dX7_readQuarrel_74 : decode cX7_readQuarrel 74 = .ok (.aload_n 0, 1) := by decide +kernel
theorem dX7_readQuarrel_75 : decode cX7_readQuarrel 75 = .ok (.getfield 72, 3) := by decide +kernel
theorem dX7_readQuarrel_78 : decode cX7_readQuarrel 78 = .ok (.dup2, 1) := by decide +kernel
theorem dX7_readQuarrel_79 : decode cX7_readQuarrel 79 = .ok (.iaload, 1) := by decide +kernel
theorem dX7_readQuarrel_80 : decode cX7_readQuarrel 80 = .ok (.iconst 1, 1) := by decide +kernel
theorem dX7_readQuarrel_81 : decode cX7_readQuarrel 81 = .ok (.iload_n 1, 1) := by decide +kernel
theorem dX7_readQuarrel_82 : decode cX7_readQuarrel 82 = .ok (.ishl, 1) := by decide +kernel
theorem dX7_readQuarrel_83 : decode cX7_readQuarrel 83 = .ok (.ior, 1) := by decide +kernel
theorem dX7_readQuarrel_84 : decode cX7_readQuarrel 84 = .ok (.iastore, 1) := by decide +kernel
theorem dX7_readQuarrel_85 : decode cX7_readQuarrel 85 = .ok (.iconst 1, 1) := by decide +kernel
theorem dX7_readQuarrel_86 : decode cX7_readQuarrel 86 = .ok (.ireturn, 1) := by decide +kernel
theorem dX7_readCoin_0 : decode cX7_readCoin 0 = .ok (.aload_n 0, 1) := by decide +kernel
theorem dX7_readCoin_1 : decode cX7_readCoin 1 = .ok (.getfield 18, 3) := by decide +kernel
theorem dX7_readCoin_4 : decode cX7_readCoin 4 = .ok (.getfield 157, 3) := by decide +kernel
theorem dX7_readCoin_7 : decode cX7_readCoin 7 = .ok (.istore_n 1, 1) := by decide +kernel
theorem dX7_readCoin_8 : decode cX7_readCoin 8 = .ok (.iload_n 1, 1) := by decide +kernel
theorem dX7_readCoin_9 : decode cX7_readCoin 9 = .ok (.iconst 4, 1) := by decide +kernel
theorem dX7_readCoin_10 : decode cX7_readCoin 10 = .ok (.if_icmp .lt 9, 3) := by decide +kernel
theorem dX7_readCoin_13 : decode cX7_readCoin 13 = .ok (.aload_n 0, 1) := by decide +kernel
theorem dX7_readCoin_14 : decode cX7_readCoin 14 = .ok (.iconst 4, 1) := by decide +kernel
theorem dX7_readCoin_15 : decode cX7_readCoin 15 = .ok (.invokevirtual 122, 3) := by decide +kernel
theorem dX7_readCoin_18 : decode cX7_readCoin 18 = .ok (.ireturn, 1) := by decide +kernel
theorem dX7_readCoin_19 : decode cX7_readCoin 19 = .ok (.aload_n 0, 1) := by decide +kernel
theorem dX7_readCoin_20 : decode cX7_readCoin 20 = .ok (.invokevirtual 41, 3) := by decide +kernel
theorem dX7_readCoin_23 : decode cX7_readCoin 23 = .ok (.aload_n 0, 1) := by decide +kernel
theorem dX7_readCoin_24 : decode cX7_readCoin 24 = .ok (.ldc 144, 2) := by decide +kernel
theorem dX7_readCoin_26 : decode cX7_readCoin 26 = .ok (.invokevirtual 62, 3) := by decide +kernel
theorem dX7_readCoin_29 : decode cX7_readCoin 29 = .ok (.ifCond .eq 21, 3) := by decide +kernel
theorem dX7_readCoin_32 : decode cX7_readCoin 32 = .ok (.aload_n 0, 1) := by decide +kernel
theorem dX7_readCoin_33 : decode cX7_readCoin 33 = .ok (.iconst 0, 1) := by decide +kernel
theorem dX7_readCoin_34 : decode cX7_readCoin 34 = .ok (.aload_n 0, 1) := by decide +kernel
theorem dX7_readCoin_35 : decode cX7_readCoin 35 = .ok (.getfield 18, 3) := by decide +kernel
theorem dX7_readCoin_38 : decode cX7_readCoin 38 = .ok (.getfield 75, 3) := by decide +kernel
theorem dX7_readCoin_41 : decode cX7_readCoin 41 = .ok (.iconst 1, 1) := by decide +kernel
theorem dX7_readCoin_42 : decode cX7_readCoin 42 = .ok (.isub, 1) := by decide +kernel
theorem dX7_readCoin_43 : decode cX7_readCoin 43 = .ok (.iconst (-1), 1) := by decide +kernel
theorem dX7_readCoin_44 : decode cX7_readCoin 44 = .ok (.invokevirtual 68, 3) := by decide +kernel
theorem dX7_readCoin_47 : decode cX7_readCoin 47 = .ok (.ifCond .ne 5, 3) := by decide +kernel
theorem dX7_readCoin_50 : decode cX7_readCoin 50 = .ok (.iconst 0, 1) := by decide +kernel
theorem dX7_readCoin_51 : decode cX7_readCoin 51 = .ok (.ireturn, 1) := by decide +kernel
theorem dX7_readCoin_52 : decode cX7_readCoin 52 = .ok (.aload_n 0, 1) := by decide +kernel
theorem dX7_readCoin_53 : decode cX7_readCoin 53 = .ok (.getfield 18, 3) := by decide +kernel
theorem dX7_readCoin_56 : decode cX7_readCoin 56 = .ok (.getfield 160, 3) := by decide +kernel
theorem dX7_readCoin_59 : decode cX7_readCoin 59 = .ok (.iload_n 1, 1) := by decide +kernel
theorem dX7_readCoin_60 : decode cX7_readCoin 60 = .ok (.aload_n 0, 1) := by decide +kernel
theorem dX7_readCoin_61 : decode cX7_readCoin 61 = .ok (.getfield 72, 3) := by decide +kernel
theorem dX7_readCoin_64 : decode cX7_readCoin 64 = .ok (.iastore, 1) := by decide +kernel
theorem dX7_readCoin_65 : decode cX7_readCoin 65 = .ok (.aload_n 0, 1) := by decide +kernel
theorem dX7_readCoin_66 : decode cX7_readCoin 66 = .ok (.ldc 163, 2) := by decide +kernel
theorem dX7_readCoin_68 : decode cX7_readCoin 68 = .ok (.invokevirtual 62, 3) := by decide +kernel
theorem dX7_readCoin_71 : decode cX7_readCoin 71 = .ok (.ifCond .eq 14, 3) := by decide +kernel
theorem dX7_readCoin_74 : decode cX7_readCoin 74 = .ok (.aload_n 0, 1) := by decide +kernel
theorem dX7_readCoin_75 : decode cX7_readCoin 75 = .ok (.iconst 0, 1) := by decide +kernel
theorem dX7_readCoin_76 : decode cX7_readCoin 76 = .ok (.bipush 99, 2) := by decide +kernel
theorem dX7_readCoin_78 : decode cX7_readCoin 78 = .ok (.iconst (-1), 1) := by decide +kernel
theorem dX7_readCoin_79 : decode cX7_readCoin 79 = .ok (.invokevirtual 68, 3) := by decide +kernel
theorem dX7_readCoin_82 : decode cX7_readCoin 82 = .ok (.ifCond .ne 5, 3) := by decide +kernel
theorem dX7_readCoin_85 : decode cX7_readCoin 85 = .ok (.iconst 0, 1) := by decide +kernel
theorem dX7_readCoin_86 : decode cX7_readCoin 86 = .ok (.ireturn, 1) := by decide +kernel
theorem dX7_readCoin_87 : decode cX7_readCoin 87 = .ok (.aload_n 0, 1) := by decide +kernel
theorem dX7_readCoin_88 : decode cX7_readCoin 88 = .ok (.getfield 18, 3) := by decide +kernel
theorem dX7_readCoin_91 : decode cX7_readCoin 91 = .ok (.getfield 165, 3) := by decide +kernel
theorem dX7_readCoin_94 : decode cX7_readCoin 94 = .ok (.iload_n 1, 1) := by decide +kernel
theorem dX7_readCoin_95 : decode cX7_readCoin 95 = .ok (.aload_n 0, 1) := by decide +kernel
theorem dX7_readCoin_96 : decode cX7_readCoin 96 = .ok (.getfield 72, 3) := by decide +kernel
theorem dX7_readCoin_99 : decode cX7_readCoin 99 = .ok (.iastore, 1) := by decide +kernel
theorem dX7_readCoin_100 : decode cX7_readCoin 100 = .ok (.aload_n 0, 1) := by decide +kernel
theorem dX7_readCoin_101 : decode cX7_readCoin 101 = .ok (.ldc 167, 2) := by decide +kernel
theorem dX7_readCoin_103 : decode cX7_readCoin 103 = .ok (.invokevirtual 62, 3) := by decide +kernel
theorem dX7_readCoin_106 : decode cX7_readCoin 106 = .ok (.ifCond .eq 14, 3) := by decide +kernel
theorem dX7_readCoin_109 : decode cX7_readCoin 109 = .ok (.aload_n 0, 1) := by decide +kernel
theorem dX7_readCoin_110 : decode cX7_readCoin 110 = .ok (.iconst 0, 1) := by decide +kernel
theorem dX7_readCoin_111 : decode cX7_readCoin 111 = .ok (.bipush 99, 2) := by decide +kernel
theorem dX7_readCoin_113 : decode cX7_readCoin 113 = .ok (.iconst (-1), 1) := by decide +kernel
theorem dX7_readCoin_114 : decode cX7_readCoin 114 = .ok (.invokevirtual 68, 3) := by decide +kernel
theorem dX7_readCoin_117 : decode cX7_readCoin 117 = .ok (.ifCond .ne 5, 3) := by decide +kernel
theorem dX7_readCoin_120 : decode cX7_readCoin 120 = .ok (.iconst 0, 1) := by decide +kernel
theorem dX7_readCoin_121 : decode cX7_readCoin 121 = .ok (.ireturn, 1) := by decide +kernel
theorem dX7_readCoin_122 : decode cX7_readCoin 122 = .ok (.aload_n 0, 1) := by decide +kernel
theorem dX7_readCoin_123 : decode cX7_readCoin 123 = .ok (.getfield 18, 3) := by decide +kernel
theorem dX7_readCoin_126 : decode cX7_readCoin 126 = .ok (.getfield 169, 3) := by decide +kernel
theorem dX7_readCoin_129 : decode cX7_readCoin 129 = .ok (.iload_n 1, 1) := by decide +kernel
theorem dX7_readCoin_130 : decode cX7_readCoin 130 = .ok (.aload_n 0, 1) := by decide +kernel
theorem dX7_readCoin_131 : decode cX7_readCoin 131 = .ok (.getfield 72, 3) := by decide +kernel
theorem dX7_readCoin_134 : decode cX7_readCoin 134 = .ok (.iastore, 1) := by decide +kernel
theorem dX7_readCoin_135 : decode cX7_readCoin 135 = .ok (.aload_n 0, 1) := by decide +kernel
theorem dX7_readCoin_136 : decode cX7_readCoin 136 = .ok (.getfield 18, 3) := by decide +kernel
theorem dX7_readCoin_139 : decode cX7_readCoin 139 = .ok (.dup, 1) := by decide +kernel
theorem dX7_readCoin_140 : decode cX7_readCoin 140 = .ok (.getfield 157, 3) := by decide +kernel
theorem dX7_readCoin_143 : decode cX7_readCoin 143 = .ok (.iconst 1, 1) := by decide +kernel
theorem dX7_readCoin_144 : decode cX7_readCoin 144 = .ok (.iadd, 1) := by decide +kernel
theorem dX7_readCoin_145 : decode cX7_readCoin 145 = .ok (.putfield 157, 3) := by decide +kernel
theorem dX7_readCoin_148 : decode cX7_readCoin 148 = .ok (.iconst 1, 1) := by decide +kernel
theorem dX7_readCoin_149 : decode cX7_readCoin 149 = .ok (.ireturn, 1) := by decide +kernel
theorem dX7_readMay_0 : decode cX7_readMay 0 = .ok (.aload_n 0, 1) := by decide +kernel
theorem dX7_readMay_1 : decode cX7_readMay 1 = .ok (.invokevirtual 41, 3) := by decide +kernel
theorem dX7_readMay_4 : decode cX7_readMay 4 = .ok (.aload_n 0, 1) := by decide +kernel
theorem dX7_readMay_5 : decode cX7_readMay 5 = .ok (.iconst 0, 1) := by decide +kernel
theorem dX7_readMay_6 : decode cX7_readMay 6 = .ok (.putfield 171, 3) := by decide +kernel
theorem dX7_readMay_9 : decode cX7_readMay 9 = .ok (.aload_n 0, 1) := by decide +kernel
theorem dX7_readMay_10 : decode cX7_readMay 10 = .ok (.getfield 18, 3) := by decide +kernel
theorem dX7_readMay_13 : decode cX7_readMay 13 = .ok (.getfield 175, 3) := by decide +kernel
theorem dX7_readMay_16 : decode cX7_readMay 16 = .ok (.invokevirtual 179, 3) := by decide +kernel
theorem dX7_readMay_19 : decode cX7_readMay 19 = .ok (.istore_n 1, 1) := by decide +kernel
theorem dX7_readMay_20 : decode cX7_readMay 20 = .ok (.aload_n 0, 1) := by decide +kernel
theorem dX7_readMay_21 : decode cX7_readMay 21 = .ok (.bipush 58, 2) := by decide +kernel
theorem dX7_readMay_23 : decode cX7_readMay 23 = .ok (.invokevirtual 82, 3) := by decide +kernel
theorem dX7_readMay_26 : decode cX7_readMay 26 = .ok (.ifCond .eq 11, 3) := by decide +kernel
theorem dX7_readMay_29 : decode cX7_readMay 29 = .ok (.aload_n 0, 1) := by decide +kernel
theorem dX7_readMay_30 : decode cX7_readMay 30 = .ok (.iconst 0, 1) := by decide +kernel
theorem dX7_readMay_31 : decode cX7_readMay 31 = .ok (.invokevirtual 185, 3) := by decide +kernel
theorem dX7_readMay_34 : decode cX7_readMay 34 = .ok (.ifCond .ne 5, 3) := by decide +kernel
theorem dX7_readMay_37 : decode cX7_readMay 37 = .ok (.iconst 0, 1) := by decide +kernel
theorem dX7_readMay_38 : decode cX7_readMay 38 = .ok (.ireturn, 1) := by decide +kernel
theorem dX7_readMay_39 : decode cX7_readMay 39 = .ok (.aload_n 0, 1) := by decide +kernel
theorem dX7_readMay_40 : decode cX7_readMay 40 = .ok (.getfield 18, 3) := by decide +kernel
theorem dX7_readMay_43 : decode cX7_readMay 43 = .ok (.getfield 175, 3) := by decide +kernel
theorem dX7_readMay_46 : decode cX7_readMay 46 = .ok (.iload_n 1, 1) := by decide +kernel
theorem dX7_readMay_47 : decode cX7_readMay 47 = .ok (.invokevirtual 188, 3) := by decide +kernel
theorem dX7_readMay_50 : decode cX7_readMay 50 = .ok (.iconst 1, 1) := by decide +kernel
theorem dX7_readMay_51 : decode cX7_readMay 51 = .ok (.ireturn, 1) := by decide +kernel
theorem dX7_readWears_0 : decode cX7_readWears 0 = .ok (.aload_n 0, 1) := by decide +kernel
theorem dX7_readWears_1 : decode cX7_readWears 1 = .ok (.invokevirtual 41, 3) := by decide +kernel
theorem dX7_readWears_4 : decode cX7_readWears 4 = .ok (.aload_n 0, 1) := by decide +kernel
theorem dX7_readWears_5 : decode cX7_readWears 5 = .ok (.iconst 1, 1) := by decide +kernel
theorem dX7_readWears_6 : decode cX7_readWears 6 = .ok (.putfield 171, 3) := by decide +kernel
theorem dX7_readWears_9 : decode cX7_readWears 9 = .ok (.aload_n 0, 1) := by decide +kernel
theorem dX7_readWears_10 : decode cX7_readWears 10 = .ok (.getfield 18, 3) := by decide +kernel
theorem dX7_readWears_13 : decode cX7_readWears 13 = .ok (.getfield 175, 3) := by decide +kernel
theorem dX7_readWears_16 : decode cX7_readWears 16 = .ok (.invokevirtual 179, 3) := by decide +kernel
theorem dX7_readWears_19 : decode cX7_readWears 19 = .ok (.istore_n 1, 1) := by decide +kernel
theorem dX7_readWears_20 : decode cX7_readWears 20 = .ok (.aload_n 0, 1) := by decide +kernel
theorem dX7_readWears_21 : decode cX7_readWears 21 = .ok (.bipush 58, 2) := by decide +kernel
theorem dX7_readWears_23 : decode cX7_readWears 23 = .ok (.invokevirtual 82, 3) := by decide +kernel
theorem dX7_readWears_26 : decode cX7_readWears 26 = .ok (.ifCond .eq 11, 3) := by decide +kernel
theorem dX7_readWears_29 : decode cX7_readWears 29 = .ok (.aload_n 0, 1) := by decide +kernel
theorem dX7_readWears_30 : decode cX7_readWears 30 = .ok (.iconst 0, 1) := by decide +kernel
theorem dX7_readWears_31 : decode cX7_readWears 31 = .ok (.invokevirtual 192, 3) := by decide +kernel
theorem dX7_readWears_34 : decode cX7_readWears 34 = .ok (.ifCond .ne 5, 3) := by decide +kernel
theorem dX7_readWears_37 : decode cX7_readWears 37 = .ok (.iconst 0, 1) := by decide +kernel
theorem dX7_readWears_38 : decode cX7_readWears 38 = .ok (.ireturn, 1) := by decide +kernel
theorem dX7_readWears_39 : decode cX7_readWears 39 = .ok (.aload_n 0, 1) := by decide +kernel
theorem dX7_readWears_40 : decode cX7_readWears 40 = .ok (.getfield 18, 3) := by decide +kernel
theorem dX7_readWears_43 : decode cX7_readWears 43 = .ok (.getfield 175, 3) := by decide +kernel
theorem dX7_readWears_46 : decode cX7_readWears 46 = .ok (.iload_n 1, 1) := by decide +kernel
theorem dX7_readWears_47 : decode cX7_readWears 47 = .ok (.invokevirtual 195, 3) := by decide +kernel
theorem dX7_readWears_50 : decode cX7_readWears 50 = .ok (.iconst 1, 1) := by decide +kernel
theorem dX7_readWears_51 : decode cX7_readWears 51 = .ok (.ireturn, 1) := by decide +kernel
theorem dX7_readTruth_0 : decode cX7_readTruth 0 = .ok (.aload_n 0, 1) := by decide +kernel
theorem dX7_readTruth_1 : decode cX7_readTruth 1 = .ok (.iload_n 1, 1) := by decide +kernel
theorem dX7_readTruth_2 : decode cX7_readTruth 2 = .ok (.invokevirtual 198, 3) := by decide +kernel
theorem dX7_readTruth_5 : decode cX7_readTruth 5 = .ok (.ifCond .ne 5, 3) := by decide +kernel
theorem dX7_readTruth_8 : decode cX7_readTruth 8 = .ok (.iconst 0, 1) := by decide +kernel
theorem dX7_readTruth_9 : decode cX7_readTruth 9 = .ok (.ireturn, 1) := by decide +kernel
theorem dX7_readTruth_10 : decode cX7_readTruth 10 = .ok (.iconst 0, 1) := by decide +kernel
theorem dX7_readTruth_11 : decode cX7_readTruth 11 = .ok (.istore_n 2, 1) := by decide +kernel
theorem dX7_readTruth_12 : decode cX7_readTruth 12 = .ok (.iload_n 2, 1) := by decide +kernel
theorem dX7_readTruth_13 : decode cX7_readTruth 13 = .ok (.sipush 900, 3) := by decide +kernel
theorem dX7_readTruth_16 : decode cX7_readTruth 16 = .ok (.if_icmp .ge 45, 3) := by decide +kernel
theorem dX7_readTruth_19 : decode cX7_readTruth 19 = .ok (.aload_n 0, 1) := by decide +kernel
theorem dX7_readTruth_20 : decode cX7_readTruth 20 = .ok (.ldc 201, 2) := by decide +kernel
theorem dX7_readTruth_22 : decode cX7_readTruth 22 = .ok (.invokevirtual 91, 3) := by decide +kernel
theorem dX7_readTruth_25 : decode cX7_readTruth 25 = .ok (.ifCond .eq 36, 3) := by decide +kernel
theorem dX7_readTruth_28 : decode cX7_readTruth 28 = .ok (.aload_n 0, 1) := by decide +kernel
theorem dX7_readTruth_29 : decode cX7_readTruth 29 = .ok (.invokevirtual 41, 3) := by decide +kernel
theorem dX7_readTruth_32 : decode cX7_readTruth 32 = .ok (.aload_n 0, 1) := by decide +kernel
theorem dX7_readTruth_33 : decode cX7_readTruth 33 = .ok (.iload_n 1, 1) := by decide +kernel
theorem dX7_readTruth_34 : decode cX7_readTruth 34 = .ok (.invokevirtual 198, 3) := by decide +kernel
theorem dX7_readTruth_37 : decode cX7_readTruth 37 = .ok (.ifCond .ne 5, 3) := by decide +kernel
theorem dX7_readTruth_40 : decode cX7_readTruth 40 = .ok (.iconst 0, 1) := by decide +kernel
theorem dX7_readTruth_41 : decode cX7_readTruth 41 = .ok (.ireturn, 1) := by decide +kernel
theorem dX7_readTruth_42 : decode cX7_readTruth 42 = .ok (.aload_n 0, 1) := by decide +kernel
theorem dX7_readTruth_43 : decode cX7_readTruth 43 = .ok (.getfield 18, 3) := by decide +kernel
theorem dX7_readTruth_46 : decode cX7_readTruth 46 = .ok (.getfield 175, 3) := by decide +kernel
theorem dX7_readTruth_49 : decode cX7_readTruth 49 = .ok (.sipush 2007, 3) := by decide +kernel
theorem dX7_readTruth_52 : decode cX7_readTruth 52 = .ok (.invokevirtual 203, 3) := by decide +kernel
theorem dX7_readTruth_55 : decode cX7_readTruth 55 = .ok (.iinc 2 1, 3) := by decide +kernel
theorem dX7_readTruth_58 : decode cX7_readTruth 58 = .ok (.goto (-46), 3) := by decide +kernel
theorem dX7_readTruth_61 : decode cX7_readTruth 61 = .ok (.iconst 1, 1) := by decide +kernel
theorem dX7_readTruth_62 : decode cX7_readTruth 62 = .ok (.ireturn, 1) := by decide +kernel
theorem dX7_readBoth_0 : decode cX7_readBoth 0 = .ok (.aload_n 0, 1) := by decide +kernel
theorem dX7_readBoth_1 : decode cX7_readBoth 1 = .ok (.iload_n 1, 1) := by decide +kernel
theorem dX7_readBoth_2 : decode cX7_readBoth 2 = .ok (.invokevirtual 206, 3) := by decide +kernel
theorem dX7_readBoth_5 : decode cX7_readBoth 5 = .ok (.ifCond .ne 5, 3) := by decide +kernel
theorem dX7_readBoth_8 : decode cX7_readBoth 8 = .ok (.iconst 0, 1) := by decide +kernel
theorem dX7_readBoth_9 : decode cX7_readBoth 9 = .ok (.ireturn, 1) := by decide +kernel
theorem dX7_readBoth_10 : decode cX7_readBoth 10 = .ok (.iconst 0, 1) := by decide +kernel
theorem dX7_readBoth_11 : decode cX7_readBoth 11 = .ok (.istore_n 2, 1) := by decide +kernel
theorem dX7_readBoth_12 : decode cX7_readBoth 12 = .ok (.iload_n 2, 1) := by decide +kernel
theorem dX7_readBoth_13 : decode cX7_readBoth 13 = .ok (.sipush 900, 3) := by decide +kernel
theorem dX7_readBoth_16 : decode cX7_readBoth 16 = .ok (.if_icmp .ge 45, 3) := by decide +kernel
theorem dX7_readBoth_19 : decode cX7_readBoth 19 = .ok (.aload_n 0, 1) := by decide +kernel
theorem dX7_readBoth_20 : decode cX7_readBoth 20 = .ok (.ldc 209, 2) := by decide +kernel
theorem dX7_readBoth_22 : decode cX7_readBoth 22 = .ok (.invokevirtual 91, 3) := by decide +kernel
theorem dX7_readBoth_25 : decode cX7_readBoth 25 = .ok (.ifCond .eq 36, 3) := by decide +kernel
theorem dX7_readBoth_28 : decode cX7_readBoth 28 = .ok (.aload_n 0, 1) := by decide +kernel
theorem dX7_readBoth_29 : decode cX7_readBoth 29 = .ok (.invokevirtual 41, 3) := by decide +kernel
theorem dX7_readBoth_32 : decode cX7_readBoth 32 = .ok (.aload_n 0, 1) := by decide +kernel
theorem dX7_readBoth_33 : decode cX7_readBoth 33 = .ok (.iload_n 1, 1) := by decide +kernel
theorem dX7_readBoth_34 : decode cX7_readBoth 34 = .ok (.invokevirtual 206, 3) := by decide +kernel
theorem dX7_readBoth_37 : decode cX7_readBoth 37 = .ok (.ifCond .ne 5, 3) := by decide +kernel
theorem dX7_readBoth_40 : decode cX7_readBoth 40 = .ok (.iconst 0, 1) := by decide +kernel
theorem dX7_readBoth_41 : decode cX7_readBoth 41 = .ok (.ireturn, 1) := by decide +kernel
theorem dX7_readBoth_42 : decode cX7_readBoth 42 = .ok (.aload_n 0, 1) := by decide +kernel
theorem dX7_readBoth_43 : decode cX7_readBoth 43 = .ok (.getfield 18, 3) := by decide +kernel
theorem dX7_readBoth_46 : decode cX7_readBoth 46 = .ok (.getfield 175, 3) := by decide +kernel
theorem dX7_readBoth_49 : decode cX7_readBoth 49 = .ok (.sipush 2006, 3) := by decide +kernel
theorem dX7_readBoth_52 : decode cX7_readBoth 52 = .ok (.invokevirtual 203, 3) := by decide +kernel
theorem dX7_readBoth_55 : decode cX7_readBoth 55 = .ok (.iinc 2 1, 3) := by decide +kernel
theorem dX7_readBoth_58 : decode cX7_readBoth 58 = .ok (.goto (-46), 3) := by decide +kernel
theorem dX7_readBoth_61 : decode cX7_readBoth 61 = .ok (.iconst 1, 1) := by decide +kernel
theorem dX7_readBoth_62 : decode cX7_readBoth 62 = .ok (.ireturn, 1) := by decide +kernel
theorem dX7_readUnit_0 : decode cX7_readUnit 0 = .ok (.aload_n 0, 1) := by decide +kernel
theorem dX7_readUnit_1 : decode cX7_readUnit 1 = .ok (.ldc 211, 2) := by decide +kernel
theorem dX7_readUnit_3 : decode cX7_readUnit 3 = .ok (.invokevirtual 91, 3) := by decide +kernel
theorem dX7_readUnit_6 : decode cX7_readUnit 6 = .ok (.ifCond .eq 38, 3) := by decide +kernel
theorem dX7_readUnit_9 : decode cX7_readUnit 9 = .ok (.aload_n 0, 1) := by decide +kernel
theorem dX7_readUnit_10 : decode cX7_readUnit 10 = .ok (.iload_n 1, 1) := by decide +kernel
theorem dX7_readUnit_11 : decode cX7_readUnit 11 = .ok (.invokevirtual 213, 3) := by decide +kernel
theorem dX7_readUnit_14 : decode cX7_readUnit 14 = .ok (.ifCond .eq 13, 3) := by decide +kernel
theorem dX7_readUnit_17 : decode cX7_readUnit 17 = .ok (.aload_n 0, 1) := by decide +kernel
theorem dX7_readUnit_18 : decode cX7_readUnit 18 = .ok (.iload_n 1, 1) := by decide +kernel
theorem dX7_readUnit_19 : decode cX7_readUnit 19 = .ok (.iconst 1, 1) := by decide +kernel
theorem dX7_readUnit_20 : decode cX7_readUnit 20 = .ok (.iadd, 1) := by decide +kernel
theorem dX7_readUnit_21 : decode cX7_readUnit 21 = .ok (.invokevirtual 206, 3) := by decide +kernel
theorem dX7_readUnit_24 : decode cX7_readUnit 24 = .ok (.ifCond .ne 5, 3) := by decide +kernel
theorem dX7_readUnit_27 : decode cX7_readUnit 27 = .ok (.iconst 0, 1) := by decide +kernel
theorem dX7_readUnit_28 : decode cX7_readUnit 28 = .ok (.ireturn, 1) := by decide +kernel
theorem dX7_readUnit_29 : decode cX7_readUnit 29 = .ok (.aload_n 0, 1) := by decide +kernel
theorem dX7_readUnit_30 : decode cX7_readUnit 30 = .ok (.getfield 18, 3) := by decide +kernel
theorem dX7_readUnit_33 : decode cX7_readUnit 33 = .ok (.getfield 175, 3) := by decide +kernel
theorem dX7_readUnit_36 : decode cX7_readUnit 36 = .ok (.sipush 2008, 3) := by decide +kernel
theorem dX7_readUnit_39 : decode cX7_readUnit 39 = .ok (.invokevirtual 203, 3) := by decide +kernel
theorem dX7_readUnit_42 : decode cX7_readUnit 42 = .ok (.iconst 1, 1) := by decide +kernel
theorem dX7_readUnit_43 : decode cX7_readUnit 43 = .ok (.ireturn, 1) := by decide +kernel
theorem dX7_readUnit_44 : decode cX7_readUnit 44 = .ok (.aload_n 0, 1) := by decide +kernel
theorem dX7_readUnit_45 : decode cX7_readUnit 45 = .ok (.bipush 91, 2) := by decide +kernel
theorem dX7_readUnit_47 : decode cX7_readUnit 47 = .ok (.invokevirtual 216, 3) := by decide +kernel
theorem dX7_readUnit_50 : decode cX7_readUnit 50 = .ok (.ifCond .eq 36, 3) := by decide +kernel
theorem dX7_readUnit_53 : decode cX7_readUnit 53 = .ok (.aload_n 0, 1) := by decide +kernel
theorem dX7_readUnit_54 : decode cX7_readUnit 54 = .ok (.iload_n 1, 1) := by decide +kernel
theorem dX7_readUnit_55 : decode cX7_readUnit 55 = .ok (.invokevirtual 213, 3) := by decide +kernel
theorem dX7_readUnit_58 : decode cX7_readUnit 58 = .ok (.ifCond .eq 26, 3) := by decide +kernel
theorem dX7_readUnit_61 : decode cX7_readUnit 61 = .ok (.aload_n 0, 1) := by decide +kernel
theorem dX7_readUnit_62 : decode cX7_readUnit 62 = .ok (.iload_n 1, 1) := by decide +kernel
theorem dX7_readUnit_63 : decode cX7_readUnit 63 = .ok (.iconst 1, 1) := by decide +kernel
theorem dX7_readUnit_64 : decode cX7_readUnit 64 = .ok (.iadd, 1) := by decide +kernel
theorem dX7_readUnit_65 : decode cX7_readUnit 65 = .ok (.invokevirtual 185, 3) := by decide +kernel
theorem dX7_readUnit_68 : decode cX7_readUnit 68 = .ok (.ifCond .eq 16, 3) := by decide +kernel
theorem dX7_readUnit_71 : decode cX7_readUnit 71 = .ok (.aload_n 0, 1) := by decide +kernel
theorem dX7_readUnit_72 : decode cX7_readUnit 72 = .ok (.bipush 93, 2) := by decide +kernel
theorem dX7_readUnit_74 : decode cX7_readUnit 74 = .ok (.invokevirtual 82, 3) := by decide +kernel
theorem dX7_readUnit_77 : decode cX7_readUnit 77 = .ok (.ifCond .eq 7, 3) := by decide +kernel
theorem dX7_readUnit_80 : decode cX7_readUnit 80 = .ok (.iconst 1, 1) := by decide +kernel
theorem dX7_readUnit_81 : decode cX7_readUnit 81 = .ok (.goto 4, 3) := by decide +kernel
theorem dX7_readUnit_84 : decode cX7_readUnit 84 = .ok (.iconst 0, 1) := by decide +kernel
theorem dX7_readUnit_85 : decode cX7_readUnit 85 = .ok (.ireturn, 1) := by decide +kernel
theorem dX7_readUnit_86 : decode cX7_readUnit 86 = .ok (.aload_n 0, 1) := by decide +kernel
theorem dX7_readUnit_87 : decode cX7_readUnit 87 = .ok (.iload_n 1, 1) := by decide +kernel
theorem dX7_readUnit_88 : decode cX7_readUnit 88 = .ok (.invokevirtual 219, 3) := by decide +kernel
theorem dX7_readUnit_91 : decode cX7_readUnit 91 = .ok (.ireturn, 1) := by decide +kernel
theorem dX7_readComparison_0 : decode cX7_readComparison 0 = .ok (.aload_n 0, 1) := by decide +kernel
theorem dX7_readComparison_1 : decode cX7_readComparison 1 = .ok (.iload_n 1, 1) := by decide +kernel
theorem dX7_readComparison_2 : decode cX7_readComparison 2 = .ok (.invokevirtual 192, 3) := by decide +kernel
theorem dX7_readComparison_5 : decode cX7_readComparison 5 = .ok (.ifCond .ne 5, 3) := by decide +kernel
theorem dX7_readComparison_8 : decode cX7_readComparison 8 = .ok (.iconst 0, 1) := by decide +kernel
theorem dX7_readComparison_9 : decode cX7_readComparison 9 = .ok (.ireturn, 1) := by decide +kernel
theorem dX7_readComparison_10 : decode cX7_readComparison 10 = .ok (.aload_n 0, 1) := by decide +kernel
theorem dX7_readComparison_11 : decode cX7_readComparison 11 = .ok (.bipush 61, 2) := by decide +kernel
theorem dX7_readComparison_13 : decode cX7_readComparison 13 = .ok (.invokevirtual 216, 3) := by decide +kernel
theorem dX7_readComparison_16 : decode cX7_readComparison 16 = .ok (.ifCond .eq 10, 3) := by decide +kernel
theorem dX7_readComparison_19 : decode cX7_readComparison 19 = .ok (.sipush 2003, 3) := by decide +kernel
theorem dX7_readComparison_22 : decode cX7_readComparison 22 = .ok (.istore_n 2, 1) := by decide +kernel
theorem dX7_readComparison_23 : decode cX7_readComparison 23 = .ok (.goto 41, 3) := by decide +kernel
theorem dX7_readComparison_26 : decode cX7_readComparison 26 = .ok (.aload_n 0, 1) := by decide +kernel
theorem dX7_readComparison_27 : decode cX7_readComparison 27 = .ok (.bipush 60, 2) := by decide +kernel
theorem dX7_readComparison_29 : decode cX7_readComparison 29 = .ok (.invokevirtual 216, 3) := by decide +kernel
theorem dX7_readComparison_32 : decode cX7_readComparison 32 = .ok (.ifCond .eq 10, 3) := by decide +kernel
theorem dX7_readComparison_35 : decode cX7_readComparison 35 = .ok (.sipush 2004, 3) := by decide +kernel
theorem dX7_readComparison_38 : decode cX7_readComparison 38 = .ok (.istore_n 2, 1) := by decide +kernel
theorem dX7_readComparison_39 : decode cX7_readComparison 39 = .ok (.goto 25, 3) := by decide +kernel
theorem dX7_readComparison_42 : decode cX7_readComparison 42 = .ok (.aload_n 0, 1) := by decide +kernel
theorem dX7_readComparison_43 : decode cX7_readComparison 43 = .ok (.bipush 62, 2) := by decide +kernel
theorem dX7_readComparison_45 : decode cX7_readComparison 45 = .ok (.invokevirtual 216, 3) := by decide +kernel
theorem dX7_readComparison_48 : decode cX7_readComparison 48 = .ok (.ifCond .eq 10, 3) := by decide +kernel
theorem dX7_readComparison_51 : decode cX7_readComparison 51 = .ok (.sipush 2005, 3) := by decide +kernel
theorem dX7_readComparison_54 : decode cX7_readComparison 54 = .ok (.istore_n 2, 1) := by decide +kernel
theorem dX7_readComparison_55 : decode cX7_readComparison 55 = .ok (.goto 9, 3) := by decide +kernel
theorem dX7_readComparison_58 : decode cX7_readComparison 58 = .ok (.aload_n 0, 1) := by decide +kernel
theorem dX7_readComparison_59 : decode cX7_readComparison 59 = .ok (.iconst 2, 1) := by decide +kernel
theorem dX7_readComparison_60 : decode cX7_readComparison 60 = .ok (.invokevirtual 122, 3) := by decide +kernel
theorem dX7_readComparison_63 : decode cX7_readComparison 63 = .ok (.ireturn, 1) := by decide +kernel
theorem dX7_readComparison_64 : decode cX7_readComparison 64 = .ok (.aload_n 0, 1) := by decide +kernel
theorem dX7_readComparison_65 : decode cX7_readComparison 65 = .ok (.invokevirtual 41, 3) := by decide +kernel
theorem dX7_readComparison_68 : decode cX7_readComparison 68 = .ok (.aload_n 0, 1) := by decide +kernel
theorem dX7_readComparison_69 : decode cX7_readComparison 69 = .ok (.iload_n 1, 1) := by decide +kernel
theorem dX7_readComparison_70 : decode cX7_readComparison 70 = .ok (.invokevirtual 192, 3) := by decide +kernel
theorem dX7_readComparison_73 : decode cX7_readComparison 73 = .ok (.ifCond .ne 5, 3) := by decide +kernel
theorem dX7_readComparison_76 : decode cX7_readComparison 76 = .ok (.iconst 0, 1) := by decide +kernel
theorem dX7_readComparison_77 : decode cX7_readComparison 77 = .ok (.ireturn, 1) := by decide +kernel
theorem dX7_readComparison_78 : decode cX7_readComparison 78 = .ok (.aload_n 0, 1) := by decide +kernel
theorem dX7_readComparison_79 : decode cX7_readComparison 79 = .ok (.getfield 18, 3) := by decide +kernel
theorem dX7_readComparison_82 : decode cX7_readComparison 82 = .ok (.getfield 175, 3) := by decide +kernel
theorem dX7_readComparison_85 : decode cX7_readComparison 85 = .ok (.iload_n 2, 1) := by decide +kernel
theorem dX7_readComparison_86 : decode cX7_readComparison 86 = .ok (.invokevirtual 203, 3) := by decide +kernel
theorem dX7_readComparison_89 : decode cX7_readComparison 89 = .ok (.iconst 1, 1) := by decide +kernel
theorem dX7_readComparison_90 : decode cX7_readComparison 90 = .ok (.ireturn, 1) := by decide +kernel
theorem dX7_readSum_0 : decode cX7_readSum 0 = .ok (.aload_n 0, 1) := by decide +kernel
theorem dX7_readSum_1 : decode cX7_readSum 1 = .ok (.iload_n 1, 1) := by decide +kernel
theorem dX7_readSum_2 : decode cX7_readSum 2 = .ok (.invokevirtual 222, 3) := by decide +kernel
theorem dX7_readSum_5 : decode cX7_readSum 5 = .ok (.ifCond .ne 5, 3) := by decide +kernel
theorem dX7_readSum_8 : decode cX7_readSum 8 = .ok (.iconst 0, 1) := by decide +kernel
theorem dX7_readSum_9 : decode cX7_readSum 9 = .ok (.ireturn, 1) := by decide +kernel
theorem dX7_readSum_10 : decode cX7_readSum 10 = .ok (.iconst 0, 1) := by decide +kernel
theorem dX7_readSum_11 : decode cX7_readSum 11 = .ok (.istore_n 2, 1) := by decide +kernel
theorem dX7_readSum_12 : decode cX7_readSum 12 = .ok (.iload_n 2, 1) := by decide +kernel
theorem dX7_readSum_13 : decode cX7_readSum 13 = .ok (.sipush 900, 3) := by decide +kernel
theorem dX7_readSum_16 : decode cX7_readSum 16 = .ok (.if_icmp .ge 71, 3) := by decide +kernel
theorem dX7_readSum_19 : decode cX7_readSum 19 = .ok (.aload_n 0, 1) := by decide +kernel
theorem dX7_readSum_20 : decode cX7_readSum 20 = .ok (.bipush 43, 2) := by decide +kernel
theorem dX7_readSum_22 : decode cX7_readSum 22 = .ok (.invokevirtual 216, 3) := by decide +kernel
theorem dX7_readSum_25 : decode cX7_readSum 25 = .ok (.ifCond .ne 12, 3) := by decide +kernel
theorem dX7_readSum_28 : decode cX7_readSum 28 = .ok (.aload_n 0, 1) := by decide +kernel
theorem dX7_readSum_29 : decode cX7_readSum 29 = .ok (.bipush 45, 2) := by decide +kernel
theorem dX7_readSum_31 : decode cX7_readSum 31 = .ok (.invokevirtual 216, 3) := by decide +kernel
theorem dX7_readSum_34 : decode cX7_readSum 34 = .ok (.ifCond .eq 53, 3) := by decide +kernel
theorem dX7_readSum_37 : decode cX7_readSum 37 = .ok (.aload_n 0, 1) := by decide +kernel
theorem dX7_readSum_38 : decode cX7_readSum 38 = .ok (.bipush 43, 2) := by decide +kernel
theorem dX7_readSum_40 : decode cX7_readSum 40 = .ok (.invokevirtual 216, 3) := by decide +kernel
theorem dX7_readSum_43 : decode cX7_readSum 43 = .ok (.ifCond .eq 9, 3) := by decide +kernel
theorem dX7_readSum_46 : decode cX7_readSum 46 = .ok (.sipush 2000, 3) := by decide +kernel
theorem dX7_readSum_49 : decode cX7_readSum 49 = .ok (.goto 6, 3) := by decide +kernel
theorem dX7_readSum_52 : decode cX7_readSum 52 = .ok (.sipush 2001, 3) := by decide +kernel
theorem dX7_readSum_55 : decode cX7_readSum 55 = .ok (.istore_n 3, 1) := by decide +kernel
theorem dX7_readSum_56 : decode cX7_readSum 56 = .ok (.aload_n 0, 1) := by decide +kernel
theorem dX7_readSum_57 : decode cX7_readSum 57 = .ok (.invokevirtual 41, 3) := by decide +kernel
theorem dX7_readSum_60 : decode cX7_readSum 60 = .ok (.aload_n 0, 1) := by decide +kernel
theorem dX7_readSum_61 : decode cX7_readSum 61 = .ok (.iload_n 1, 1) := by decide +kernel
theorem dX7_readSum_62 : decode cX7_readSum 62 = .ok (.invokevirtual 222, 3) := by decide +kernel
theorem dX7_readSum_65 : decode cX7_readSum 65 = .ok (.ifCond .ne 5, 3) := by decide +kernel
theorem dX7_readSum_68 : decode cX7_readSum 68 = .ok (.iconst 0, 1) := by decide +kernel
theorem dX7_readSum_69 : decode cX7_readSum 69 = .ok (.ireturn, 1) := by decide +kernel
theorem dX7_readSum_70 : decode cX7_readSum 70 = .ok (.aload_n 0, 1) := by decide +kernel
theorem dX7_readSum_71 : decode cX7_readSum 71 = .ok (.getfield 18, 3) := by decide +kernel
theorem dX7_readSum_74 : decode cX7_readSum 74 = .ok (.getfield 175, 3) := by decide +kernel
theorem dX7_readSum_77 : decode cX7_readSum 77 = .ok (.iload_n 3, 1) := by decide +kernel
theorem dX7_readSum_78 : decode cX7_readSum 78 = .ok (.invokevirtual 203, 3) := by decide +kernel
theorem dX7_readSum_81 : decode cX7_readSum 81 = .ok (.iinc 2 1, 3) := by decide +kernel
theorem dX7_readSum_84 : decode cX7_readSum 84 = .ok (.goto (-72), 3) := by decide +kernel
theorem dX7_readSum_87 : decode cX7_readSum 87 = .ok (.iconst 1, 1) := by decide +kernel
theorem dX7_readSum_88 : decode cX7_readSum 88 = .ok (.ireturn, 1) := by decide +kernel
theorem dX7_readTerm_0 : decode cX7_readTerm 0 = .ok (.aload_n 0, 1) := by decide +kernel
theorem dX7_readTerm_1 : decode cX7_readTerm 1 = .ok (.iload_n 1, 1) := by decide +kernel
theorem dX7_readTerm_2 : decode cX7_readTerm 2 = .ok (.invokevirtual 225, 3) := by decide +kernel
theorem dX7_readTerm_5 : decode cX7_readTerm 5 = .ok (.ifCond .ne 5, 3) := by decide +kernel
theorem dX7_readTerm_8 : decode cX7_readTerm 8 = .ok (.iconst 0, 1) := by decide +kernel
theorem dX7_readTerm_9 : decode cX7_readTerm 9 = .ok (.ireturn, 1) := by decide +kernel
theorem dX7_readTerm_10 : decode cX7_readTerm 10 = .ok (.iconst 0, 1) := by decide +kernel
theorem dX7_readTerm_11 : decode cX7_readTerm 11 = .ok (.istore_n 2, 1) := by decide +kernel
theorem dX7_readTerm_12 : decode cX7_readTerm 12 = .ok (.iload_n 2, 1) := by decide +kernel
theorem dX7_readTerm_13 : decode cX7_readTerm 13 = .ok (.sipush 900, 3) := by decide +kernel
theorem dX7_readTerm_16 : decode cX7_readTerm 16 = .ok (.if_icmp .ge 45, 3) := by decide +kernel
theorem dX7_readTerm_19 : decode cX7_readTerm 19 = .ok (.aload_n 0, 1) := by decide +kernel
theorem dX7_readTerm_20 : decode cX7_readTerm 20 = .ok (.bipush 42, 2) := by decide +kernel
theorem dX7_readTerm_22 : decode cX7_readTerm 22 = .ok (.invokevirtual 216, 3) := by decide +kernel
theorem dX7_readTerm_25 : decode cX7_readTerm 25 = .ok (.ifCond .eq 36, 3) := by decide +kernel
theorem dX7_readTerm_28 : decode cX7_readTerm 28 = .ok (.aload_n 0, 1) := by decide +kernel
theorem dX7_readTerm_29 : decode cX7_readTerm 29 = .ok (.invokevirtual 41, 3) := by decide +kernel
theorem dX7_readTerm_32 : decode cX7_readTerm 32 = .ok (.aload_n 0, 1) := by decide +kernel
theorem dX7_readTerm_33 : decode cX7_readTerm 33 = .ok (.iload_n 1, 1) := by decide +kernel
theorem dX7_readTerm_34 : decode cX7_readTerm 34 = .ok (.invokevirtual 225, 3) := by decide +kernel
theorem dX7_readTerm_37 : decode cX7_readTerm 37 = .ok (.ifCond .ne 5, 3) := by decide +kernel
theorem dX7_readTerm_40 : decode cX7_readTerm 40 = .ok (.iconst 0, 1) := by decide +kernel
theorem dX7_readTerm_41 : decode cX7_readTerm 41 = .ok (.ireturn, 1) := by decide +kernel
theorem dX7_readTerm_42 : decode cX7_readTerm 42 = .ok (.aload_n 0, 1) := by decide +kernel
theorem dX7_readTerm_43 : decode cX7_readTerm 43 = .ok (.getfield 18, 3) := by decide +kernel
theorem dX7_readTerm_46 : decode cX7_readTerm 46 = .ok (.getfield 175, 3) := by decide +kernel
theorem dX7_readTerm_49 : decode cX7_readTerm 49 = .ok (.sipush 2002, 3) := by decide +kernel
theorem dX7_readTerm_52 : decode cX7_readTerm 52 = .ok (.invokevirtual 203, 3) := by decide +kernel
theorem dX7_readTerm_55 : decode cX7_readTerm 55 = .ok (.iinc 2 1, 3) := by decide +kernel
theorem dX7_readTerm_58 : decode cX7_readTerm 58 = .ok (.goto (-46), 3) := by decide +kernel
theorem dX7_readTerm_61 : decode cX7_readTerm 61 = .ok (.iconst 1, 1) := by decide +kernel
theorem dX7_readTerm_62 : decode cX7_readTerm 62 = .ok (.ireturn, 1) := by decide +kernel
theorem dX7_readAtom_0 : decode cX7_readAtom 0 = .ok (.aload_n 0, 1) := by decide +kernel
theorem dX7_readAtom_1 : decode cX7_readAtom 1 = .ok (.bipush 40, 2) := by decide +kernel
theorem dX7_readAtom_3 : decode cX7_readAtom 3 = .ok (.invokevirtual 216, 3) := by decide +kernel
theorem dX7_readAtom_6 : decode cX7_readAtom 6 = .ok (.ifCond .eq 36, 3) := by decide +kernel
theorem dX7_readAtom_9 : decode cX7_readAtom 9 = .ok (.aload_n 0, 1) := by decide +kernel
theorem dX7_readAtom_10 : decode cX7_readAtom 10 = .ok (.iload_n 1, 1) := by decide +kernel
theorem dX7_readAtom_11 : decode cX7_readAtom 11 = .ok (.invokevirtual 213, 3) := by decide +kernel
theorem dX7_readAtom_14 : decode cX7_readAtom 14 = .ok (.ifCond .eq 26, 3) := by decide +kernel
theorem dX7_readAtom_17 : decode cX7_readAtom 17 = .ok (.aload_n 0, 1) := by decide +kernel
theorem dX7_readAtom_18 : decode cX7_readAtom 18 = .ok (.iload_n 1, 1) := by decide +kernel
theorem dX7_readAtom_19 : decode cX7_readAtom 19 = .ok (.iconst 1, 1) := by decide +kernel
theorem dX7_readAtom_20 : decode cX7_readAtom 20 = .ok (.iadd, 1) := by decide +kernel
theorem dX7_readAtom_21 : decode cX7_readAtom 21 = .ok (.invokevirtual 192, 3) := by decide +kernel
theorem dX7_readAtom_24 : decode cX7_readAtom 24 = .ok (.ifCond .eq 16, 3) := by decide +kernel
theorem dX7_readAtom_27 : decode cX7_readAtom 27 = .ok (.aload_n 0, 1) := by decide +kernel
theorem dX7_readAtom_28 : decode cX7_readAtom 28 = .ok (.bipush 41, 2) := by decide +kernel
theorem dX7_readAtom_30 : decode cX7_readAtom 30 = .ok (.invokevirtual 82, 3) := by decide +kernel
theorem dX7_readAtom_33 : decode cX7_readAtom 33 = .ok (.ifCond .eq 7, 3) := by decide +kernel
theorem dX7_readAtom_36 : decode cX7_readAtom 36 = .ok (.iconst 1, 1) := by decide +kernel
theorem dX7_readAtom_37 : decode cX7_readAtom 37 = .ok (.goto 4, 3) := by decide +kernel
theorem dX7_readAtom_40 : decode cX7_readAtom 40 = .ok (.iconst 0, 1) := by decide +kernel
theorem dX7_readAtom_41 : decode cX7_readAtom 41 = .ok (.ireturn, 1) := by decide +kernel
theorem dX7_readAtom_42 : decode cX7_readAtom 42 = .ok (.aload_n 0, 1) := by decide +kernel
theorem dX7_readAtom_43 : decode cX7_readAtom 43 = .ok (.ldc 228, 2) := by decide +kernel
theorem dX7_readAtom_45 : decode cX7_readAtom 45 = .ok (.invokevirtual 91, 3) := by decide +kernel
theorem dX7_readAtom_48 : decode cX7_readAtom 48 = .ok (.ifCond .eq 27, 3) := by decide +kernel
theorem dX7_readAtom_51 : decode cX7_readAtom 51 = .ok (.aload_n 0, 1) := by decide +kernel
theorem dX7_readAtom_52 : decode cX7_readAtom 52 = .ok (.iload_n 1, 1) := by decide +kernel
theorem dX7_readAtom_53 : decode cX7_readAtom 53 = .ok (.invokevirtual 213, 3) := by decide +kernel
theorem dX7_readAtom_56 : decode cX7_readAtom 56 = .ok (.ifCond .eq 17, 3) := by decide +kernel
theorem dX7_readAtom_59 : decode cX7_readAtom 59 = .ok (.aload_n 0, 1) := by decide +kernel
theorem dX7_readAtom_60 : decode cX7_readAtom 60 = .ok (.iload_n 1, 1) := by decide +kernel
theorem dX7_readAtom_61 : decode cX7_readAtom 61 = .ok (.iconst 1, 1) := by decide +kernel
theorem dX7_readAtom_62 : decode cX7_readAtom 62 = .ok (.iadd, 1) := by decide +kernel
theorem dX7_readAtom_63 : decode cX7_readAtom 63 = .ok (.invokevirtual 230, 3) := by decide +kernel
theorem dX7_readAtom_66 : decode cX7_readAtom 66 = .ok (.ifCond .eq 7, 3) := by decide +kernel
theorem dX7_readAtom_69 : decode cX7_readAtom 69 = .ok (.iconst 1, 1) := by decide +kernel
theorem dX7_readAtom_70 : decode cX7_readAtom 70 = .ok (.goto 4, 3) := by decide +kernel
theorem dX7_readAtom_73 : decode cX7_readAtom 73 = .ok (.iconst 0, 1) := by decide +kernel
theorem dX7_readAtom_74 : decode cX7_readAtom 74 = .ok (.ireturn, 1) := by decide +kernel
theorem dX7_readAtom_75 : decode cX7_readAtom 75 = .ok (.aload_n 0, 1) := by decide +kernel
theorem dX7_readAtom_76 : decode cX7_readAtom 76 = .ok (.invokevirtual 233, 3) := by decide +kernel
theorem dX7_readAtom_79 : decode cX7_readAtom 79 = .ok (.istore_n 2, 1) := by decide +kernel
theorem dX7_readAtom_80 : decode cX7_readAtom 80 = .ok (.aload_n 0, 1) := by decide +kernel
theorem dX7_readAtom_81 : decode cX7_readAtom 81 = .ok (.getfield 48, 3) := by decide +kernel
theorem dX7_readAtom_84 : decode cX7_readAtom 84 = .ok (.iconst 2, 1) := by decide +kernel
theorem dX7_readAtom_85 : decode cX7_readAtom 85 = .ok (.if_icmp .eq 14, 3) := by decide +kernel
theorem dX7_readAtom_88 : decode cX7_readAtom 88 = .ok (.iload_n 2, 1) := by decide +kernel
theorem dX7_readAtom_89 : decode cX7_readAtom 89 = .ok (.iconst (-1), 1) := by decide +kernel
theorem dX7_readAtom_90 : decode cX7_readAtom 90 = .ok (.if_icmp .ne 9, 3) := by decide +kernel
theorem dX7_readAtom_93 : decode cX7_readAtom 93 = .ok (.aload_n 0, 1) := by decide +kernel
theorem dX7_readAtom_94 : decode cX7_readAtom 94 = .ok (.iconst 2, 1) := by decide +kernel
theorem dX7_readAtom_95 : decode cX7_readAtom 95 = .ok (.invokevirtual 122, 3) := by decide +kernel
theorem dX7_readAtom_98 : decode cX7_readAtom 98 = .ok (.ireturn, 1) := by decide +kernel
theorem dX7_readAtom_99 : decode cX7_readAtom 99 = .ok (.aload_n 0, 1) := by decide +kernel
theorem dX7_readAtom_100 : decode cX7_readAtom 100 = .ok (.getfield 18, 3) := by decide +kernel
theorem dX7_readAtom_103 : decode cX7_readAtom 103 = .ok (.getfield 175, 3) := by decide +kernel
theorem dX7_readAtom_106 : decode cX7_readAtom 106 = .ok (.aload_n 0, 1) := by decide +kernel
theorem dX7_readAtom_107 : decode cX7_readAtom 107 = .ok (.getfield 48, 3) := by decide +kernel
theorem dX7_readAtom_110 : decode cX7_readAtom 110 = .ok (.iconst 2, 1) := by decide +kernel
theorem dX7_readAtom_111 : decode cX7_readAtom 111 = .ok (.if_icmp .ne 10, 3) := by decide +kernel
theorem dX7_readAtom_114 : decode cX7_readAtom 114 = .ok (.aload_n 0, 1) := by decide +kernel
theorem dX7_readAtom_115 : decode cX7_readAtom 115 = .ok (.getfield 236, 3) := by decide +kernel
theorem dX7_readAtom_118 : decode cX7_readAtom 118 = .ok (.goto 8, 3) := by decide +kernel
theorem dX7_readAtom_121 : decode cX7_readAtom 121 = .ok (.sipush 1000, 3) := by decide +kernel
theorem dX7_readAtom_124 : decode cX7_readAtom 124 = .ok (.iload_n 2, 1) := by decide +kernel
theorem dX7_readAtom_125 : decode cX7_readAtom 125 = .ok (.iadd, 1) := by decide +kernel
theorem dX7_readAtom_126 : decode cX7_readAtom 126 = .ok (.invokevirtual 203, 3) := by decide +kernel
theorem dX7_readAtom_129 : decode cX7_readAtom 129 = .ok (.aload_n 0, 1) := by decide +kernel
theorem dX7_readAtom_130 : decode cX7_readAtom 130 = .ok (.invokevirtual 41, 3) := by decide +kernel
theorem dX7_readAtom_133 : decode cX7_readAtom 133 = .ok (.iconst 1, 1) := by decide +kernel
theorem dX7_readAtom_134 : decode cX7_readAtom 134 = .ok (.ireturn, 1) := by decide +kernel
theorem dX7_readChoice_0 : decode cX7_readChoice 0 = .ok (.aload_n 0, 1) := by decide +kernel
theorem dX7_readChoice_1 : decode cX7_readChoice 1 = .ok (.iload_n 1, 1) := by decide +kernel
theorem dX7_readChoice_2 : decode cX7_readChoice 2 = .ok (.invokevirtual 185, 3) := by decide +kernel
theorem dX7_readChoice_5 : decode cX7_readChoice 5 = .ok (.ifCond .eq 20, 3) := by decide +kernel
theorem dX7_readChoice_8 : decode cX7_readChoice 8 = .ok (.aload_n 0, 1) := by decide +kernel
theorem dX7_readChoice_9 : decode cX7_readChoice 9 = .ok (.ldc 239, 2) := by decide +kernel
theorem dX7_readChoice_11 : decode cX7_readChoice 11 = .ok (.invokevirtual 62, 3) := by decide +kernel
theorem dX7_readChoice_14 : decode cX7_readChoice 14 = .ok (.ifCond .eq 11, 3) := by decide +kernel
theorem dX7_readChoice_17 : decode cX7_readChoice 17 = .ok (.aload_n 0, 1) := by decide +kernel
theorem dX7_readChoice_18 : decode cX7_readChoice 18 = .ok (.iload_n 1, 1) := by decide +kernel
theorem dX7_readChoice_19 : decode cX7_readChoice 19 = .ok (.invokevirtual 192, 3) := by decide +kernel
theorem dX7_readChoice_22 : decode cX7_readChoice 22 = .ok (.ifCond .ne 5, 3) := by decide +kernel
theorem dX7_readChoice_25 : decode cX7_readChoice 25 = .ok (.iconst 0, 1) := by decide +kernel
theorem dX7_readChoice_26 : decode cX7_readChoice 26 = .ok (.ireturn, 1) := by decide +kernel
theorem dX7_readChoice_27 : decode cX7_readChoice 27 = .ok (.aload_n 0, 1) := by decide +kernel
theorem dX7_readChoice_28 : decode cX7_readChoice 28 = .ok (.ldc 241, 2) := by decide +kernel
theorem dX7_readChoice_30 : decode cX7_readChoice 30 = .ok (.invokevirtual 62, 3) := by decide +kernel
theorem dX7_readChoice_33 : decode cX7_readChoice 33 = .ok (.ifCond .eq 20, 3) := by decide +kernel
theorem dX7_readChoice_36 : decode cX7_readChoice 36 = .ok (.aload_n 0, 1) := by decide +kernel
theorem dX7_readChoice_37 : decode cX7_readChoice 37 = .ok (.iload_n 1, 1) := by decide +kernel
theorem dX7_readChoice_38 : decode cX7_readChoice 38 = .ok (.invokevirtual 192, 3) := by decide +kernel
theorem dX7_readChoice_41 : decode cX7_readChoice 41 = .ok (.ifCond .eq 12, 3) := by decide +kernel
theorem dX7_readChoice_44 : decode cX7_readChoice 44 = .ok (.aload_n 0, 1) := by decide +kernel
theorem dX7_readChoice_45 : decode cX7_readChoice 45 = .ok (.ldc 243, 2) := by decide +kernel
theorem dX7_readChoice_47 : decode cX7_readChoice 47 = .ok (.invokevirtual 62, 3) := by decide +kernel
theorem dX7_readChoice_50 : decode cX7_readChoice 50 = .ok (.ifCond .ne 5, 3) := by decide +kernel
theorem dX7_readChoice_53 : decode cX7_readChoice 53 = .ok (.iconst 0, 1) := by decide +kernel
theorem dX7_readChoice_54 : decode cX7_readChoice 54 = .ok (.ireturn, 1) := by decide +kernel
theorem dX7_readChoice_55 : decode cX7_readChoice 55 = .ok (.aload_n 0, 1) := by decide +kernel
theorem dX7_readChoice_56 : decode cX7_readChoice 56 = .ok (.getfield 18, 3) := by decide +kernel
theorem dX7_readChoice_59 : decode cX7_readChoice 59 = .ok (.getfield 175, 3) := by decide +kernel
theorem dX7_readChoice_62 : decode cX7_readChoice 62 = .ok (.sipush 2009, 3) := by decide +kernel
theorem dX7_readChoice_65 : decode cX7_readChoice 65 = .ok (.invokevirtual 203, 3) := by decide +kernel
theorem dX7_readChoice_68 : decode cX7_readChoice 68 = .ok (.iconst 1, 1) := by decide +kernel
theorem dX7_readChoice_69 : decode cX7_readChoice 69 = .ok (.ireturn, 1) := by decide +kernel
theorem dX7_factNamed_0 : decode cX7_factNamed 0 = .ok (.aload_n 0, 1) := by decide +kernel
theorem dX7_factNamed_1 : decode cX7_factNamed 1 = .ok (.ldc 149, 2) := by decide +kernel
theorem dX7_factNamed_3 : decode cX7_factNamed 3 = .ok (.invokevirtual 91, 3) := by decide +kernel
theorem dX7_factNamed_6 : decode cX7_factNamed 6 = .ok (.ifCond .eq 5, 3) := by decide +kernel
theorem dX7_factNamed_9 : decode cX7_factNamed 9 = .ok (.iconst 0, 1) := by decide +kernel
theorem dX7_factNamed_10 : decode cX7_factNamed 10 = .ok (.ireturn, 1) := by decide +kernel
theorem dX7_factNamed_11 : decode cX7_factNamed 11 = .ok (.aload_n 0, 1) := by decide +kernel
theorem dX7_factNamed_12 : decode cX7_factNamed 12 = .ok (.ldc 163, 2) := by decide +kernel
theorem dX7_factNamed_14 : decode cX7_factNamed 14 = .ok (.invokevirtual 91, 3) := by decide +kernel
theorem dX7_factNamed_17 : decode cX7_factNamed 17 = .ok (.ifCond .eq 5, 3) := by decide +kernel
theorem dX7_factNamed_20 : decode cX7_factNamed 20 = .ok (.iconst 1, 1) := by decide +kernel
theorem dX7_factNamed_21 : decode cX7_factNamed 21 = .ok (.ireturn, 1) := by decide +kernel
theorem dX7_factNamed_22 : decode cX7_factNamed 22 = .ok (.aload_n 0, 1) := by decide +kernel
theorem dX7_factNamed_23 : decode cX7_factNamed 23 = .ok (.ldc 244, 2) := by decide +kernel
theorem dX7_factNamed_25 : decode cX7_factNamed 25 = .ok (.invokevirtual 91, 3) := by decide +kernel
theorem dX7_factNamed_28 : decode cX7_factNamed 28 = .ok (.ifCond .eq 5, 3) := by decide +kernel
theorem dX7_factNamed_31 : decode cX7_factNamed 31 = .ok (.iconst 2, 1) := by decide +kernel
theorem dX7_factNamed_32 : decode cX7_factNamed 32 = .ok (.ireturn, 1) := by decide +kernel
theorem dX7_factNamed_33 : decode cX7_factNamed 33 = .ok (.aload_n 0, 1) := by decide +kernel
theorem dX7_factNamed_34 : decode cX7_factNamed 34 = .ok (.ldc 136, 2) := by decide +kernel
theorem dX7_factNamed_36 : decode cX7_factNamed 36 = .ok (.invokevirtual 91, 3) := by decide +kernel
theorem dX7_factNamed_39 : decode cX7_factNamed 39 = .ok (.ifCond .eq 5, 3) := by decide +kernel
theorem dX7_factNamed_42 : decode cX7_factNamed 42 = .ok (.iconst 3, 1) := by decide +kernel
theorem dX7_factNamed_43 : decode cX7_factNamed 43 = .ok (.ireturn, 1) := by decide +kernel
theorem dX7_factNamed_44 : decode cX7_factNamed 44 = .ok (.aload_n 0, 1) := by decide +kernel
theorem dX7_factNamed_45 : decode cX7_factNamed 45 = .ok (.ldc 77, 2) := by decide +kernel
theorem dX7_factNamed_47 : decode cX7_factNamed 47 = .ok (.invokevirtual 91, 3) := by decide +kernel
theorem dX7_factNamed_50 : decode cX7_factNamed 50 = .ok (.ifCond .eq 5, 3) := by decide +kernel
theorem dX7_factNamed_53 : decode cX7_factNamed 53 = .ok (.iconst 4, 1) := by decide +kernel
theorem dX7_factNamed_54 : decode cX7_factNamed 54 = .ok (.ireturn, 1) := by decide +kernel
theorem dX7_factNamed_55 : decode cX7_factNamed 55 = .ok (.aload_n 0, 1) := by decide +kernel
theorem dX7_factNamed_56 : decode cX7_factNamed 56 = .ok (.getfield 171, 3) := by decide +kernel
theorem dX7_factNamed_59 : decode cX7_factNamed 59 = .ok (.ifCond .eq 16, 3) := by decide +kernel
theorem dX7_factNamed_62 : decode cX7_factNamed 62 = .ok (.aload_n 0, 1) := by decide +kernel
theorem dX7_factNamed_63 : decode cX7_factNamed 63 = .ok (.ldc 246, 2) := by decide +kernel
theorem dX7_factNamed_65 : decode cX7_factNamed 65 = .ok (.invokevirtual 91, 3) := by decide +kernel
theorem dX7_factNamed_68 : decode cX7_factNamed 68 = .ok (.ifCond .eq 7, 3) := by decide +kernel
theorem dX7_factNamed_71 : decode cX7_factNamed 71 = .ok (.iconst 5, 1) := by decide +kernel
theorem dX7_factNamed_72 : decode cX7_factNamed 72 = .ok (.goto 4, 3) := by decide +kernel
theorem dX7_factNamed_75 : decode cX7_factNamed 75 = .ok (.iconst (-1), 1) := by decide +kernel
theorem dX7_factNamed_76 : decode cX7_factNamed 76 = .ok (.ireturn, 1) := by decide +kernel
theorem dX7_enter_0 : decode cX7_enter 0 = .ok (.iload_n 1, 1) := by decide +kernel
theorem dX7_enter_1 : decode cX7_enter 1 = .ok (.bipush 6, 2) := by decide +kernel
theorem dX7_enter_3 : decode cX7_enter 3 = .ok (.if_icmp .lt 9, 3) := by decide +kernel
theorem dX7_enter_6 : decode cX7_enter 6 = .ok (.aload_n 0, 1) := by decide +kernel
theorem dX7_enter_7 : decode cX7_enter 7 = .ok (.iconst 4, 1) := by decide +kernel
theorem dX7_enter_8 : decode cX7_enter 8 = .ok (.invokevirtual 122, 3) := by decide +kernel
theorem dX7_enter_11 : decode cX7_enter 11 = .ok (.ireturn, 1) := by decide +kernel
theorem dX7_enter_12 : decode cX7_enter 12 = .ok (.aload_n 0, 1) := by decide +kernel
theorem dX7_enter_13 : decode cX7_enter 13 = .ok (.invokevirtual 41, 3) := by decide +kernel
theorem dX7_enter_16 : decode cX7_enter 16 = .ok (.iconst 1, 1) := by decide +kernel
theorem dX7_enter_17 : decode cX7_enter 17 = .ok (.ireturn, 1) := by decide +kernel
theorem dX7_takeWord_0 : decode cX7_takeWord 0 = .ok (.aload_n 0, 1) := by decide +kernel
theorem dX7_takeWord_1 : decode cX7_takeWord 1 = .ok (.aload_n 1, 1) := by decide +kernel
theorem dX7_takeWord_2 : decode cX7_takeWord 2 = .ok (.invokevirtual 91, 3) := by decide +kernel
theorem dX7_takeWord_5 : decode cX7_takeWord 5 = .ok (.ifCond .ne 9, 3) := by decide +kernel
theorem dX7_takeWord_8 : decode cX7_takeWord 8 = .ok (.aload_n 0, 1) := by decide +kernel
theorem dX7_takeWord_9 : decode cX7_takeWord 9 = .ok (.iconst 2, 1) := by decide +kernel
theorem dX7_takeWord_10 : decode cX7_takeWord 10 = .ok (.invokevirtual 122, 3) := by decide +kernel
theorem dX7_takeWord_13 : decode cX7_takeWord 13 = .ok (.ireturn, 1) := by decide +kernel
theorem dX7_takeWord_14 : decode cX7_takeWord 14 = .ok (.aload_n 0, 1) := by decide +kernel
theorem dX7_takeWord_15 : decode cX7_takeWord 15 = .ok (.invokevirtual 41, 3) := by decide +kernel
theorem dX7_takeWord_18 : decode cX7_takeWord 18 = .ok (.iconst 1, 1) := by decide +kernel
theorem dX7_takeWord_19 : decode cX7_takeWord 19 = .ok (.ireturn, 1) := by decide +kernel
theorem dX7_takeSign_0 : decode cX7_takeSign 0 = .ok (.aload_n 0, 1) := by decide +kernel
theorem dX7_takeSign_1 : decode cX7_takeSign 1 = .ok (.iload_n 1, 1) := by decide +kernel
theorem dX7_takeSign_2 : decode cX7_takeSign 2 = .ok (.invokevirtual 216, 3) := by decide +kernel
theorem dX7_takeSign_5 : decode cX7_takeSign 5 = .ok (.ifCond .ne 9, 3) := by decide +kernel
theorem dX7_takeSign_8 : decode cX7_takeSign 8 = .ok (.aload_n 0, 1) := by decide +kernel
theorem dX7_takeSign_9 : decode cX7_takeSign 9 = .ok (.iconst 2, 1) := by decide +kernel
theorem dX7_takeSign_10 : decode cX7_takeSign 10 = .ok (.invokevirtual 122, 3) := by decide +kernel
theorem dX7_takeSign_13 : decode cX7_takeSign 13 = .ok (.ireturn, 1) := by decide +kernel
theorem dX7_takeSign_14 : decode cX7_takeSign 14 = .ok (.aload_n 0, 1) := by decide +kernel
theorem dX7_takeSign_15 : decode cX7_takeSign 15 = .ok (.invokevirtual 41, 3) := by decide +kernel
theorem dX7_takeSign_18 : decode cX7_takeSign 18 = .ok (.iconst 1, 1) := by decide +kernel
theorem dX7_takeSign_19 : decode cX7_takeSign 19 = .ok (.ireturn, 1) := by decide +kernel
theorem dX7_takeNumber_0 : decode cX7_takeNumber 0 = .ok (.aload_n 0, 1) := by decide +kernel
theorem dX7_takeNumber_1 : decode cX7_takeNumber 1 = .ok (.getfield 48, 3) := by decide +kernel
theorem dX7_takeNumber_4 : decode cX7_takeNumber 4 = .ok (.iconst 2, 1) := by decide +kernel
theorem dX7_takeNumber_5 : decode cX7_takeNumber 5 = .ok (.if_icmp .eq 9, 3) := by decide +kernel
theorem dX7_takeNumber_8 : decode cX7_takeNumber 8 = .ok (.aload_n 0, 1) := by decide +kernel
theorem dX7_takeNumber_9 : decode cX7_takeNumber 9 = .ok (.iconst 2, 1) := by decide +kernel
theorem dX7_takeNumber_10 : decode cX7_takeNumber 10 = .ok (.invokevirtual 122, 3) := by decide +kernel
theorem dX7_takeNumber_13 : decode cX7_takeNumber 13 = .ok (.ireturn, 1) := by decide +kernel
theorem dX7_takeNumber_14 : decode cX7_takeNumber 14 = .ok (.aload_n 0, 1) := by decide +kernel
theorem dX7_takeNumber_15 : decode cX7_takeNumber 15 = .ok (.getfield 236, 3) := by decide +kernel
theorem dX7_takeNumber_18 : decode cX7_takeNumber 18 = .ok (.iload_n 1, 1) := by decide +kernel
theorem dX7_takeNumber_19 : decode cX7_takeNumber 19 = .ok (.if_icmp .lt 19, 3) := by decide +kernel
theorem dX7_takeNumber_22 : decode cX7_takeNumber 22 = .ok (.aload_n 0, 1) := by decide +kernel
theorem dX7_takeNumber_23 : decode cX7_takeNumber 23 = .ok (.getfield 236, 3) := by decide +kernel
theorem dX7_takeNumber_26 : decode cX7_takeNumber 26 = .ok (.iload_n 2, 1) := by decide +kernel
theorem dX7_takeNumber_27 : decode cX7_takeNumber 27 = .ok (.if_icmp .gt 11, 3) := by decide +kernel
theorem dX7_takeNumber_30 : decode cX7_takeNumber 30 = .ok (.aload_n 0, 1) := by decide +kernel
theorem dX7_takeNumber_31 : decode cX7_takeNumber 31 = .ok (.getfield 236, 3) := by decide +kernel
theorem dX7_takeNumber_34 : decode cX7_takeNumber 34 = .ok (.iload_n 3, 1) := by decide +kernel
theorem dX7_takeNumber_35 : decode cX7_takeNumber 35 = .ok (.if_icmp .ne 9, 3) := by decide +kernel
theorem dX7_takeNumber_38 : decode cX7_takeNumber 38 = .ok (.aload_n 0, 1) := by decide +kernel
theorem dX7_takeNumber_39 : decode cX7_takeNumber 39 = .ok (.iconst 3, 1) := by decide +kernel
theorem dX7_takeNumber_40 : decode cX7_takeNumber 40 = .ok (.invokevirtual 122, 3) := by decide +kernel
theorem dX7_takeNumber_43 : decode cX7_takeNumber 43 = .ok (.ireturn, 1) := by decide +kernel
theorem dX7_takeNumber_44 : decode cX7_takeNumber 44 = .ok (.aload_n 0, 1) := by decide +kernel
theorem dX7_takeNumber_45 : decode cX7_takeNumber 45 = .ok (.aload_n 0, 1) := by decide +kernel
theorem dX7_takeNumber_46 : decode cX7_takeNumber 46 = .ok (.getfield 236, 3) := by decide +kernel
theorem dX7_takeNumber_49 : decode cX7_takeNumber 49 = .ok (.putfield 72, 3) := by decide +kernel
theorem dX7_takeNumber_52 : decode cX7_takeNumber 52 = .ok (.aload_n 0, 1) := by decide +kernel
theorem dX7_takeNumber_53 : decode cX7_takeNumber 53 = .ok (.invokevirtual 41, 3) := by decide +kernel
theorem dX7_takeNumber_56 : decode cX7_takeNumber 56 = .ok (.iconst 1, 1) := by decide +kernel
theorem dX7_takeNumber_57 : decode cX7_takeNumber 57 = .ok (.ireturn, 1) := by decide +kernel
theorem dX7_refuse_0 : decode cX7_refuse 0 = .ok (.aload_n 0, 1) := by decide +kernel
theorem dX7_refuse_1 : decode cX7_refuse 1 = .ok (.aload_n 0, 1) := by decide +kernel
theorem dX7_refuse_2 : decode cX7_refuse 2 = .ok (.getfield 48, 3) := by decide +kernel
theorem dX7_refuse_5 : decode cX7_refuse 5 = .ok (.iconst 4, 1) := by decide +kernel
theorem dX7_refuse_6 : decode cX7_refuse 6 = .ok (.if_icmp .ne 7, 3) := by decide +kernel
theorem dX7_refuse_9 : decode cX7_refuse 9 = .ok (.iconst 1, 1) := by decide +kernel
theorem dX7_refuse_10 : decode cX7_refuse 10 = .ok (.goto 4, 3) := by decide +kernel
theorem dX7_refuse_13 : decode cX7_refuse 13 = .ok (.iload_n 1, 1) := by decide +kernel
theorem dX7_refuse_14 : decode cX7_refuse 14 = .ok (.putfield 35, 3) := by decide +kernel
theorem dX7_refuse_17 : decode cX7_refuse 17 = .ok (.aload_n 0, 1) := by decide +kernel
theorem dX7_refuse_18 : decode cX7_refuse 18 = .ok (.aload_n 0, 1) := by decide +kernel
theorem dX7_refuse_19 : decode cX7_refuse 19 = .ok (.getfield 248, 3) := by decide +kernel
theorem dX7_refuse_22 : decode cX7_refuse 22 = .ok (.putfield 22, 3) := by decide +kernel
theorem dX7_refuse_25 : decode cX7_refuse 25 = .ok (.iconst 0, 1) := by decide +kernel
theorem dX7_refuse_26 : decode cX7_refuse 26 = .ok (.ireturn, 1) := by decide +kernel
theorem dX7_isWord_0 : decode cX7_isWord 0 = .ok (.aload_n 0, 1) := by decide +kernel
theorem dX7_isWord_1 : decode cX7_isWord 1 = .ok (.getfield 48, 3) := by decide +kernel
theorem dX7_isWord_4 : decode cX7_isWord 4 = .ok (.iconst 1, 1) := by decide +kernel
theorem dX7_isWord_5 : decode cX7_isWord 5 = .ok (.if_icmp .ne 19, 3) := by decide +kernel
theorem dX7_isWord_8 : decode cX7_isWord 8 = .ok (.aload_n 0, 1) := by decide +kernel
theorem dX7_isWord_9 : decode cX7_isWord 9 = .ok (.getfield 32, 3) := by decide +kernel
theorem dX7_isWord_12 : decode cX7_isWord 12 = .ok (.aload_n 0, 1) := by decide +kernel
theorem dX7_isWord_13 : decode cX7_isWord 13 = .ok (.getfield 248, 3) := by decide +kernel
theorem dX7_isWord_16 : decode cX7_isWord 16 = .ok (.isub, 1) := by decide +kernel
theorem dX7_isWord_17 : decode cX7_isWord 17 = .ok (.aload_n 1, 1) := by decide +kernel
theorem dX7_isWord_18 : decode cX7_isWord 18 = .ok (.invokevirtual 251, 3) := by decide +kernel
theorem dX7_isWord_21 : decode cX7_isWord 21 = .ok (.if_icmp .eq 5, 3) := by decide +kernel
theorem dX7_isWord_24 : decode cX7_isWord 24 = .ok (.iconst 0, 1) := by decide +kernel
theorem dX7_isWord_25 : decode cX7_isWord 25 = .ok (.ireturn, 1) := by decide +kernel
theorem dX7_isWord_26 : decode cX7_isWord 26 = .ok (.iconst 0, 1) := by decide +kernel
theorem dX7_isWord_27 : decode cX7_isWord 27 = .ok (.istore_n 2, 1) := by decide +kernel
theorem dX7_isWord_28 : decode cX7_isWord 28 = .ok (.iload_n 2, 1) := by decide +kernel
theorem dX7_isWord_29 : decode cX7_isWord 29 = .ok (.aload_n 1, 1) := by decide +kernel
theorem dX7_isWord_30 : decode cX7_isWord 30 = .ok (.invokevirtual 251, 3) := by decide +kernel
theorem dX7_isWord_33 : decode cX7_isWord 33 = .ok (.if_icmp .ge 30, 3) := by decide +kernel
theorem dX7_isWord_36 : decode cX7_isWord 36 = .ok (.aload_n 0, 1) := by decide +kernel
theorem dX7_isWord_37 : decode cX7_isWord 37 = .ok (.getfield 9, 3) := by decide +kernel
theorem dX7_isWord_40 : decode cX7_isWord 40 = .ok (.aload_n 0, 1) := by decide +kernel
theorem dX7_isWord_41 : decode cX7_isWord 41 = .ok (.getfield 248, 3) := by decide +kernel
theorem dX7_isWord_44 : decode cX7_isWord 44 = .ok (.iload_n 2, 1) := by decide +kernel
theorem dX7_isWord_45 : decode cX7_isWord 45 = .ok (.iadd, 1) := by decide +kernel
theorem dX7_isWord_46 : decode cX7_isWord 46 = .ok (.caload, 1) := by decide +kernel
theorem dX7_isWord_47 : decode cX7_isWord 47 = .ok (.aload_n 1, 1) := by decide +kernel
theorem dX7_isWord_48 : decode cX7_isWord 48 = .ok (.iload_n 2, 1) := by decide +kernel
theorem dX7_isWord_49 : decode cX7_isWord 49 = .ok (.invokevirtual 255, 3) := by decide +kernel
theorem dX7_isWord_52 : decode cX7_isWord 52 = .ok (.if_icmp .eq 5, 3) := by decide +kernel
theorem dX7_isWord_55 : decode cX7_isWord 55 = .ok (.iconst 0, 1) := by decide +kernel
theorem dX7_isWord_56 : decode cX7_isWord 56 = .ok (.ireturn, 1) := by decide +kernel
theorem dX7_isWord_57 : decode cX7_isWord 57 = .ok (.iinc 2 1, 3) := by decide +kernel
theorem dX7_isWord_60 : decode cX7_isWord 60 = .ok (.goto (-32), 3) := by decide +kernel
theorem dX7_isWord_63 : decode cX7_isWord 63 = .ok (.iconst 1, 1) := by decide +kernel
theorem dX7_isWord_64 : decode cX7_isWord 64 = .ok (.ireturn, 1) := by decide +kernel
theorem dX7_isSign_0 : decode cX7_isSign 0 = .ok (.aload_n 0, 1) := by decide +kernel
theorem dX7_isSign_1 : decode cX7_isSign 1 = .ok (.getfield 48, 3) := by decide +kernel
theorem dX7_isSign_4 : decode cX7_isSign 4 = .ok (.iconst 3, 1) := by decide +kernel
theorem dX7_isSign_5 : decode cX7_isSign 5 = .ok (.if_icmp .ne 20, 3) := by decide +kernel
theorem dX7_isSign_8 : decode cX7_isSign 8 = .ok (.aload_n 0, 1) := by decide +kernel
theorem dX7_isSign_9 : decode cX7_isSign 9 = .ok (.getfield 9, 3) := by decide +kernel
theorem dX7_isSign_12 : decode cX7_isSign 12 = .ok (.aload_n 0, 1) := by decide +kernel
theorem dX7_isSign_13 : decode cX7_isSign 13 = .ok (.getfield 248, 3) := by decide +kernel
theorem dX7_isSign_16 : decode cX7_isSign 16 = .ok (.caload, 1) := by decide +kernel
theorem dX7_isSign_17 : decode cX7_isSign 17 = .ok (.iload_n 1, 1) := by decide +kernel
theorem dX7_isSign_18 : decode cX7_isSign 18 = .ok (.if_icmp .ne 7, 3) := by decide +kernel
theorem dX7_isSign_21 : decode cX7_isSign 21 = .ok (.iconst 1, 1) := by decide +kernel
theorem dX7_isSign_22 : decode cX7_isSign 22 = .ok (.goto 4, 3) := by decide +kernel
theorem dX7_isSign_25 : decode cX7_isSign 25 = .ok (.iconst 0, 1) := by decide +kernel
theorem dX7_isSign_26 : decode cX7_isSign 26 = .ok (.ireturn, 1) := by decide +kernel
theorem dX7_advance_0 : decode cX7_advance 0 = .ok (.aload_n 0, 1) := by decide +kernel
theorem dX7_advance_1 : decode cX7_advance 1 = .ok (.aload_n 0, 1) := by decide +kernel
theorem dX7_advance_2 : decode cX7_advance 2 = .ok (.getfield 32, 3) := by decide +kernel
theorem dX7_advance_5 : decode cX7_advance 5 = .ok (.putfield 248, 3) := by decide +kernel
theorem dX7_advance_8 : decode cX7_advance 8 = .ok (.aload_n 0, 1) := by decide +kernel
