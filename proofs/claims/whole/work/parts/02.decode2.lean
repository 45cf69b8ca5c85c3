theorem dX7_lookOn_41 : decode cX7_lookOn 41 = .ok (.aload_n 0, 1) := by decide +kernel
theorem dX7_lookOn_42 : decode cX7_lookOn 42 = .ok (.getfield 74, 3) := by decide +kernel
theorem dX7_lookOn_45 : decode cX7_lookOn 45 = .ok (.invokevirtual 272, 3) := by decide +kernel
theorem dX7_lookOn_48 : decode cX7_lookOn 48 = .ok (.aload_n 0, 1) := by decide +kernel
theorem dX7_lookOn_49 : decode cX7_lookOn 49 = .ok (.getfield 19, 3) := by decide +kernel
theorem dX7_lookOn_52 : decode cX7_lookOn 52 = .ok (.iload_n 2, 1) := by decide +kernel
theorem dX7_lookOn_53 : decode cX7_lookOn 53 = .ok (.invokestatic 253, 3) := by decide +kernel
theorem dX7_lookOn_56 : decode cX7_lookOn 56 = .ok (.invokevirtual 262, 3) := by decide +kernel
theorem dX7_lookOn_59 : decode cX7_lookOn 59 = .ok (.iinc 2 1, 3) := by decide +kernel
theorem dX7_lookOn_62 : decode cX7_lookOn 62 = .ok (.goto (-43), 3) := by decide +kernel
theorem dX7_lookOn_65 : decode cX7_lookOn 65 = .ok (.iload_n 1, 1) := by decide +kernel
theorem dX7_lookOn_66 : decode cX7_lookOn 66 = .ok (.istore_n 2, 1) := by decide +kernel
theorem dX7_lookOn_67 : decode cX7_lookOn 67 = .ok (.iconst (-1), 1) := by decide +kernel
theorem dX7_lookOn_68 : decode cX7_lookOn 68 = .ok (.istore_n 3, 1) := by decide +kernel
theorem dX7_lookOn_69 : decode cX7_lookOn 69 = .ok (.aload_n 0, 1) := by decide +kernel
theorem dX7_lookOn_70 : decode cX7_lookOn 70 = .ok (.getfield 27, 3) := by decide +kernel
theorem dX7_lookOn_73 : decode cX7_lookOn 73 = .ok (.getfield 118, 3) := by decide +kernel
theorem dX7_lookOn_76 : decode cX7_lookOn 76 = .ok (.istore 4, 2) := by decide +kernel
theorem dX7_lookOn_78 : decode cX7_lookOn 78 = .ok (.iload 4, 2) := by decide +kernel
theorem dX7_lookOn_80 : decode cX7_lookOn 80 = .ok (.aload_n 0, 1) := by decide +kernel
theorem dX7_lookOn_81 : decode cX7_lookOn 81 = .ok (.getfield 27, 3) := by decide +kernel
theorem dX7_lookOn_84 : decode cX7_lookOn 84 = .ok (.getfield 125, 3) := by decide +kernel
theorem dX7_lookOn_87 : decode cX7_lookOn 87 = .ok (.if_icmp .gt 49, 3) := by decide +kernel
theorem dX7_lookOn_90 : decode cX7_lookOn 90 = .ok (.iload 4, 2) := by decide +kernel
theorem dX7_lookOn_92 : decode cX7_lookOn 92 = .ok (.bipush 100, 2) := by decide +kernel
theorem dX7_lookOn_94 : decode cX7_lookOn 94 = .ok (.if_icmp .ge 42, 3) := by decide +kernel
theorem dX7_lookOn_97 : decode cX7_lookOn 97 = .ok (.aload_n 0, 1) := by decide +kernel
theorem dX7_lookOn_98 : decode cX7_lookOn 98 = .ok (.getfield 74, 3) := by decide +kernel
theorem dX7_lookOn_101 : decode cX7_lookOn 101 = .ok (.iload 4, 2) := by decide +kernel
theorem dX7_lookOn_103 : decode cX7_lookOn 103 = .ok (.iaload, 1) := by decide +kernel
theorem dX7_lookOn_104 : decode cX7_lookOn 104 = .ok (.iload_n 1, 1) := by decide +kernel
theorem dX7_lookOn_105 : decode cX7_lookOn 105 = .ok (.aload_n 0, 1) := by decide +kernel
theorem dX7_lookOn_106 : decode cX7_lookOn 106 = .ok (.getfield 74, 3) := by decide +kernel
theorem dX7_lookOn_109 : decode cX7_lookOn 109 = .ok (.iload 4, 2) := by decide +kernel
theorem dX7_lookOn_111 : decode cX7_lookOn 111 = .ok (.iaload, 1) := by decide +kernel
theorem dX7_lookOn_112 : decode cX7_lookOn 112 = .ok (.isub, 1) := by decide +kernel
theorem dX7_lookOn_113 : decode cX7_lookOn 113 = .ok (.invokestatic 276, 3) := by decide +kernel
theorem dX7_lookOn_116 : decode cX7_lookOn 116 = .ok (.istore 5, 2) := by decide +kernel
theorem dX7_lookOn_118 : decode cX7_lookOn 118 = .ok (.iload 5, 2) := by decide +kernel
theorem dX7_lookOn_120 : decode cX7_lookOn 120 = .ok (.iload_n 2, 1) := by decide +kernel
theorem dX7_lookOn_121 : decode cX7_lookOn 121 = .ok (.if_icmp .ge 9, 3) := by decide +kernel
theorem dX7_lookOn_124 : decode cX7_lookOn 124 = .ok (.iload 5, 2) := by decide +kernel
theorem dX7_lookOn_126 : decode cX7_lookOn 126 = .ok (.istore_n 2, 1) := by decide +kernel
theorem dX7_lookOn_127 : decode cX7_lookOn 127 = .ok (.iload 4, 2) := by decide +kernel
theorem dX7_lookOn_129 : decode cX7_lookOn 129 = .ok (.istore_n 3, 1) := by decide +kernel
theorem dX7_lookOn_130 : decode cX7_lookOn 130 = .ok (.iinc 4 1, 3) := by decide +kernel
theorem dX7_lookOn_133 : decode cX7_lookOn 133 = .ok (.goto (-55), 3) := by decide +kernel
theorem dX7_lookOn_136 : decode cX7_lookOn 136 = .ok (.iload_n 3, 1) := by decide +kernel
theorem dX7_lookOn_137 : decode cX7_lookOn 137 = .ok (.ireturn, 1) := by decide +kernel
theorem dX7_write_0 : decode cX7_write 0 = .ok (.iload_n 1, 1) := by decide +kernel
theorem dX7_write_1 : decode cX7_write 1 = .ok (.ifCond .lt 9, 3) := by decide +kernel
theorem dX7_write_4 : decode cX7_write 4 = .ok (.iload_n 1, 1) := by decide +kernel
theorem dX7_write_5 : decode cX7_write 5 = .ok (.bipush 100, 2) := by decide +kernel
theorem dX7_write_7 : decode cX7_write 7 = .ok (.if_icmp .le 6, 3) := by decide +kernel
theorem dX7_write_10 : decode cX7_write 10 = .ok (.ldc 83, 2) := by decide +kernel
theorem dX7_write_12 : decode cX7_write 12 = .ok (.ireturn, 1) := by decide +kernel
theorem dX7_write_13 : decode cX7_write 13 = .ok (.aload_n 0, 1) := by decide +kernel
theorem dX7_write_14 : decode cX7_write 14 = .ok (.getfield 63, 3) := by decide +kernel
theorem dX7_write_17 : decode cX7_write 17 = .ok (.getfield 140, 3) := by decide +kernel
theorem dX7_write_20 : decode cX7_write 20 = .ok (.bipush 15, 2) := by decide +kernel
theorem dX7_write_22 : decode cX7_write 22 = .ok (.if_icmp .lt 6, 3) := by decide +kernel
theorem dX7_write_25 : decode cX7_write 25 = .ok (.ldc 88, 2) := by decide +kernel
theorem dX7_write_27 : decode cX7_write 27 = .ok (.ireturn, 1) := by decide +kernel
theorem dX7_write_28 : decode cX7_write 28 = .ok (.aload_n 0, 1) := by decide +kernel
theorem dX7_write_29 : decode cX7_write 29 = .ok (.getfield 63, 3) := by decide +kernel
theorem dX7_write_32 : decode cX7_write 32 = .ok (.iload_n 1, 1) := by decide +kernel
theorem dX7_write_33 : decode cX7_write 33 = .ok (.invokevirtual 281, 3) := by decide +kernel
theorem dX7_write_36 : decode cX7_write 36 = .ok (.aload_n 0, 1) := by decide +kernel
theorem dX7_write_37 : decode cX7_write 37 = .ok (.getfield 63, 3) := by decide +kernel
theorem dX7_write_40 : decode cX7_write 40 = .ok (.getfield 140, 3) := by decide +kernel
theorem dX7_write_43 : decode cX7_write 43 = .ok (.ireturn, 1) := by decide +kernel
theorem dX7_tear_0 : decode cX7_tear 0 = .ok (.aload_n 0, 1) := by decide +kernel
theorem dX7_tear_1 : decode cX7_tear 1 = .ok (.getfield 63, 3) := by decide +kernel
theorem dX7_tear_4 : decode cX7_tear 4 = .ok (.getfield 137, 3) := by decide +kernel
theorem dX7_tear_7 : decode cX7_tear 7 = .ok (.aload_n 0, 1) := by decide +kernel
theorem dX7_tear_8 : decode cX7_tear 8 = .ok (.getfield 63, 3) := by decide +kernel
theorem dX7_tear_11 : decode cX7_tear 11 = .ok (.getfield 140, 3) := by decide +kernel
theorem dX7_tear_14 : decode cX7_tear 14 = .ok (.iadd, 1) := by decide +kernel
theorem dX7_tear_15 : decode cX7_tear 15 = .ok (.istore_n 1, 1) := by decide +kernel
theorem dX7_tear_16 : decode cX7_tear 16 = .ok (.aload_n 0, 1) := by decide +kernel
theorem dX7_tear_17 : decode cX7_tear 17 = .ok (.getfield 63, 3) := by decide +kernel
theorem dX7_tear_20 : decode cX7_tear 20 = .ok (.invokevirtual 111, 3) := by decide +kernel
theorem dX7_tear_23 : decode cX7_tear 23 = .ok (.iload_n 1, 1) := by decide +kernel
theorem dX7_tear_24 : decode cX7_tear 24 = .ok (.ireturn, 1) := by decide +kernel
theorem dX7_judge_0 : decode cX7_judge 0 = .ok (.aload_n 0, 1) := by decide +kernel
theorem dX7_judge_1 : decode cX7_judge 1 = .ok (.getfield 19, 3) := by decide +kernel
theorem dX7_judge_4 : decode cX7_judge 4 = .ok (.invokevirtual 198, 3) := by decide +kernel
theorem dX7_judge_7 : decode cX7_judge 7 = .ok (.aload_n 0, 1) := by decide +kernel
theorem dX7_judge_8 : decode cX7_judge 8 = .ok (.getfield 63, 3) := by decide +kernel
theorem dX7_judge_11 : decode cX7_judge 11 = .ok (.aload_n 0, 1) := by decide +kernel
theorem dX7_judge_12 : decode cX7_judge 12 = .ok (.getfield 19, 3) := by decide +kernel
theorem dX7_judge_15 : decode cX7_judge 15 = .ok (.invokevirtual 206, 3) := by decide +kernel
theorem dX7_judge_18 : decode cX7_judge 18 = .ok (.invokevirtual 284, 3) := by decide +kernel
theorem dX7_judge_21 : decode cX7_judge 21 = .ok (.ireturn, 1) := by decide +kernel
theorem dX7_seed_0 : decode cX7_seed 0 = .ok (.iload_n 1, 1) := by decide +kernel
theorem dX7_seed_1 : decode cX7_seed 1 = .ok (.ifCond .ge 6, 3) := by decide +kernel
theorem dX7_seed_4 : decode cX7_seed 4 = .ok (.ldc 83, 2) := by decide +kernel
theorem dX7_seed_6 : decode cX7_seed 6 = .ok (.ireturn, 1) := by decide +kernel
theorem dX7_seed_7 : decode cX7_seed 7 = .ok (.aload_n 0, 1) := by decide +kernel
theorem dX7_seed_8 : decode cX7_seed 8 = .ok (.getfield 34, 3) := by decide +kernel
theorem dX7_seed_11 : decode cX7_seed 11 = .ok (.getfield 287, 3) := by decide +kernel
theorem dX7_seed_14 : decode cX7_seed 14 = .ok (.istore_n 2, 1) := by decide +kernel
theorem dX7_seed_15 : decode cX7_seed 15 = .ok (.aload_n 0, 1) := by decide +kernel
theorem dX7_seed_16 : decode cX7_seed 16 = .ok (.getfield 34, 3) := by decide +kernel
theorem dX7_seed_19 : decode cX7_seed 19 = .ok (.iload_n 1, 1) := by decide +kernel
theorem dX7_seed_20 : decode cX7_seed 20 = .ok (.putfield 287, 3) := by decide +kernel
theorem dX7_seed_23 : decode cX7_seed 23 = .ok (.iload_n 2, 1) := by decide +kernel
theorem dX7_seed_24 : decode cX7_seed 24 = .ok (.ireturn, 1) := by decide +kernel
theorem dX7_keep_0 : decode cX7_keep 0 = .ok (.iload_n 1, 1) := by decide +kernel
theorem dX7_keep_1 : decode cX7_keep 1 = .ok (.ifCond .lt 8, 3) := by decide +kernel
theorem dX7_keep_4 : decode cX7_keep 4 = .ok (.iload_n 1, 1) := by decide +kernel
theorem dX7_keep_5 : decode cX7_keep 5 = .ok (.iconst 2, 1) := by decide +kernel
theorem dX7_keep_6 : decode cX7_keep 6 = .ok (.if_icmp .lt 6, 3) := by decide +kernel
theorem dX7_keep_9 : decode cX7_keep 9 = .ok (.ldc 150, 2) := by decide +kernel
theorem dX7_keep_11 : decode cX7_keep 11 = .ok (.ireturn, 1) := by decide +kernel
theorem dX7_keep_12 : decode cX7_keep 12 = .ok (.aload_n 0, 1) := by decide +kernel
theorem dX7_keep_13 : decode cX7_keep 13 = .ok (.getfield 52, 3) := by decide +kernel
theorem dX7_keep_16 : decode cX7_keep 16 = .ok (.iload_n 1, 1) := by decide +kernel
theorem dX7_keep_17 : decode cX7_keep 17 = .ok (.aaload, 1) := by decide +kernel
theorem dX7_keep_18 : decode cX7_keep 18 = .ok (.aload_n 0, 1) := by decide +kernel
theorem dX7_keep_19 : decode cX7_keep 19 = .ok (.getfield 34, 3) := by decide +kernel
theorem dX7_keep_22 : decode cX7_keep 22 = .ok (.invokevirtual 290, 3) := by decide +kernel
theorem dX7_keep_25 : decode cX7_keep 25 = .ok (.aload_n 0, 1) := by decide +kernel
theorem dX7_keep_26 : decode cX7_keep 26 = .ok (.getfield 56, 3) := by decide +kernel
theorem dX7_keep_29 : decode cX7_keep 29 = .ok (.iload_n 1, 1) := by decide +kernel
theorem dX7_keep_30 : decode cX7_keep 30 = .ok (.iconst 1, 1) := by decide +kernel
theorem dX7_keep_31 : decode cX7_keep 31 = .ok (.bastore, 1) := by decide +kernel
theorem dX7_keep_32 : decode cX7_keep 32 = .ok (.aload_n 0, 1) := by decide +kernel
theorem dX7_keep_33 : decode cX7_keep 33 = .ok (.getfield 46, 3) := by decide +kernel
theorem dX7_keep_36 : decode cX7_keep 36 = .ok (.invokevirtual 108, 3) := by decide +kernel
theorem dX7_keep_39 : decode cX7_keep 39 = .ok (.iconst 1, 1) := by decide +kernel
theorem dX7_keep_40 : decode cX7_keep 40 = .ok (.ireturn, 1) := by decide +kernel
theorem dX7_goBack_0 : decode cX7_goBack 0 = .ok (.iload_n 1, 1) := by decide +kernel
theorem dX7_goBack_1 : decode cX7_goBack 1 = .ok (.ifCond .lt 8, 3) := by decide +kernel
theorem dX7_goBack_4 : decode cX7_goBack 4 = .ok (.iload_n 1, 1) := by decide +kernel
theorem dX7_goBack_5 : decode cX7_goBack 5 = .ok (.iconst 2, 1) := by decide +kernel
theorem dX7_goBack_6 : decode cX7_goBack 6 = .ok (.if_icmp .lt 6, 3) := by decide +kernel
theorem dX7_goBack_9 : decode cX7_goBack 9 = .ok (.ldc 150, 2) := by decide +kernel
theorem dX7_goBack_11 : decode cX7_goBack 11 = .ok (.ireturn, 1) := by decide +kernel
theorem dX7_goBack_12 : decode cX7_goBack 12 = .ok (.aload_n 0, 1) := by decide +kernel
theorem dX7_goBack_13 : decode cX7_goBack 13 = .ok (.getfield 56, 3) := by decide +kernel
theorem dX7_goBack_16 : decode cX7_goBack 16 = .ok (.iload_n 1, 1) := by decide +kernel
theorem dX7_goBack_17 : decode cX7_goBack 17 = .ok (.baload, 1) := by decide +kernel
theorem dX7_goBack_18 : decode cX7_goBack 18 = .ok (.ifCond .ne 6, 3) := by decide +kernel
theorem dX7_goBack_21 : decode cX7_goBack 21 = .ok (.ldc 186, 2) := by decide +kernel
theorem dX7_goBack_23 : decode cX7_goBack 23 = .ok (.ireturn, 1) := by decide +kernel
theorem dX7_goBack_24 : decode cX7_goBack 24 = .ok (.aload_n 0, 1) := by decide +kernel
theorem dX7_goBack_25 : decode cX7_goBack 25 = .ok (.getfield 34, 3) := by decide +kernel
theorem dX7_goBack_28 : decode cX7_goBack 28 = .ok (.aload_n 0, 1) := by decide +kernel
theorem dX7_goBack_29 : decode cX7_goBack 29 = .ok (.getfield 52, 3) := by decide +kernel
theorem dX7_goBack_32 : decode cX7_goBack 32 = .ok (.iload_n 1, 1) := by decide +kernel
theorem dX7_goBack_33 : decode cX7_goBack 33 = .ok (.aaload, 1) := by decide +kernel
theorem dX7_goBack_34 : decode cX7_goBack 34 = .ok (.invokevirtual 290, 3) := by decide +kernel
theorem dX7_goBack_37 : decode cX7_goBack 37 = .ok (.aload_n 0, 1) := by decide +kernel
theorem dX7_goBack_38 : decode cX7_goBack 38 = .ok (.getfield 46, 3) := by decide +kernel
theorem dX7_goBack_41 : decode cX7_goBack 41 = .ok (.invokevirtual 108, 3) := by decide +kernel
theorem dX7_goBack_44 : decode cX7_goBack 44 = .ok (.iconst 1, 1) := by decide +kernel
theorem dX7_goBack_45 : decode cX7_goBack 45 = .ok (.ireturn, 1) := by decide +kernel
theorem dX7_isFigure_0 : decode cX7_isFigure 0 = .ok (.iload_n 0, 1) := by decide +kernel
theorem dX7_isFigure_1 : decode cX7_isFigure 1 = .ok (.ifCond .lt 13, 3) := by decide +kernel
theorem dX7_isFigure_4 : decode cX7_isFigure 4 = .ok (.iload_n 0, 1) := by decide +kernel
theorem dX7_isFigure_5 : decode cX7_isFigure 5 = .ok (.bipush 10, 2) := by decide +kernel
theorem dX7_isFigure_7 : decode cX7_isFigure 7 = .ok (.if_icmp .ge 7, 3) := by decide +kernel
theorem dX7_isFigure_10 : decode cX7_isFigure 10 = .ok (.iconst 1, 1) := by decide +kernel
theorem dX7_isFigure_11 : decode cX7_isFigure 11 = .ok (.goto 4, 3) := by decide +kernel
theorem dX7_isFigure_14 : decode cX7_isFigure 14 = .ok (.iconst 0, 1) := by decide +kernel
theorem dX7_isFigure_15 : decode cX7_isFigure 15 = .ok (.ireturn, 1) := by decide +kernel
theorem dX7_place_0 : decode cX7_place 0 = .ok (.iload_n 0, 1) := by decide +kernel
theorem dX7_place_1 : decode cX7_place 1 = .ok (.bipush 6, 2) := by decide +kernel
theorem dX7_place_3 : decode cX7_place 3 = .ok (.imul, 1) := by decide +kernel
theorem dX7_place_4 : decode cX7_place 4 = .ok (.iload_n 1, 1) := by decide +kernel
theorem dX7_place_5 : decode cX7_place 5 = .ok (.iadd, 1) := by decide +kernel
theorem dX7_place_6 : decode cX7_place 6 = .ok (.ireturn, 1) := by decide +kernel
theorem dX7_leastOf_0 : decode cX7_leastOf 0 = .ok (.iload_n 0, 1) := by decide +kernel
theorem dX7_leastOf_1 : decode cX7_leastOf 1 = .ok (.iload_n 0, 1) := by decide +kernel
theorem dX7_leastOf_2 : decode cX7_leastOf 2 = .ok (.ineg, 1) := by decide +kernel
theorem dX7_leastOf_3 : decode cX7_leastOf 3 = .ok (.iand, 1) := by decide +kernel
theorem dX7_leastOf_4 : decode cX7_leastOf 4 = .ok (.iconst 1, 1) := by decide +kernel
theorem dX7_leastOf_5 : decode cX7_leastOf 5 = .ok (.isub, 1) := by decide +kernel
theorem dX7_leastOf_6 : decode cX7_leastOf 6 = .ok (.invokestatic 293, 3) := by decide +kernel
theorem dX7_leastOf_9 : decode cX7_leastOf 9 = .ok (.ireturn, 1) := by decide +kernel
theorem dX7_cubeOf_0 : decode cX7_cubeOf 0 = .ok (.iload_n 0, 1) := by decide +kernel
theorem dX7_cubeOf_1 : decode cX7_cubeOf 1 = .ok (.bipush 60, 2) := by decide +kernel
theorem dX7_cubeOf_3 : decode cX7_cubeOf 3 = .ok (.idiv, 1) := by decide +kernel
theorem dX7_cubeOf_4 : decode cX7_cubeOf 4 = .ok (.ireturn, 1) := by decide +kernel
theorem dX7_sideOf_0 : decode cX7_sideOf 0 = .ok (.iload_n 0, 1) := by decide +kernel
theorem dX7_sideOf_1 : decode cX7_sideOf 1 = .ok (.bipush 10, 2) := by decide +kernel
theorem dX7_sideOf_3 : decode cX7_sideOf 3 = .ok (.idiv, 1) := by decide +kernel
theorem dX7_sideOf_4 : decode cX7_sideOf 4 = .ok (.bipush 6, 2) := by decide +kernel
theorem dX7_sideOf_6 : decode cX7_sideOf 6 = .ok (.irem, 1) := by decide +kernel
theorem dX7_sideOf_7 : decode cX7_sideOf 7 = .ok (.ireturn, 1) := by decide +kernel
theorem dX7_figureOf_0 : decode cX7_figureOf 0 = .ok (.iload_n 0, 1) := by decide +kernel
theorem dX7_figureOf_1 : decode cX7_figureOf 1 = .ok (.bipush 10, 2) := by decide +kernel
theorem dX7_figureOf_3 : decode cX7_figureOf 3 = .ok (.irem, 1) := by decide +kernel
theorem dX7_figureOf_4 : decode cX7_figureOf 4 = .ok (.ireturn, 1) := by decide +kernel
theorem dX7_fitsWhatIsTold_0 : decode cX7_fitsWhatIsTold 0 = .ok (.iload_n 1, 1) := by decide +kernel
theorem dX7_fitsWhatIsTold_1 : decode cX7_fitsWhatIsTold 1 = .ok (.invokestatic 253, 3) := by decide +kernel
theorem dX7_fitsWhatIsTold_4 : decode cX7_fitsWhatIsTold 4 = .ok (.istore_n 2, 1) := by decide +kernel
theorem dX7_fitsWhatIsTold_5 : decode cX7_fitsWhatIsTold 5 = .ok (.iload_n 1, 1) := by decide +kernel
theorem dX7_fitsWhatIsTold_6 : decode cX7_fitsWhatIsTold 6 = .ok (.invokestatic 256, 3) := by decide +kernel
theorem dX7_fitsWhatIsTold_9 : decode cX7_fitsWhatIsTold 9 = .ok (.istore_n 3, 1) := by decide +kernel
theorem dX7_fitsWhatIsTold_10 : decode cX7_fitsWhatIsTold 10 = .ok (.iload_n 1, 1) := by decide +kernel
theorem dX7_fitsWhatIsTold_11 : decode cX7_fitsWhatIsTold 11 = .ok (.invokestatic 259, 3) := by decide +kernel
theorem dX7_fitsWhatIsTold_14 : decode cX7_fitsWhatIsTold 14 = .ok (.istore 4, 2) := by decide +kernel
theorem dX7_fitsWhatIsTold_16 : decode cX7_fitsWhatIsTold 16 = .ok (.aload_n 0, 1) := by decide +kernel
theorem dX7_fitsWhatIsTold_17 : decode cX7_fitsWhatIsTold 17 = .ok (.getfield 27, 3) := by decide +kernel
theorem dX7_fitsWhatIsTold_20 : decode cX7_fitsWhatIsTold 20 = .ok (.iload_n 2, 1) := by decide +kernel
theorem dX7_fitsWhatIsTold_21 : decode cX7_fitsWhatIsTold 21 = .ok (.iload_n 3, 1) := by decide +kernel
theorem dX7_fitsWhatIsTold_22 : decode cX7_fitsWhatIsTold 22 = .ok (.invokevirtual 154, 3) := by decide +kernel
theorem dX7_fitsWhatIsTold_25 : decode cX7_fitsWhatIsTold 25 = .ok (.ifCond .eq 21, 3) := by decide +kernel
theorem dX7_fitsWhatIsTold_28 : decode cX7_fitsWhatIsTold 28 = .ok (.aload_n 0, 1) := by decide +kernel
theorem dX7_fitsWhatIsTold_29 : decode cX7_fitsWhatIsTold 29 = .ok (.getfield 34, 3) := by decide +kernel
theorem dX7_fitsWhatIsTold_32 : decode cX7_fitsWhatIsTold 32 = .ok (.getfield 158, 3) := by decide +kernel
theorem dX7_fitsWhatIsTold_35 : decode cX7_fitsWhatIsTold 35 = .ok (.iload_n 2, 1) := by decide +kernel
theorem dX7_fitsWhatIsTold_36 : decode cX7_fitsWhatIsTold 36 = .ok (.iload_n 3, 1) := by decide +kernel
theorem dX7_fitsWhatIsTold_37 : decode cX7_fitsWhatIsTold 37 = .ok (.invokestatic 161, 3) := by decide +kernel
theorem dX7_fitsWhatIsTold_40 : decode cX7_fitsWhatIsTold 40 = .ok (.iaload, 1) := by decide +kernel
theorem dX7_fitsWhatIsTold_41 : decode cX7_fitsWhatIsTold 41 = .ok (.iload 4, 2) := by decide +kernel
theorem dX7_fitsWhatIsTold_43 : decode cX7_fitsWhatIsTold 43 = .ok (.if_icmp .ne 5, 3) := by decide +kernel
theorem dX7_fitsWhatIsTold_46 : decode cX7_fitsWhatIsTold 46 = .ok (.iconst 0, 1) := by decide +kernel
theorem dX7_fitsWhatIsTold_47 : decode cX7_fitsWhatIsTold 47 = .ok (.ireturn, 1) := by decide +kernel
theorem dX7_fitsWhatIsTold_48 : decode cX7_fitsWhatIsTold 48 = .ok (.aload_n 0, 1) := by decide +kernel
theorem dX7_fitsWhatIsTold_49 : decode cX7_fitsWhatIsTold 49 = .ok (.getfield 19, 3) := by decide +kernel
theorem dX7_fitsWhatIsTold_52 : decode cX7_fitsWhatIsTold 52 = .ok (.iload_n 2, 1) := by decide +kernel
theorem dX7_fitsWhatIsTold_53 : decode cX7_fitsWhatIsTold 53 = .ok (.iload_n 3, 1) := by decide +kernel
theorem dX7_fitsWhatIsTold_54 : decode cX7_fitsWhatIsTold 54 = .ok (.iload 4, 2) := by decide +kernel
theorem dX7_fitsWhatIsTold_56 : decode cX7_fitsWhatIsTold 56 = .ok (.invokevirtual 232, 3) := by decide +kernel
theorem dX7_fitsWhatIsTold_59 : decode cX7_fitsWhatIsTold 59 = .ok (.iconst 0, 1) := by decide +kernel
theorem dX7_fitsWhatIsTold_60 : decode cX7_fitsWhatIsTold 60 = .ok (.istore 5, 2) := by decide +kernel
theorem dX7_fitsWhatIsTold_62 : decode cX7_fitsWhatIsTold 62 = .ok (.iload 5, 2) := by decide +kernel
theorem dX7_fitsWhatIsTold_64 : decode cX7_fitsWhatIsTold 64 = .ok (.aload_n 0, 1) := by decide +kernel
theorem dX7_fitsWhatIsTold_65 : decode cX7_fitsWhatIsTold 65 = .ok (.getfield 63, 3) := by decide +kernel
theorem dX7_fitsWhatIsTold_68 : decode cX7_fitsWhatIsTold 68 = .ok (.getfield 137, 3) := by decide +kernel
theorem dX7_fitsWhatIsTold_71 : decode cX7_fitsWhatIsTold 71 = .ok (.if_icmp .ge 41, 3) := by decide +kernel
theorem dX7_fitsWhatIsTold_74 : decode cX7_fitsWhatIsTold 74 = .ok (.aload_n 0, 1) := by decide +kernel
theorem dX7_fitsWhatIsTold_75 : decode cX7_fitsWhatIsTold 75 = .ok (.getfield 19, 3) := by decide +kernel
theorem dX7_fitsWhatIsTold_78 : decode cX7_fitsWhatIsTold 78 = .ok (.aload_n 0, 1) := by decide +kernel
theorem dX7_fitsWhatIsTold_79 : decode cX7_fitsWhatIsTold 79 = .ok (.getfield 63, 3) := by decide +kernel
theorem dX7_fitsWhatIsTold_82 : decode cX7_fitsWhatIsTold 82 = .ok (.getfield 298, 3) := by decide +kernel
theorem dX7_fitsWhatIsTold_85 : decode cX7_fitsWhatIsTold 85 = .ok (.iload 5, 2) := by decide +kernel
theorem dX7_fitsWhatIsTold_87 : decode cX7_fitsWhatIsTold 87 = .ok (.iaload, 1) := by decide +kernel
theorem dX7_fitsWhatIsTold_88 : decode cX7_fitsWhatIsTold 88 = .ok (.invokevirtual 200, 3) := by decide +kernel
theorem dX7_fitsWhatIsTold_91 : decode cX7_fitsWhatIsTold 91 = .ok (.aload_n 0, 1) := by decide +kernel
theorem dX7_fitsWhatIsTold_92 : decode cX7_fitsWhatIsTold 92 = .ok (.getfield 63, 3) := by decide +kernel
theorem dX7_fitsWhatIsTold_95 : decode cX7_fitsWhatIsTold 95 = .ok (.getfield 301, 3) := by decide +kernel
theorem dX7_fitsWhatIsTold_98 : decode cX7_fitsWhatIsTold 98 = .ok (.iload 5, 2) := by decide +kernel
theorem dX7_fitsWhatIsTold_100 : decode cX7_fitsWhatIsTold 100 = .ok (.baload, 1) := by decide +kernel
theorem dX7_fitsWhatIsTold_101 : decode cX7_fitsWhatIsTold 101 = .ok (.if_icmp .eq 5, 3) := by decide +kernel
theorem dX7_fitsWhatIsTold_104 : decode cX7_fitsWhatIsTold 104 = .ok (.iconst 0, 1) := by decide +kernel
theorem dX7_fitsWhatIsTold_105 : decode cX7_fitsWhatIsTold 105 = .ok (.ireturn, 1) := by decide +kernel
theorem dX7_fitsWhatIsTold_106 : decode cX7_fitsWhatIsTold 106 = .ok (.iinc 5 1, 3) := by decide +kernel
theorem dX7_fitsWhatIsTold_109 : decode cX7_fitsWhatIsTold 109 = .ok (.goto (-47), 3) := by decide +kernel
theorem dX7_fitsWhatIsTold_112 : decode cX7_fitsWhatIsTold 112 = .ok (.iconst 1, 1) := by decide +kernel
theorem dX7_fitsWhatIsTold_113 : decode cX7_fitsWhatIsTold 113 = .ok (.ireturn, 1) := by decide +kernel
theorem dX7_firstSideFor_0 : decode cX7_firstSideFor 0 = .ok (.iconst 0, 1) := by decide +kernel
theorem dX7_firstSideFor_1 : decode cX7_firstSideFor 1 = .ok (.istore_n 3, 1) := by decide +kernel
theorem dX7_firstSideFor_2 : decode cX7_firstSideFor 2 = .ok (.iload_n 3, 1) := by decide +kernel
theorem dX7_firstSideFor_3 : decode cX7_firstSideFor 3 = .ok (.aload_n 0, 1) := by decide +kernel
theorem dX7_firstSideFor_4 : decode cX7_firstSideFor 4 = .ok (.getfield 27, 3) := by decide +kernel
theorem dX7_firstSideFor_7 : decode cX7_firstSideFor 7 = .ok (.getfield 115, 3) := by decide +kernel
theorem dX7_firstSideFor_10 : decode cX7_firstSideFor 10 = .ok (.if_icmp .ge 85, 3) := by decide +kernel
theorem dX7_firstSideFor_13 : decode cX7_firstSideFor 13 = .ok (.iconst 0, 1) := by decide +kernel
theorem dX7_firstSideFor_14 : decode cX7_firstSideFor 14 = .ok (.istore 4, 2) := by decide +kernel
theorem dX7_firstSideFor_16 : decode cX7_firstSideFor 16 = .ok (.iload 4, 2) := by decide +kernel
theorem dX7_firstSideFor_18 : decode cX7_firstSideFor 18 = .ok (.aload_n 0, 1) := by decide +kernel
theorem dX7_firstSideFor_19 : decode cX7_firstSideFor 19 = .ok (.getfield 27, 3) := by decide +kernel
theorem dX7_firstSideFor_22 : decode cX7_firstSideFor 22 = .ok (.getfield 151, 3) := by decide +kernel
theorem dX7_firstSideFor_25 : decode cX7_firstSideFor 25 = .ok (.iload_n 3, 1) := by decide +kernel
theorem dX7_firstSideFor_26 : decode cX7_firstSideFor 26 = .ok (.iaload, 1) := by decide +kernel
theorem dX7_firstSideFor_27 : decode cX7_firstSideFor 27 = .ok (.if_icmp .ge 62, 3) := by decide +kernel
theorem dX7_firstSideFor_30 : decode cX7_firstSideFor 30 = .ok (.aload_n 0, 1) := by decide +kernel
theorem dX7_firstSideFor_31 : decode cX7_firstSideFor 31 = .ok (.getfield 34, 3) := by decide +kernel
theorem dX7_firstSideFor_34 : decode cX7_firstSideFor 34 = .ok (.iload_n 3, 1) := by decide +kernel
theorem dX7_firstSideFor_35 : decode cX7_firstSideFor 35 = .ok (.invokevirtual 183, 3) := by decide +kernel
theorem dX7_firstSideFor_38 : decode cX7_firstSideFor 38 = .ok (.ifCond .ne 51, 3) := by decide +kernel
theorem dX7_firstSideFor_41 : decode cX7_firstSideFor 41 = .ok (.aload_n 0, 1) := by decide +kernel
theorem dX7_firstSideFor_42 : decode cX7_firstSideFor 42 = .ok (.getfield 19, 3) := by decide +kernel
theorem dX7_firstSideFor_45 : decode cX7_firstSideFor 45 = .ok (.iload_n 3, 1) := by decide +kernel
theorem dX7_firstSideFor_46 : decode cX7_firstSideFor 46 = .ok (.iload 4, 2) := by decide +kernel
theorem dX7_firstSideFor_48 : decode cX7_firstSideFor 48 = .ok (.iload_n 2, 1) := by decide +kernel
theorem dX7_firstSideFor_49 : decode cX7_firstSideFor 49 = .ok (.invokevirtual 232, 3) := by decide +kernel
theorem dX7_firstSideFor_52 : decode cX7_firstSideFor 52 = .ok (.aload_n 0, 1) := by decide +kernel
theorem dX7_firstSideFor_53 : decode cX7_firstSideFor 53 = .ok (.getfield 19, 3) := by decide +kernel
theorem dX7_firstSideFor_56 : decode cX7_firstSideFor 56 = .ok (.iload_n 1, 1) := by decide +kernel
theorem dX7_firstSideFor_57 : decode cX7_firstSideFor 57 = .ok (.invokevirtual 200, 3) := by decide +kernel
theorem dX7_firstSideFor_60 : decode cX7_firstSideFor 60 = .ok (.istore 5, 2) := by decide +kernel
theorem dX7_firstSideFor_62 : decode cX7_firstSideFor 62 = .ok (.aload_n 0, 1) := by decide +kernel
theorem dX7_firstSideFor_63 : decode cX7_firstSideFor 63 = .ok (.getfield 19, 3) := by decide +kernel
theorem dX7_firstSideFor_66 : decode cX7_firstSideFor 66 = .ok (.iload_n 3, 1) := by decide +kernel
theorem dX7_firstSideFor_67 : decode cX7_firstSideFor 67 = .ok (.invokevirtual 262, 3) := by decide +kernel
theorem dX7_firstSideFor_70 : decode cX7_firstSideFor 70 = .ok (.iload 5, 2) := by decide +kernel
theorem dX7_firstSideFor_72 : decode cX7_firstSideFor 72 = .ok (.ifCond .eq 11, 3) := by decide +kernel
theorem dX7_firstSideFor_75 : decode cX7_firstSideFor 75 = .ok (.bipush 10, 2) := by decide +kernel
theorem dX7_firstSideFor_77 : decode cX7_firstSideFor 77 = .ok (.iload_n 3, 1) := by decide +kernel
theorem dX7_firstSideFor_78 : decode cX7_firstSideFor 78 = .ok (.imul, 1) := by decide +kernel
theorem dX7_firstSideFor_79 : decode cX7_firstSideFor 79 = .ok (.iload 4, 2) := by decide +kernel
theorem dX7_firstSideFor_81 : decode cX7_firstSideFor 81 = .ok (.iadd, 1) := by decide +kernel
theorem dX7_firstSideFor_82 : decode cX7_firstSideFor 82 = .ok (.ireturn, 1) := by decide +kernel
theorem dX7_firstSideFor_83 : decode cX7_firstSideFor 83 = .ok (.iinc 4 1, 3) := by decide +kernel
theorem dX7_firstSideFor_86 : decode cX7_firstSideFor 86 = .ok (.goto (-70), 3) := by decide +kernel
theorem dX7_firstSideFor_89 : decode cX7_firstSideFor 89 = .ok (.iinc 3 1, 3) := by decide +kernel
theorem dX7_firstSideFor_92 : decode cX7_firstSideFor 92 = .ok (.goto (-90), 3) := by decide +kernel
theorem dX7_firstSideFor_95 : decode cX7_firstSideFor 95 = .ok (.iconst (-1), 1) := by decide +kernel
theorem dX7_firstSideFor_96 : decode cX7_firstSideFor 96 = .ok (.ireturn, 1) := by decide +kernel
theorem dX7_waysToSum_0 : decode cX7_waysToSum 0 = .ok (.aload_n 0, 1) := by decide +kernel
theorem dX7_waysToSum_1 : decode cX7_waysToSum 1 = .ok (.iload_n 2, 1) := by decide +kernel
theorem dX7_waysToSum_2 : decode cX7_waysToSum 2 = .ok (.invokevirtual 146, 3) := by decide +kernel
theorem dX7_waysToSum_5 : decode cX7_waysToSum 5 = .ok (.ifCond .ne 13, 3) := by decide +kernel
theorem dX7_waysToSum_8 : decode cX7_waysToSum 8 = .ok (.iload_n 3, 1) := by decide +kernel
theorem dX7_waysToSum_9 : decode cX7_waysToSum 9 = .ok (.ifCond .ne 7, 3) := by decide +kernel
theorem dX7_waysToSum_12 : decode cX7_waysToSum 12 = .ok (.iconst 1, 1) := by decide +kernel
theorem dX7_waysToSum_13 : decode cX7_waysToSum 13 = .ok (.goto 4, 3) := by decide +kernel
theorem dX7_waysToSum_16 : decode cX7_waysToSum 16 = .ok (.iconst 0, 1) := by decide +kernel
theorem dX7_waysToSum_17 : decode cX7_waysToSum 17 = .ok (.ireturn, 1) := by decide +kernel
theorem dX7_waysToSum_18 : decode cX7_waysToSum 18 = .ok (.aload_n 1, 1) := by decide +kernel
theorem dX7_waysToSum_19 : decode cX7_waysToSum 19 = .ok (.iload_n 2, 1) := by decide +kernel
theorem dX7_waysToSum_20 : decode cX7_waysToSum 20 = .ok (.invokevirtual 183, 3) := by decide +kernel
theorem dX7_waysToSum_23 : decode cX7_waysToSum 23 = .ok (.ifCond .eq 13, 3) := by decide +kernel
theorem dX7_waysToSum_26 : decode cX7_waysToSum 26 = .ok (.aload_n 0, 1) := by decide +kernel
theorem dX7_waysToSum_27 : decode cX7_waysToSum 27 = .ok (.aload_n 1, 1) := by decide +kernel
theorem dX7_waysToSum_28 : decode cX7_waysToSum 28 = .ok (.iload_n 2, 1) := by decide +kernel
theorem dX7_waysToSum_29 : decode cX7_waysToSum 29 = .ok (.iconst 1, 1) := by decide +kernel
theorem dX7_waysToSum_30 : decode cX7_waysToSum 30 = .ok (.iadd, 1) := by decide +kernel
theorem dX7_waysToSum_31 : decode cX7_waysToSum 31 = .ok (.iload_n 3, 1) := by decide +kernel
theorem dX7_waysToSum_32 : decode cX7_waysToSum 32 = .ok (.invokestatic 239, 3) := by decide +kernel
theorem dX7_waysToSum_35 : decode cX7_waysToSum 35 = .ok (.ireturn, 1) := by decide +kernel
theorem dX7_waysToSum_36 : decode cX7_waysToSum 36 = .ok (.iconst 0, 1) := by decide +kernel
theorem dX7_waysToSum_37 : decode cX7_waysToSum 37 = .ok (.istore 4, 2) := by decide +kernel
theorem dX7_waysToSum_39 : decode cX7_waysToSum 39 = .ok (.iconst 0, 1) := by decide +kernel
theorem dX7_waysToSum_40 : decode cX7_waysToSum 40 = .ok (.istore 5, 2) := by decide +kernel
theorem dX7_waysToSum_42 : decode cX7_waysToSum 42 = .ok (.iload 5, 2) := by decide +kernel
theorem dX7_waysToSum_44 : decode cX7_waysToSum 44 = .ok (.aload_n 0, 1) := by decide +kernel
theorem dX7_waysToSum_45 : decode cX7_waysToSum 45 = .ok (.getfield 151, 3) := by decide +kernel
theorem dX7_waysToSum_48 : decode cX7_waysToSum 48 = .ok (.iload_n 2, 1) := by decide +kernel
theorem dX7_waysToSum_49 : decode cX7_waysToSum 49 = .ok (.iaload, 1) := by decide +kernel
theorem dX7_waysToSum_50 : decode cX7_waysToSum 50 = .ok (.if_icmp .ge 35, 3) := by decide +kernel
theorem dX7_waysToSum_53 : decode cX7_waysToSum 53 = .ok (.iload 4, 2) := by decide +kernel
theorem dX7_waysToSum_55 : decode cX7_waysToSum 55 = .ok (.aload_n 0, 1) := by decide +kernel
theorem dX7_waysToSum_56 : decode cX7_waysToSum 56 = .ok (.aload_n 1, 1) := by decide +kernel
theorem dX7_waysToSum_57 : decode cX7_waysToSum 57 = .ok (.iload_n 2, 1) := by decide +kernel
theorem dX7_waysToSum_58 : decode cX7_waysToSum 58 = .ok (.iconst 1, 1) := by decide +kernel
theorem dX7_waysToSum_59 : decode cX7_waysToSum 59 = .ok (.iadd, 1) := by decide +kernel
theorem dX7_waysToSum_60 : decode cX7_waysToSum 60 = .ok (.iload_n 3, 1) := by decide +kernel
theorem dX7_waysToSum_61 : decode cX7_waysToSum 61 = .ok (.aload_n 1, 1) := by decide +kernel
theorem dX7_waysToSum_62 : decode cX7_waysToSum 62 = .ok (.getfield 158, 3) := by decide +kernel
theorem dX7_waysToSum_65 : decode cX7_waysToSum 65 = .ok (.iload_n 2, 1) := by decide +kernel
theorem dX7_waysToSum_66 : decode cX7_waysToSum 66 = .ok (.iload 5, 2) := by decide +kernel
theorem dX7_waysToSum_68 : decode cX7_waysToSum 68 = .ok (.invokestatic 161, 3) := by decide +kernel
theorem dX7_waysToSum_71 : decode cX7_waysToSum 71 = .ok (.iaload, 1) := by decide +kernel
theorem dX7_waysToSum_72 : decode cX7_waysToSum 72 = .ok (.isub, 1) := by decide +kernel
theorem dX7_waysToSum_73 : decode cX7_waysToSum 73 = .ok (.invokestatic 239, 3) := by decide +kernel
theorem dX7_waysToSum_76 : decode cX7_waysToSum 76 = .ok (.iadd, 1) := by decide +kernel
theorem dX7_waysToSum_77 : decode cX7_waysToSum 77 = .ok (.istore 4, 2) := by decide +kernel
theorem dX7_waysToSum_79 : decode cX7_waysToSum 79 = .ok (.iinc 5 1, 3) := by decide +kernel
theorem dX7_waysToSum_82 : decode cX7_waysToSum 82 = .ok (.goto (-40), 3) := by decide +kernel
theorem dX7_waysToSum_85 : decode cX7_waysToSum 85 = .ok (.iload 4, 2) := by decide +kernel
theorem dX7_waysToSum_87 : decode cX7_waysToSum 87 = .ok (.ireturn, 1) := by decide +kernel
theorem dX8_init_0 : decode cX8_init 0 = .ok (.aload_n 0, 1) := by decide +kernel
theorem dX8_init_1 : decode cX8_init 1 = .ok (.invokespecial 1, 3) := by decide +kernel
theorem dX8_init_4 : decode cX8_init 4 = .ok (.aload_n 0, 1) := by decide +kernel
theorem dX8_init_5 : decode cX8_init 5 = .ok (.iconst 4, 1) := by decide +kernel
theorem dX8_init_6 : decode cX8_init 6 = .ok (.newarray .int, 2) := by decide +kernel
theorem dX8_init_8 : decode cX8_init 8 = .ok (.putfield 7, 3) := by decide +kernel
theorem dX8_init_11 : decode cX8_init 11 = .ok (.aload_n 0, 1) := by decide +kernel
theorem dX8_init_12 : decode cX8_init 12 = .ok (.bipush 10, 2) := by decide +kernel
theorem dX8_init_14 : decode cX8_init 14 = .ok (.newarray .int, 2) := by decide +kernel
theorem dX8_init_16 : decode cX8_init 16 = .ok (.putfield 13, 3) := by decide +kernel
theorem dX8_init_19 : decode cX8_init 19 = .ok (.aload_n 0, 1) := by decide +kernel
theorem dX8_init_20 : decode cX8_init 20 = .ok (.bipush 10, 2) := by decide +kernel
theorem dX8_init_22 : decode cX8_init 22 = .ok (.newarray .int, 2) := by decide +kernel
theorem dX8_init_24 : decode cX8_init 24 = .ok (.putfield 16, 3) := by decide +kernel
theorem dX8_init_27 : decode cX8_init 27 = .ok (.aload_n 0, 1) := by decide +kernel
theorem dX8_init_28 : decode cX8_init 28 = .ok (.bipush 26, 2) := by decide +kernel
theorem dX8_init_30 : decode cX8_init 30 = .ok (.newarray .int, 2) := by decide +kernel
theorem dX8_init_32 : decode cX8_init 32 = .ok (.putfield 19, 3) := by decide +kernel
theorem dX8_init_35 : decode cX8_init 35 = .ok (.aload_n 0, 1) := by decide +kernel
theorem dX8_init_36 : decode cX8_init 36 = .ok (.sipush 220, 3) := by decide +kernel
theorem dX8_init_39 : decode cX8_init 39 = .ok (.newarray .int, 2) := by decide +kernel
theorem dX8_init_41 : decode cX8_init 41 = .ok (.putfield 22, 3) := by decide +kernel
theorem dX8_init_44 : decode cX8_init 44 = .ok (.aload_n 0, 1) := by decide +kernel
theorem dX8_init_45 : decode cX8_init 45 = .ok (.iconst (-1), 1) := by decide +kernel
theorem dX8_init_46 : decode cX8_init 46 = .ok (.putfield 25, 3) := by decide +kernel
theorem dX8_init_49 : decode cX8_init 49 = .ok (.aload_n 0, 1) := by decide +kernel
theorem dX8_init_50 : decode cX8_init 50 = .ok (.iconst 3, 1) := by decide +kernel
theorem dX8_init_51 : decode cX8_init 51 = .ok (.newarray .int, 2) := by decide +kernel
theorem dX8_init_53 : decode cX8_init 53 = .ok (.putfield 29, 3) := by decide +kernel
theorem dX8_init_56 : decode cX8_init 56 = .ok (.aload_n 0, 1) := by decide +kernel
theorem dX8_init_57 : decode cX8_init 57 = .ok (.iconst 4, 1) := by decide +kernel
theorem dX8_init_58 : decode cX8_init 58 = .ok (.newarray .int, 2) := by decide +kernel
theorem dX8_init_60 : decode cX8_init 60 = .ok (.putfield 32, 3) := by decide +kernel
theorem dX8_init_63 : decode cX8_init 63 = .ok (.aload_n 0, 1) := by decide +kernel
theorem dX8_init_64 : decode cX8_init 64 = .ok (.bipush 24, 2) := by decide +kernel
theorem dX8_init_66 : decode cX8_init 66 = .ok (.newarray .int, 2) := by decide +kernel
theorem dX8_init_68 : decode cX8_init 68 = .ok (.putfield 35, 3) := by decide +kernel
theorem dX8_init_71 : decode cX8_init 71 = .ok (.aload_n 0, 1) := by decide +kernel
theorem dX8_init_72 : decode cX8_init 72 = .ok (.bipush 10, 2) := by decide +kernel
theorem dX8_init_74 : decode cX8_init 74 = .ok (.newarray .int, 2) := by decide +kernel
theorem dX8_init_76 : decode cX8_init 76 = .ok (.putfield 38, 3) := by decide +kernel
theorem dX8_init_79 : decode cX8_init 79 = .ok (.aload_n 0, 1) := by decide +kernel
theorem dX8_init_80 : decode cX8_init 80 = .ok (.bipush 10, 2) := by decide +kernel
theorem dX8_init_82 : decode cX8_init 82 = .ok (.newarray .int, 2) := by decide +kernel
theorem dX8_init_84 : decode cX8_init 84 = .ok (.putfield 41, 3) := by decide +kernel
theorem dX8_init_87 : decode cX8_init 87 = .ok (.aload_n 0, 1) := by decide +kernel
theorem dX8_init_88 : decode cX8_init 88 = .ok (.bipush 100, 2) := by decide +kernel
theorem dX8_init_90 : decode cX8_init 90 = .ok (.newarray .int, 2) := by decide +kernel
theorem dX8_init_92 : decode cX8_init 92 = .ok (.putfield 44, 3) := by decide +kernel
theorem dX8_init_95 : decode cX8_init 95 = .ok (.aload_n 0, 1) := by decide +kernel
theorem dX8_init_96 : decode cX8_init 96 = .ok (.bipush 100, 2) := by decide +kernel
theorem dX8_init_98 : decode cX8_init 98 = .ok (.newarray .int, 2) := by decide +kernel
theorem dX8_init_100 : decode cX8_init 100 = .ok (.putfield 47, 3) := by decide +kernel
theorem dX8_init_103 : decode cX8_init 103 = .ok (.aload_n 0, 1) := by decide +kernel
theorem dX8_init_104 : decode cX8_init 104 = .ok (.iconst 4, 1) := by decide +kernel
theorem dX8_init_105 : decode cX8_init 105 = .ok (.newarray .int, 2) := by decide +kernel
theorem dX8_init_107 : decode cX8_init 107 = .ok (.putfield 50, 3) := by decide +kernel
theorem dX8_init_110 : decode cX8_init 110 = .ok (.aload_n 0, 1) := by decide +kernel
theorem dX8_init_111 : decode cX8_init 111 = .ok (.sipush 520, 3) := by decide +kernel
theorem dX8_init_114 : decode cX8_init 114 = .ok (.newarray .int, 2) := by decide +kernel
theorem dX8_init_116 : decode cX8_init 116 = .ok (.putfield 53, 3) := by decide +kernel
theorem dX8_init_119 : decode cX8_init 119 = .ok (.aload_n 0, 1) := by decide +kernel
theorem dX8_init_120 : decode cX8_init 120 = .ok (.sipush 252, 3) := by decide +kernel
theorem dX8_init_123 : decode cX8_init 123 = .ok (.newarray .int, 2) := by decide +kernel
theorem dX8_init_125 : decode cX8_init 125 = .ok (.putfield 56, 3) := by decide +kernel
theorem dX8_init_128 : decode cX8_init 128 = .ok (.aload_n 0, 1) := by decide +kernel
theorem dX8_init_129 : decode cX8_init 129 = .ok (.bipush 110, 2) := by decide +kernel
theorem dX8_init_131 : decode cX8_init 131 = .ok (.newarray .int, 2) := by decide +kernel
theorem dX8_init_133 : decode cX8_init 133 = .ok (.putfield 59, 3) := by decide +kernel
theorem dX8_init_136 : decode cX8_init 136 = .ok (.aload_n 0, 1) := by decide +kernel
theorem dX8_init_137 : decode cX8_init 137 = .ok (.bipush 37, 2) := by decide +kernel
theorem dX8_init_139 : decode cX8_init 139 = .ok (.newarray .int, 2) := by decide +kernel
theorem dX8_init_141 : decode cX8_init 141 = .ok (.putfield 62, 3) := by decide +kernel
theorem dX8_init_144 : decode cX8_init 144 = .ok (.aload_n 0, 1) := by decide +kernel
theorem dX8_init_145 : decode cX8_init 145 = .ok (.bipush 37, 2) := by decide +kernel
theorem dX8_init_147 : decode cX8_init 147 = .ok (.newarray .int, 2) := by decide +kernel
theorem dX8_init_149 : decode cX8_init 149 = .ok (.putfield 65, 3) := by decide +kernel
theorem dX8_init_152 : decode cX8_init 152 = .ok (.aload_n 0, 1) := by decide +kernel
theorem dX8_init_153 : decode cX8_init 153 = .ok (.bipush 6, 2) := by decide +kernel
theorem dX8_init_155 : decode cX8_init 155 = .ok (.newarray .int, 2) := by decide +kernel
theorem dX8_init_157 : decode cX8_init 157 = .ok (.putfield 68, 3) := by decide +kernel
theorem dX8_init_160 : decode cX8_init 160 = .ok (.aload_n 0, 1) := by decide +kernel
theorem dX8_init_161 : decode cX8_init 161 = .ok (.bipush 6, 2) := by decide +kernel
theorem dX8_init_163 : decode cX8_init 163 = .ok (.newarray .boolean, 2) := by decide +kernel
theorem dX8_init_165 : decode cX8_init 165 = .ok (.putfield 71, 3) := by decide +kernel
theorem dX8_init_168 : decode cX8_init 168 = .ok (.aload_n 0, 1) := by decide +kernel
theorem dX8_init_169 : decode cX8_init 169 = .ok (.sipush 240, 3) := by decide +kernel
theorem dX8_init_172 : decode cX8_init 172 = .ok (.newarray .boolean, 2) := by decide +kernel
theorem dX8_init_174 : decode cX8_init 174 = .ok (.putfield 75, 3) := by decide +kernel
theorem dX8_init_177 : decode cX8_init 177 = .ok (.aload_n 0, 1) := by decide +kernel
theorem dX8_init_178 : decode cX8_init 178 = .ok (.bipush 100, 2) := by decide +kernel
theorem dX8_init_180 : decode cX8_init 180 = .ok (.newarray .int, 2) := by decide +kernel
theorem dX8_init_182 : decode cX8_init 182 = .ok (.putfield 78, 3) := by decide +kernel
theorem dX8_init_185 : decode cX8_init 185 = .ok (.aload_n 0, 1) := by decide +kernel
theorem dX8_init_186 : decode cX8_init 186 = .ok (.bipush 15, 2) := by decide +kernel
theorem dX8_init_188 : decode cX8_init 188 = .ok (.newarray .int, 2) := by decide +kernel
theorem dX8_init_190 : decode cX8_init 190 = .ok (.putfield 81, 3) := by decide +kernel
theorem dX8_init_193 : decode cX8_init 193 = .ok (.aload_n 0, 1) := by decide +kernel
theorem dX8_init_194 : decode cX8_init 194 = .ok (.bipush 54, 2) := by decide +kernel
theorem dX8_init_196 : decode cX8_init 196 = .ok (.newarray .int, 2) := by decide +kernel
theorem dX8_init_198 : decode cX8_init 198 = .ok (.putfield 84, 3) := by decide +kernel
theorem dX8_init_201 : decode cX8_init 201 = .ok (.aload_n 0, 1) := by decide +kernel
theorem dX8_init_202 : decode cX8_init 202 = .ok (.iconst 2, 1) := by decide +kernel
theorem dX8_init_203 : decode cX8_init 203 = .ok (.newarray .boolean, 2) := by decide +kernel
theorem dX8_init_205 : decode cX8_init 205 = .ok (.putfield 87, 3) := by decide +kernel
theorem dX8_init_208 : decode cX8_init 208 = .ok (.iconst 0, 1) := by decide +kernel
theorem dX8_init_209 : decode cX8_init 209 = .ok (.istore_n 1, 1) := by decide +kernel
theorem dX8_init_210 : decode cX8_init 210 = .ok (.iload_n 1, 1) := by decide +kernel
theorem dX8_init_211 : decode cX8_init 211 = .ok (.bipush 10, 2) := by decide +kernel
theorem dX8_init_213 : decode cX8_init 213 = .ok (.if_icmp .ge 23, 3) := by decide +kernel
theorem dX8_init_216 : decode cX8_init 216 = .ok (.aload_n 0, 1) := by decide +kernel
theorem dX8_init_217 : decode cX8_init 217 = .ok (.getfield 13, 3) := by decide +kernel
theorem dX8_init_220 : decode cX8_init 220 = .ok (.iload_n 1, 1) := by decide +kernel
theorem dX8_init_221 : decode cX8_init 221 = .ok (.iload_n 1, 1) := by decide +kernel
theorem dX8_init_222 : decode cX8_init 222 = .ok (.iastore, 1) := by decide +kernel
theorem dX8_init_223 : decode cX8_init 223 = .ok (.aload_n 0, 1) := by decide +kernel
theorem dX8_init_224 : decode cX8_init 224 = .ok (.getfield 16, 3) := by decide +kernel
theorem dX8_init_227 : decode cX8_init 227 = .ok (.iload_n 1, 1) := by decide +kernel
theorem dX8_init_228 : decode cX8_init 228 = .ok (.iconst 1, 1) := by decide +kernel
theorem dX8_init_229 : decode cX8_init 229 = .ok (.iastore, 1) := by decide +kernel
theorem dX8_init_230 : decode cX8_init 230 = .ok (.iinc 1 1, 3) := by decide +kernel
theorem dX8_init_233 : decode cX8_init 233 = .ok (.goto (-23), 3) := by decide +kernel
theorem dX8_init_236 : decode cX8_init 236 = .ok (.return_, 1) := by decide +kernel
theorem dX8_in_0 : decode cX8_in 0 = .ok (.lload_n 0, 1) := by decide +kernel
theorem dX8_in_1 : decode cX8_in 1 = .ok (.lload_n 2, 1) := by decide +kernel
theorem dX8_in_2 : decode cX8_in 2 = .ok (.lcmp, 1) := by decide +kernel
theorem dX8_in_3 : decode cX8_in 3 = .ok (.ifCond .lt 14, 3) := by decide +kernel
theorem dX8_in_6 : decode cX8_in 6 = .ok (.lload_n 0, 1) := by decide +kernel
theorem dX8_in_7 : decode cX8_in 7 = .ok (.lload 4, 2) := by decide +kernel
theorem dX8_in_9 : decode cX8_in 9 = .ok (.lcmp, 1) := by decide +kernel
theorem dX8_in_10 : decode cX8_in 10 = .ok (.ifCond .gt 7, 3) := by decide +kernel
theorem dX8_in_13 : decode cX8_in 13 = .ok (.iconst 1, 1) := by decide +kernel
theorem dX8_in_14 : decode cX8_in 14 = .ok (.goto 4, 3) := by decide +kernel
theorem dX8_in_17 : decode cX8_in 17 = .ok (.iconst 0, 1) := by decide +kernel
theorem dX8_in_18 : decode cX8_in 18 = .ok (.ireturn, 1) := by decide +kernel
theorem dX8_has_0 : decode cX8_has 0 = .ok (.iload_n 0, 1) := by decide +kernel
theorem dX8_has_1 : decode cX8_has 1 = .ok (.iload_n 1, 1) := by decide +kernel
theorem dX8_has_2 : decode cX8_has 2 = .ok (.ishr, 1) := by decide +kernel
theorem dX8_has_3 : decode cX8_has 3 = .ok (.iconst 1, 1) := by decide +kernel
theorem dX8_has_4 : decode cX8_has 4 = .ok (.iand, 1) := by decide +kernel
theorem dX8_has_5 : decode cX8_has 5 = .ok (.iconst 1, 1) := by decide +kernel
theorem dX8_has_6 : decode cX8_has 6 = .ok (.if_icmp .ne 7, 3) := by decide +kernel
theorem dX8_has_9 : decode cX8_has 9 = .ok (.iconst 1, 1) := by decide +kernel
theorem dX8_has_10 : decode cX8_has 10 = .ok (.goto 4, 3) := by decide +kernel
theorem dX8_has_13 : decode cX8_has 13 = .ok (.iconst 0, 1) := by decide +kernel
theorem dX8_has_14 : decode cX8_has 14 = .ok (.ireturn, 1) := by decide +kernel
theorem dX8_bits_0 : decode cX8_bits 0 = .ok (.iconst 0, 1) := by decide +kernel
theorem dX8_bits_1 : decode cX8_bits 1 = .ok (.istore_n 1, 1) := by decide +kernel
theorem dX8_bits_2 : decode cX8_bits 2 = .ok (.iconst 0, 1) := by decide +kernel
theorem dX8_bits_3 : decode cX8_bits 3 = .ok (.istore_n 2, 1) := by decide +kernel
theorem dX8_bits_4 : decode cX8_bits 4 = .ok (.iload_n 2, 1) := by decide +kernel
theorem dX8_bits_5 : decode cX8_bits 5 = .ok (.bipush 10, 2) := by decide +kernel
theorem dX8_bits_7 : decode cX8_bits 7 = .ok (.if_icmp .ge 17, 3) := by decide +kernel
theorem dX8_bits_10 : decode cX8_bits 10 = .ok (.iload_n 1, 1) := by decide +kernel
theorem dX8_bits_11 : decode cX8_bits 11 = .ok (.iload_n 0, 1) := by decide +kernel
theorem dX8_bits_12 : decode cX8_bits 12 = .ok (.iload_n 2, 1) := by decide +kernel
theorem dX8_bits_13 : decode cX8_bits 13 = .ok (.ishr, 1) := by decide +kernel
theorem dX8_bits_14 : decode cX8_bits 14 = .ok (.iconst 1, 1) := by decide +kernel
theorem dX8_bits_15 : decode cX8_bits 15 = .ok (.iand, 1) := by decide +kernel
theorem dX8_bits_16 : decode cX8_bits 16 = .ok (.iadd, 1) := by decide +kernel
theorem dX8_bits_17 : decode cX8_bits 17 = .ok (.istore_n 1, 1) := by decide +kernel
theorem dX8_bits_18 : decode cX8_bits 18 = .ok (.iinc 2 1, 3) := by decide +kernel
theorem dX8_bits_21 : decode cX8_bits 21 = .ok (.goto (-17), 3) := by decide +kernel
theorem dX8_bits_24 : decode cX8_bits 24 = .ok (.iload_n 1, 1) := by decide +kernel
theorem dX8_bits_25 : decode cX8_bits 25 = .ok (.ireturn, 1) := by decide +kernel
theorem dX8_isCube_0 : decode cX8_isCube 0 = .ok (.iload_n 1, 1) := by decide +kernel
theorem dX8_isCube_1 : decode cX8_isCube 1 = .ok (.i2l, 1) := by decide +kernel
theorem dX8_isCube_2 : decode cX8_isCube 2 = .ok (.lconst 0, 1) := by decide +kernel
theorem dX8_isCube_3 : decode cX8_isCube 3 = .ok (.aload_n 0, 1) := by decide +kernel
theorem dX8_isCube_4 : decode cX8_isCube 4 = .ok (.getfield 90, 3) := by decide +kernel
theorem dX8_isCube_7 : decode cX8_isCube 7 = .ok (.iconst 1, 1) := by decide +kernel
theorem dX8_isCube_8 : decode cX8_isCube 8 = .ok (.isub, 1) := by decide +kernel
theorem dX8_isCube_9 : decode cX8_isCube 9 = .ok (.i2l, 1) := by decide +kernel
theorem dX8_isCube_10 : decode cX8_isCube 10 = .ok (.invokestatic 93, 3) := by decide +kernel
theorem dX8_isCube_13 : decode cX8_isCube 13 = .ok (.ireturn, 1) := by decide +kernel
theorem dX8_isSide_0 : decode cX8_isSide 0 = .ok (.iload_n 2, 1) := by decide +kernel
theorem dX8_isSide_1 : decode cX8_isSide 1 = .ok (.i2l, 1) := by decide +kernel
theorem dX8_isSide_2 : decode cX8_isSide 2 = .ok (.lconst 0, 1) := by decide +kernel
theorem dX8_isSide_3 : decode cX8_isSide 3 = .ok (.aload_n 0, 1) := by decide +kernel
theorem dX8_isSide_4 : decode cX8_isSide 4 = .ok (.getfield 7, 3) := by decide +kernel
theorem dX8_isSide_7 : decode cX8_isSide 7 = .ok (.iload_n 1, 1) := by decide +kernel
theorem dX8_isSide_8 : decode cX8_isSide 8 = .ok (.iaload, 1) := by decide +kernel
theorem dX8_isSide_9 : decode cX8_isSide 9 = .ok (.iconst 1, 1) := by decide +kernel
theorem dX8_isSide_10 : decode cX8_isSide 10 = .ok (.isub, 1) := by decide +kernel
theorem dX8_isSide_11 : decode cX8_isSide 11 = .ok (.i2l, 1) := by decide +kernel
theorem dX8_isSide_12 : decode cX8_isSide 12 = .ok (.invokestatic 93, 3) := by decide +kernel
theorem dX8_isSide_15 : decode cX8_isSide 15 = .ok (.ireturn, 1) := by decide +kernel
theorem dX8_isThere_0 : decode cX8_isThere 0 = .ok (.iload_n 1, 1) := by decide +kernel
theorem dX8_isThere_1 : decode cX8_isThere 1 = .ok (.aload_n 0, 1) := by decide +kernel
theorem dX8_isThere_2 : decode cX8_isThere 2 = .ok (.getfield 90, 3) := by decide +kernel
theorem dX8_isThere_5 : decode cX8_isThere 5 = .ok (.if_icmp .ge 21, 3) := by decide +kernel
theorem dX8_isThere_8 : decode cX8_isThere 8 = .ok (.aload_n 0, 1) := by decide +kernel
theorem dX8_isThere_9 : decode cX8_isThere 9 = .ok (.getfield 19, 3) := by decide +kernel
theorem dX8_isThere_12 : decode cX8_isThere 12 = .ok (.bipush 24, 2) := by decide +kernel
theorem dX8_isThere_14 : decode cX8_isThere 14 = .ok (.iaload, 1) := by decide +kernel
theorem dX8_isThere_15 : decode cX8_isThere 15 = .ok (.iload_n 1, 1) := by decide +kernel
theorem dX8_isThere_16 : decode cX8_isThere 16 = .ok (.invokestatic 97, 3) := by decide +kernel
theorem dX8_isThere_19 : decode cX8_isThere 19 = .ok (.ifCond .ne 7, 3) := by decide +kernel
theorem dX8_isThere_22 : decode cX8_isThere 22 = .ok (.iconst 1, 1) := by decide +kernel
theorem dX8_isThere_23 : decode cX8_isThere 23 = .ok (.goto 4, 3) := by decide +kernel
theorem dX8_isThere_26 : decode cX8_isThere 26 = .ok (.iconst 0, 1) := by decide +kernel
theorem dX8_isThere_27 : decode cX8_isThere 27 = .ok (.ireturn, 1) := by decide +kernel
theorem dX8_isFigure_0 : decode cX8_isFigure 0 = .ok (.iload_n 0, 1) := by decide +kernel
theorem dX8_isFigure_1 : decode cX8_isFigure 1 = .ok (.i2l, 1) := by decide +kernel
theorem dX8_isFigure_2 : decode cX8_isFigure 2 = .ok (.lconst 0, 1) := by decide +kernel
theorem dX8_isFigure_3 : decode cX8_isFigure 3 = .ok (.ldc2_w 101, 3) := by decide +kernel
theorem dX8_isFigure_6 : decode cX8_isFigure 6 = .ok (.invokestatic 93, 3) := by decide +kernel
theorem dX8_isFigure_9 : decode cX8_isFigure 9 = .ok (.ireturn, 1) := by decide +kernel
theorem dX8_isDay_0 : decode cX8_isDay 0 = .ok (.aload_n 0, 1) := by decide +kernel
theorem dX8_isDay_1 : decode cX8_isDay 1 = .ok (.getfield 103, 3) := by decide +kernel
theorem dX8_isDay_4 : decode cX8_isDay 4 = .ok (.ifCond .eq 25, 3) := by decide +kernel
theorem dX8_isDay_7 : decode cX8_isDay 7 = .ok (.iload_n 1, 1) := by decide +kernel
theorem dX8_isDay_8 : decode cX8_isDay 8 = .ok (.i2l, 1) := by decide +kernel
theorem dX8_isDay_9 : decode cX8_isDay 9 = .ok (.aload_n 0, 1) := by decide +kernel
theorem dX8_isDay_10 : decode cX8_isDay 10 = .ok (.getfield 107, 3) := by decide +kernel
theorem dX8_isDay_13 : decode cX8_isDay 13 = .ok (.i2l, 1) := by decide +kernel
theorem dX8_isDay_14 : decode cX8_isDay 14 = .ok (.aload_n 0, 1) := by decide +kernel
theorem dX8_isDay_15 : decode cX8_isDay 15 = .ok (.getfield 110, 3) := by decide +kernel
theorem dX8_isDay_18 : decode cX8_isDay 18 = .ok (.i2l, 1) := by decide +kernel
theorem dX8_isDay_19 : decode cX8_isDay 19 = .ok (.invokestatic 93, 3) := by decide +kernel
theorem dX8_isDay_22 : decode cX8_isDay 22 = .ok (.ifCond .eq 7, 3) := by decide +kernel
theorem dX8_isDay_25 : decode cX8_isDay 25 = .ok (.iconst 1, 1) := by decide +kernel
theorem dX8_isDay_26 : decode cX8_isDay 26 = .ok (.goto 4, 3) := by decide +kernel
theorem dX8_isDay_29 : decode cX8_isDay 29 = .ok (.iconst 0, 1) := by decide +kernel
theorem dX8_isDay_30 : decode cX8_isDay 30 = .ok (.ireturn, 1) := by decide +kernel
theorem dX8_feed_0 : decode cX8_feed 0 = .ok (.iload_n 1, 1) := by decide +kernel
theorem dX8_feed_1 : decode cX8_feed 1 = .ok (.i2l, 1) := by decide +kernel
theorem dX8_feed_2 : decode cX8_feed 2 = .ok (.lconst 0, 1) := by decide +kernel
theorem dX8_feed_3 : decode cX8_feed 3 = .ok (.ldc2_w 113, 3) := by decide +kernel
theorem dX8_feed_6 : decode cX8_feed 6 = .ok (.invokestatic 93, 3) := by decide +kernel
theorem dX8_feed_9 : decode cX8_feed 9 = .ok (.ifCond .ne 6, 3) := by decide +kernel
theorem dX8_feed_12 : decode cX8_feed 12 = .ok (.ldc 115, 2) := by decide +kernel
theorem dX8_feed_14 : decode cX8_feed 14 = .ok (.ireturn, 1) := by decide +kernel
theorem dX8_feed_15 : decode cX8_feed 15 = .ok (.aload_n 0, 1) := by decide +kernel
theorem dX8_feed_16 : decode cX8_feed 16 = .ok (.getfield 116, 3) := by decide +kernel
theorem dX8_feed_19 : decode cX8_feed 19 = .ok (.sipush 220, 3) := by decide +kernel
theorem dX8_feed_22 : decode cX8_feed 22 = .ok (.if_icmp .ne 6, 3) := by decide +kernel
theorem dX8_feed_25 : decode cX8_feed 25 = .ok (.ldc 119, 2) := by decide +kernel
theorem dX8_feed_27 : decode cX8_feed 27 = .ok (.ireturn, 1) := by decide +kernel
theorem dX8_feed_28 : decode cX8_feed 28 = .ok (.aload_n 0, 1) := by decide +kernel
theorem dX8_feed_29 : decode cX8_feed 29 = .ok (.getfield 22, 3) := by decide +kernel
theorem dX8_feed_32 : decode cX8_feed 32 = .ok (.aload_n 0, 1) := by decide +kernel
theorem dX8_feed_33 : decode cX8_feed 33 = .ok (.getfield 116, 3) := by decide +kernel
theorem dX8_feed_36 : decode cX8_feed 36 = .ok (.iload_n 1, 1) := by decide +kernel
theorem dX8_feed_37 : decode cX8_feed 37 = .ok (.iastore, 1) := by decide +kernel
theorem dX8_feed_38 : decode cX8_feed 38 = .ok (.aload_n 0, 1) := by decide +kernel
theorem dX8_feed_39 : decode cX8_feed 39 = .ok (.dup, 1) := by decide +kernel
theorem dX8_feed_40 : decode cX8_feed 40 = .ok (.getfield 116, 3) := by decide +kernel
theorem dX8_feed_43 : decode cX8_feed 43 = .ok (.iconst 1, 1) := by decide +kernel
theorem dX8_feed_44 : decode cX8_feed 44 = .ok (.iadd, 1) := by decide +kernel
theorem dX8_feed_45 : decode cX8_feed 45 = .ok (.putfield 116, 3) := by decide +kernel
theorem dX8_feed_48 : decode cX8_feed 48 = .ok (.aload_n 0, 1) := by decide +kernel
theorem dX8_feed_49 : decode cX8_feed 49 = .ok (.getfield 116, 3) := by decide +kernel
theorem dX8_feed_52 : decode cX8_feed 52 = .ok (.ireturn, 1) := by decide +kernel
theorem dX8_here_0 : decode cX8_here 0 = .ok (.aload_n 0, 1) := by decide +kernel
theorem dX8_here_1 : decode cX8_here 1 = .ok (.getfield 120, 3) := by decide +kernel
theorem dX8_here_4 : decode cX8_here 4 = .ok (.aload_n 0, 1) := by decide +kernel
theorem dX8_here_5 : decode cX8_here 5 = .ok (.getfield 116, 3) := by decide +kernel
theorem dX8_here_8 : decode cX8_here 8 = .ok (.if_icmp .ge 30, 3) := by decide +kernel
theorem dX8_here_11 : decode cX8_here 11 = .ok (.aload_n 0, 1) := by decide +kernel
theorem dX8_here_12 : decode cX8_here 12 = .ok (.getfield 22, 3) := by decide +kernel
theorem dX8_here_15 : decode cX8_here 15 = .ok (.aload_n 0, 1) := by decide +kernel
theorem dX8_here_16 : decode cX8_here 16 = .ok (.getfield 120, 3) := by decide +kernel
theorem dX8_here_19 : decode cX8_here 19 = .ok (.iaload, 1) := by decide +kernel
theorem dX8_here_20 : decode cX8_here 20 = .ok (.bipush 32, 2) := by decide +kernel
theorem dX8_here_22 : decode cX8_here 22 = .ok (.if_icmp .ne 16, 3) := by decide +kernel
theorem dX8_here_25 : decode cX8_here 25 = .ok (.aload_n 0, 1) := by decide +kernel
theorem dX8_here_26 : decode cX8_here 26 = .ok (.dup, 1) := by decide +kernel
theorem dX8_here_27 : decode cX8_here 27 = .ok (.getfield 120, 3) := by decide +kernel
theorem dX8_here_30 : decode cX8_here 30 = .ok (.iconst 1, 1) := by decide +kernel
theorem dX8_here_31 : decode cX8_here 31 = .ok (.iadd, 1) := by decide +kernel
theorem dX8_here_32 : decode cX8_here 32 = .ok (.putfield 120, 3) := by decide +kernel
theorem dX8_here_35 : decode cX8_here 35 = .ok (.goto (-35), 3) := by decide +kernel
theorem dX8_here_38 : decode cX8_here 38 = .ok (.aload_n 0, 1) := by decide +kernel
theorem dX8_here_39 : decode cX8_here 39 = .ok (.getfield 120, 3) := by decide +kernel
theorem dX8_here_42 : decode cX8_here 42 = .ok (.aload_n 0, 1) := by decide +kernel
theorem dX8_here_43 : decode cX8_here 43 = .ok (.getfield 116, 3) := by decide +kernel
theorem dX8_here_46 : decode cX8_here 46 = .ok (.if_icmp .ge 15, 3) := by decide +kernel
theorem dX8_here_49 : decode cX8_here 49 = .ok (.aload_n 0, 1) := by decide +kernel
theorem dX8_here_50 : decode cX8_here 50 = .ok (.getfield 22, 3) := by decide +kernel
theorem dX8_here_53 : decode cX8_here 53 = .ok (.aload_n 0, 1) := by decide +kernel
theorem dX8_here_54 : decode cX8_here 54 = .ok (.getfield 120, 3) := by decide +kernel
theorem dX8_here_57 : decode cX8_here 57 = .ok (.iaload, 1) := by decide +kernel
theorem dX8_here_58 : decode cX8_here 58 = .ok (.goto 4, 3) := by decide +kernel
theorem dX8_here_61 : decode cX8_here 61 = .ok (.iconst (-1), 1) := by decide +kernel
theorem dX8_here_62 : decode cX8_here 62 = .ok (.ireturn, 1) := by decide +kernel
theorem dX8_fails_0 : decode cX8_fails 0 = .ok (.aload_n 0, 1) := by decide +kernel
theorem dX8_fails_1 : decode cX8_fails 1 = .ok (.iload_n 2, 1) := by decide +kernel
theorem dX8_fails_2 : decode cX8_fails 2 = .ok (.putfield 25, 3) := by decide +kernel
theorem dX8_fails_5 : decode cX8_fails 5 = .ok (.iload_n 1, 1) := by decide +kernel
theorem dX8_fails_6 : decode cX8_fails 6 = .ok (.ireturn, 1) := by decide +kernel
theorem dX8_takeNumber_0 : decode cX8_takeNumber 0 = .ok (.aload_n 0, 1) := by decide +kernel
theorem dX8_takeNumber_1 : decode cX8_takeNumber 1 = .ok (.invokevirtual 123, 3) := by decide +kernel
theorem dX8_takeNumber_4 : decode cX8_takeNumber 4 = .ok (.istore_n 3, 1) := by decide +kernel
theorem dX8_takeNumber_5 : decode cX8_takeNumber 5 = .ok (.iload_n 3, 1) := by decide +kernel
theorem dX8_takeNumber_6 : decode cX8_takeNumber 6 = .ok (.i2l, 1) := by decide +kernel
theorem dX8_takeNumber_7 : decode cX8_takeNumber 7 = .ok (.ldc2_w 127, 3) := by decide +kernel
theorem dX8_takeNumber_10 : decode cX8_takeNumber 10 = .ok (.ldc2_w 129, 3) := by decide +kernel
theorem dX8_takeNumber_13 : decode cX8_takeNumber 13 = .ok (.invokestatic 93, 3) := by decide +kernel
theorem dX8_takeNumber_16 : decode cX8_takeNumber 16 = .ok (.ifCond .ne 13, 3) := by decide +kernel
theorem dX8_takeNumber_19 : decode cX8_takeNumber 19 = .ok (.aload_n 0, 1) := by decide +kernel
theorem dX8_takeNumber_20 : decode cX8_takeNumber 20 = .ok (.iconst 1, 1) := by decide +kernel
theorem dX8_takeNumber_21 : decode cX8_takeNumber 21 = .ok (.aload_n 0, 1) := by decide +kernel
theorem dX8_takeNumber_22 : decode cX8_takeNumber 22 = .ok (.getfield 120, 3) := by decide +kernel
theorem dX8_takeNumber_25 : decode cX8_takeNumber 25 = .ok (.invokevirtual 131, 3) := by decide +kernel
theorem dX8_takeNumber_28 : decode cX8_takeNumber 28 = .ok (.ireturn, 1) := by decide +kernel
theorem dX8_takeNumber_29 : decode cX8_takeNumber 29 = .ok (.aload_n 0, 1) := by decide +kernel
theorem dX8_takeNumber_30 : decode cX8_takeNumber 30 = .ok (.aload_n 0, 1) := by decide +kernel
theorem dX8_takeNumber_31 : decode cX8_takeNumber 31 = .ok (.getfield 120, 3) := by decide +kernel
theorem dX8_takeNumber_34 : decode cX8_takeNumber 34 = .ok (.putfield 135, 3) := by decide +kernel
theorem dX8_takeNumber_37 : decode cX8_takeNumber 37 = .ok (.aload_n 0, 1) := by decide +kernel
theorem dX8_takeNumber_38 : decode cX8_takeNumber 38 = .ok (.iconst 0, 1) := by decide +kernel
theorem dX8_takeNumber_39 : decode cX8_takeNumber 39 = .ok (.putfield 138, 3) := by decide +kernel
theorem dX8_takeNumber_42 : decode cX8_takeNumber 42 = .ok (.aload_n 0, 1) := by decide +kernel
theorem dX8_takeNumber_43 : decode cX8_takeNumber 43 = .ok (.getfield 120, 3) := by decide +kernel
theorem dX8_takeNumber_46 : decode cX8_takeNumber 46 = .ok (.aload_n 0, 1) := by decide +kernel
theorem dX8_takeNumber_47 : decode cX8_takeNumber 47 = .ok (.getfield 116, 3) := by decide +kernel
theorem dX8_takeNumber_50 : decode cX8_takeNumber 50 = .ok (.if_icmp .ge 79, 3) := by decide +kernel
theorem dX8_takeNumber_53 : decode cX8_takeNumber 53 = .ok (.aload_n 0, 1) := by decide +kernel
theorem dX8_takeNumber_54 : decode cX8_takeNumber 54 = .ok (.getfield 22, 3) := by decide +kernel
theorem dX8_takeNumber_57 : decode cX8_takeNumber 57 = .ok (.aload_n 0, 1) := by decide +kernel
theorem dX8_takeNumber_58 : decode cX8_takeNumber 58 = .ok (.getfield 120, 3) := by decide +kernel
theorem dX8_takeNumber_61 : decode cX8_takeNumber 61 = .ok (.iaload, 1) := by decide +kernel
theorem dX8_takeNumber_62 : decode cX8_takeNumber 62 = .ok (.i2l, 1) := by decide +kernel
theorem dX8_takeNumber_63 : decode cX8_takeNumber 63 = .ok (.ldc2_w 127, 3) := by decide +kernel
theorem dX8_takeNumber_66 : decode cX8_takeNumber 66 = .ok (.ldc2_w 129, 3) := by decide +kernel
theorem dX8_takeNumber_69 : decode cX8_takeNumber 69 = .ok (.invokestatic 93, 3) := by decide +kernel
theorem dX8_takeNumber_72 : decode cX8_takeNumber 72 = .ok (.ifCond .eq 57, 3) := by decide +kernel
theorem dX8_takeNumber_75 : decode cX8_takeNumber 75 = .ok (.aload_n 0, 1) := by decide +kernel
theorem dX8_takeNumber_76 : decode cX8_takeNumber 76 = .ok (.aload_n 0, 1) := by decide +kernel
theorem dX8_takeNumber_77 : decode cX8_takeNumber 77 = .ok (.getfield 138, 3) := by decide +kernel
theorem dX8_takeNumber_80 : decode cX8_takeNumber 80 = .ok (.sipush 10000, 3) := by decide +kernel
theorem dX8_takeNumber_83 : decode cX8_takeNumber 83 = .ok (.if_icmp .le 10, 3) := by decide +kernel
theorem dX8_takeNumber_86 : decode cX8_takeNumber 86 = .ok (.aload_n 0, 1) := by decide +kernel
theorem dX8_takeNumber_87 : decode cX8_takeNumber 87 = .ok (.getfield 138, 3) := by decide +kernel
theorem dX8_takeNumber_90 : decode cX8_takeNumber 90 = .ok (.goto 23, 3) := by decide +kernel
theorem dX8_takeNumber_93 : decode cX8_takeNumber 93 = .ok (.bipush 10, 2) := by decide +kernel
theorem dX8_takeNumber_95 : decode cX8_takeNumber 95 = .ok (.aload_n 0, 1) := by decide +kernel
theorem dX8_takeNumber_96 : decode cX8_takeNumber 96 = .ok (.getfield 138, 3) := by decide +kernel
theorem dX8_takeNumber_99 : decode cX8_takeNumber 99 = .ok (.imul, 1) := by decide +kernel
theorem dX8_takeNumber_100 : decode cX8_takeNumber 100 = .ok (.aload_n 0, 1) := by decide +kernel
theorem dX8_takeNumber_101 : decode cX8_takeNumber 101 = .ok (.getfield 22, 3) := by decide +kernel
theorem dX8_takeNumber_104 : decode cX8_takeNumber 104 = .ok (.aload_n 0, 1) := by decide +kernel
theorem dX8_takeNumber_105 : decode cX8_takeNumber 105 = .ok (.getfield 120, 3) := by decide +kernel
theorem dX8_takeNumber_108 : decode cX8_takeNumber 108 = .ok (.iaload, 1) := by decide +kernel
theorem dX8_takeNumber_109 : decode cX8_takeNumber 109 = .ok (.iadd, 1) := by decide +kernel
theorem dX8_takeNumber_110 : decode cX8_takeNumber 110 = .ok (.bipush 48, 2) := by decide +kernel
theorem dX8_takeNumber_112 : decode cX8_takeNumber 112 = .ok (.isub, 1) := by decide +kernel
theorem dX8_takeNumber_113 : decode cX8_takeNumber 113 = .ok (.putfield 138, 3) := by decide +kernel
theorem dX8_takeNumber_116 : decode cX8_takeNumber 116 = .ok (.aload_n 0, 1) := by decide +kernel
theorem dX8_takeNumber_117 : decode cX8_takeNumber 117 = .ok (.dup, 1) := by decide +kernel
theorem dX8_takeNumber_118 : decode cX8_takeNumber 118 = .ok (.getfield 120, 3) := by decide +kernel
theorem dX8_takeNumber_121 : decode cX8_takeNumber 121 = .ok (.iconst 1, 1) := by decide +kernel
theorem dX8_takeNumber_122 : decode cX8_takeNumber 122 = .ok (.iadd, 1) := by decide +kernel
theorem dX8_takeNumber_123 : decode cX8_takeNumber 123 = .ok (.putfield 120, 3) := by decide +kernel
theorem dX8_takeNumber_126 : decode cX8_takeNumber 126 = .ok (.goto (-84), 3) := by decide +kernel
theorem dX8_takeNumber_129 : decode cX8_takeNumber 129 = .ok (.aload_n 0, 1) := by decide +kernel
theorem dX8_takeNumber_130 : decode cX8_takeNumber 130 = .ok (.getfield 120, 3) := by decide +kernel
theorem dX8_takeNumber_133 : decode cX8_takeNumber 133 = .ok (.aload_n 0, 1) := by decide +kernel
theorem dX8_takeNumber_134 : decode cX8_takeNumber 134 = .ok (.getfield 135, 3) := by decide +kernel
theorem dX8_takeNumber_137 : decode cX8_takeNumber 137 = .ok (.isub, 1) := by decide +kernel
theorem dX8_takeNumber_138 : decode cX8_takeNumber 138 = .ok (.iconst 3, 1) := by decide +kernel
theorem dX8_takeNumber_139 : decode cX8_takeNumber 139 = .ok (.if_icmp .gt 18, 3) := by decide +kernel
theorem dX8_takeNumber_142 : decode cX8_takeNumber 142 = .ok (.aload_n 0, 1) := by decide +kernel
theorem dX8_takeNumber_143 : decode cX8_takeNumber 143 = .ok (.getfield 138, 3) := by decide +kernel
theorem dX8_takeNumber_146 : decode cX8_takeNumber 146 = .ok (.i2l, 1) := by decide +kernel
theorem dX8_takeNumber_147 : decode cX8_takeNumber 147 = .ok (.iload_n 1, 1) := by decide +kernel
theorem dX8_takeNumber_148 : decode cX8_takeNumber 148 = .ok (.i2l, 1) := by decide +kernel
theorem dX8_takeNumber_149 : decode cX8_takeNumber 149 = .ok (.iload_n 2, 1) := by decide +kernel
theorem dX8_takeNumber_150 : decode cX8_takeNumber 150 = .ok (.i2l, 1) := by decide +kernel
theorem dX8_takeNumber_151 : decode cX8_takeNumber 151 = .ok (.invokestatic 93, 3) := by decide +kernel
theorem dX8_takeNumber_154 : decode cX8_takeNumber 154 = .ok (.ifCond .ne 15, 3) := by decide +kernel
theorem dX8_takeNumber_157 : decode cX8_takeNumber 157 = .ok (.aload_n 0, 1) := by decide +kernel
theorem dX8_takeNumber_158 : decode cX8_takeNumber 158 = .ok (.iconst 2, 1) := by decide +kernel
theorem dX8_takeNumber_159 : decode cX8_takeNumber 159 = .ok (.aload_n 0, 1) := by decide +kernel
theorem dX8_takeNumber_160 : decode cX8_takeNumber 160 = .ok (.getfield 135, 3) := by decide +kernel
theorem dX8_takeNumber_163 : decode cX8_takeNumber 163 = .ok (.invokevirtual 131, 3) := by decide +kernel
theorem dX8_takeNumber_166 : decode cX8_takeNumber 166 = .ok (.goto 4, 3) := by decide +kernel
theorem dX8_takeNumber_169 : decode cX8_takeNumber 169 = .ok (.iconst 0, 1) := by decide +kernel
theorem dX8_takeNumber_170 : decode cX8_takeNumber 170 = .ok (.ireturn, 1) := by decide +kernel
theorem dX8_into_0 : decode cX8_into 0 = .ok (.aload_n 0, 1) := by decide +kernel
theorem dX8_into_1 : decode cX8_into 1 = .ok (.iload_n 3, 1) := by decide +kernel
theorem dX8_into_2 : decode cX8_into 2 = .ok (.iload 4, 2) := by decide +kernel
theorem dX8_into_4 : decode cX8_into 4 = .ok (.invokevirtual 141, 3) := by decide +kernel
theorem dX8_into_7 : decode cX8_into 7 = .ok (.istore 5, 2) := by decide +kernel
theorem dX8_into_9 : decode cX8_into 9 = .ok (.aload_n 1, 1) := by decide +kernel
theorem dX8_into_10 : decode cX8_into 10 = .ok (.iload_n 2, 1) := by decide +kernel
theorem dX8_into_11 : decode cX8_into 11 = .ok (.aload_n 0, 1) := by decide +kernel
theorem dX8_into_12 : decode cX8_into 12 = .ok (.getfield 138, 3) := by decide +kernel
theorem dX8_into_15 : decode cX8_into 15 = .ok (.iastore, 1) := by decide +kernel
theorem dX8_into_16 : decode cX8_into 16 = .ok (.iload 5, 2) := by decide +kernel
theorem dX8_into_18 : decode cX8_into 18 = .ok (.ireturn, 1) := by decide +kernel
theorem dX8_takeDays_0 : decode cX8_takeDays 0 = .ok (.aload_n 0, 1) := by decide +kernel
theorem dX8_takeDays_1 : decode cX8_takeDays 1 = .ok (.iconst 1, 1) := by decide +kernel
theorem dX8_takeDays_2 : decode cX8_takeDays 2 = .ok (.putfield 144, 3) := by decide +kernel
theorem dX8_takeDays_5 : decode cX8_takeDays 5 = .ok (.aload_n 0, 1) := by decide +kernel
theorem dX8_takeDays_6 : decode cX8_takeDays 6 = .ok (.aload_n 0, 1) := by decide +kernel
theorem dX8_takeDays_7 : decode cX8_takeDays 7 = .ok (.getfield 29, 3) := by decide +kernel
theorem dX8_takeDays_10 : decode cX8_takeDays 10 = .ok (.iconst 0, 1) := by decide +kernel
theorem dX8_takeDays_11 : decode cX8_takeDays 11 = .ok (.iconst 0, 1) := by decide +kernel
theorem dX8_takeDays_12 : decode cX8_takeDays 12 = .ok (.bipush 99, 2) := by decide +kernel
theorem dX8_takeDays_14 : decode cX8_takeDays 14 = .ok (.invokevirtual 147, 3) := by decide +kernel
theorem dX8_takeDays_17 : decode cX8_takeDays 17 = .ok (.istore_n 1, 1) := by decide +kernel
theorem dX8_takeDays_18 : decode cX8_takeDays 18 = .ok (.iload_n 1, 1) := by decide +kernel
theorem dX8_takeDays_19 : decode cX8_takeDays 19 = .ok (.ifCond .le 7, 3) := by decide +kernel
theorem dX8_takeDays_22 : decode cX8_takeDays 22 = .ok (.iload_n 1, 1) := by decide +kernel
theorem dX8_takeDays_23 : decode cX8_takeDays 23 = .ok (.goto 15, 3) := by decide +kernel
theorem dX8_takeDays_26 : decode cX8_takeDays 26 = .ok (.aload_n 0, 1) := by decide +kernel
theorem dX8_takeDays_27 : decode cX8_takeDays 27 = .ok (.aload_n 0, 1) := by decide +kernel
theorem dX8_takeDays_28 : decode cX8_takeDays 28 = .ok (.getfield 29, 3) := by decide +kernel
theorem dX8_takeDays_31 : decode cX8_takeDays 31 = .ok (.iconst 1, 1) := by decide +kernel
theorem dX8_takeDays_32 : decode cX8_takeDays 32 = .ok (.iconst 0, 1) := by decide +kernel
theorem dX8_takeDays_33 : decode cX8_takeDays 33 = .ok (.bipush 99, 2) := by decide +kernel
theorem dX8_takeDays_35 : decode cX8_takeDays 35 = .ok (.invokevirtual 147, 3) := by decide +kernel
theorem dX8_takeDays_38 : decode cX8_takeDays 38 = .ok (.istore_n 1, 1) := by decide +kernel
theorem dX8_takeDays_39 : decode cX8_takeDays 39 = .ok (.iload_n 1, 1) := by decide +kernel
theorem dX8_takeDays_40 : decode cX8_takeDays 40 = .ok (.ifCond .ne 28, 3) := by decide +kernel
theorem dX8_takeDays_43 : decode cX8_takeDays 43 = .ok (.aload_n 0, 1) := by decide +kernel
theorem dX8_takeDays_44 : decode cX8_takeDays 44 = .ok (.getfield 29, 3) := by decide +kernel
theorem dX8_takeDays_47 : decode cX8_takeDays 47 = .ok (.iconst 1, 1) := by decide +kernel
theorem dX8_takeDays_48 : decode cX8_takeDays 48 = .ok (.iaload, 1) := by decide +kernel
theorem dX8_takeDays_49 : decode cX8_takeDays 49 = .ok (.aload_n 0, 1) := by decide +kernel
theorem dX8_takeDays_50 : decode cX8_takeDays 50 = .ok (.getfield 29, 3) := by decide +kernel
theorem dX8_takeDays_53 : decode cX8_takeDays 53 = .ok (.iconst 0, 1) := by decide +kernel
theorem dX8_takeDays_54 : decode cX8_takeDays 54 = .ok (.iaload, 1) := by decide +kernel
theorem dX8_takeDays_55 : decode cX8_takeDays 55 = .ok (.if_icmp .ge 13, 3) := by decide +kernel
theorem dX8_takeDays_58 : decode cX8_takeDays 58 = .ok (.aload_n 0, 1) := by decide +kernel
theorem dX8_takeDays_59 : decode cX8_takeDays 59 = .ok (.iconst 4, 1) := by decide +kernel
theorem dX8_takeDays_60 : decode cX8_takeDays 60 = .ok (.aload_n 0, 1) := by decide +kernel
theorem dX8_takeDays_61 : decode cX8_takeDays 61 = .ok (.getfield 135, 3) := by decide +kernel
theorem dX8_takeDays_64 : decode cX8_takeDays 64 = .ok (.invokevirtual 131, 3) := by decide +kernel
theorem dX8_takeDays_67 : decode cX8_takeDays 67 = .ok (.ireturn, 1) := by decide +kernel
theorem dX8_takeDays_68 : decode cX8_takeDays 68 = .ok (.iload_n 1, 1) := by decide +kernel
theorem dX8_takeDays_69 : decode cX8_takeDays 69 = .ok (.ifCond .le 7, 3) := by decide +kernel
theorem dX8_takeDays_72 : decode cX8_takeDays 72 = .ok (.iload_n 1, 1) := by decide +kernel
theorem dX8_takeDays_73 : decode cX8_takeDays 73 = .ok (.goto 14, 3) := by decide +kernel
theorem dX8_takeDays_76 : decode cX8_takeDays 76 = .ok (.aload_n 0, 1) := by decide +kernel
theorem dX8_takeDays_77 : decode cX8_takeDays 77 = .ok (.aload_n 0, 1) := by decide +kernel
theorem dX8_takeDays_78 : decode cX8_takeDays 78 = .ok (.getfield 29, 3) := by decide +kernel
theorem dX8_takeDays_81 : decode cX8_takeDays 81 = .ok (.iconst 2, 1) := by decide +kernel
theorem dX8_takeDays_82 : decode cX8_takeDays 82 = .ok (.iconst 0, 1) := by decide +kernel
theorem dX8_takeDays_83 : decode cX8_takeDays 83 = .ok (.iconst 1, 1) := by decide +kernel
theorem dX8_takeDays_84 : decode cX8_takeDays 84 = .ok (.invokevirtual 147, 3) := by decide +kernel
theorem dX8_takeDays_87 : decode cX8_takeDays 87 = .ok (.ireturn, 1) := by decide +kernel
theorem dX8_takeCube_0 : decode cX8_takeCube 0 = .ok (.aload_n 0, 1) := by decide +kernel
theorem dX8_takeCube_1 : decode cX8_takeCube 1 = .ok (.getfield 151, 3) := by decide +kernel
theorem dX8_takeCube_4 : decode cX8_takeCube 4 = .ok (.istore_n 1, 1) := by decide +kernel
theorem dX8_takeCube_5 : decode cX8_takeCube 5 = .ok (.aload_n 0, 1) := by decide +kernel
theorem dX8_takeCube_6 : decode cX8_takeCube 6 = .ok (.dup, 1) := by decide +kernel
theorem dX8_takeCube_7 : decode cX8_takeCube 7 = .ok (.getfield 151, 3) := by decide +kernel
theorem dX8_takeCube_10 : decode cX8_takeCube 10 = .ok (.iconst 1, 1) := by decide +kernel
theorem dX8_takeCube_11 : decode cX8_takeCube 11 = .ok (.iadd, 1) := by decide +kernel
theorem dX8_takeCube_12 : decode cX8_takeCube 12 = .ok (.putfield 151, 3) := by decide +kernel
theorem dX8_takeCube_15 : decode cX8_takeCube 15 = .ok (.aload_n 0, 1) := by decide +kernel
theorem dX8_takeCube_16 : decode cX8_takeCube 16 = .ok (.aload_n 0, 1) := by decide +kernel
theorem dX8_takeCube_17 : decode cX8_takeCube 17 = .ok (.getfield 35, 3) := by decide +kernel
theorem dX8_takeCube_20 : decode cX8_takeCube 20 = .ok (.bipush 6, 2) := by decide +kernel
theorem dX8_takeCube_22 : decode cX8_takeCube 22 = .ok (.iload_n 1, 1) := by decide +kernel
theorem dX8_takeCube_23 : decode cX8_takeCube 23 = .ok (.imul, 1) := by decide +kernel
theorem dX8_takeCube_24 : decode cX8_takeCube 24 = .ok (.iconst 0, 1) := by decide +kernel
theorem dX8_takeCube_25 : decode cX8_takeCube 25 = .ok (.bipush 9, 2) := by decide +kernel
theorem dX8_takeCube_27 : decode cX8_takeCube 27 = .ok (.invokevirtual 147, 3) := by decide +kernel
theorem dX8_takeCube_30 : decode cX8_takeCube 30 = .ok (.istore_n 2, 1) := by decide +kernel
theorem dX8_takeCube_31 : decode cX8_takeCube 31 = .ok (.aload_n 0, 1) := by decide +kernel
theorem dX8_takeCube_32 : decode cX8_takeCube 32 = .ok (.getfield 32, 3) := by decide +kernel
theorem dX8_takeCube_35 : decode cX8_takeCube 35 = .ok (.iload_n 1, 1) := by decide +kernel
theorem dX8_takeCube_36 : decode cX8_takeCube 36 = .ok (.iconst 1, 1) := by decide +kernel
theorem dX8_takeCube_37 : decode cX8_takeCube 37 = .ok (.iastore, 1) := by decide +kernel
theorem dX8_takeCube_38 : decode cX8_takeCube 38 = .ok (.iload_n 2, 1) := by decide +kernel
theorem dX8_takeCube_39 : decode cX8_takeCube 39 = .ok (.ifCond .ne 79, 3) := by decide +kernel
theorem dX8_takeCube_42 : decode cX8_takeCube 42 = .ok (.aload_n 0, 1) := by decide +kernel
theorem dX8_takeCube_43 : decode cX8_takeCube 43 = .ok (.invokevirtual 123, 3) := by decide +kernel
theorem dX8_takeCube_46 : decode cX8_takeCube 46 = .ok (.bipush 44, 2) := by decide +kernel
theorem dX8_takeCube_48 : decode cX8_takeCube 48 = .ok (.if_icmp .ne 70, 3) := by decide +kernel
theorem dX8_takeCube_51 : decode cX8_takeCube 51 = .ok (.aload_n 0, 1) := by decide +kernel
theorem dX8_takeCube_52 : decode cX8_takeCube 52 = .ok (.getfield 32, 3) := by decide +kernel
theorem dX8_takeCube_55 : decode cX8_takeCube 55 = .ok (.iload_n 1, 1) := by decide +kernel
theorem dX8_takeCube_56 : decode cX8_takeCube 56 = .ok (.iaload, 1) := by decide +kernel
theorem dX8_takeCube_57 : decode cX8_takeCube 57 = .ok (.bipush 6, 2) := by decide +kernel
theorem dX8_takeCube_59 : decode cX8_takeCube 59 = .ok (.if_icmp .ne 13, 3) := by decide +kernel
theorem dX8_takeCube_62 : decode cX8_takeCube 62 = .ok (.aload_n 0, 1) := by decide +kernel
theorem dX8_takeCube_63 : decode cX8_takeCube 63 = .ok (.iconst 1, 1) := by decide +kernel
theorem dX8_takeCube_64 : decode cX8_takeCube 64 = .ok (.aload_n 0, 1) := by decide +kernel
theorem dX8_takeCube_65 : decode cX8_takeCube 65 = .ok (.getfield 120, 3) := by decide +kernel
theorem dX8_takeCube_68 : decode cX8_takeCube 68 = .ok (.invokevirtual 131, 3) := by decide +kernel
theorem dX8_takeCube_71 : decode cX8_takeCube 71 = .ok (.ireturn, 1) := by decide +kernel
theorem dX8_takeCube_72 : decode cX8_takeCube 72 = .ok (.aload_n 0, 1) := by decide +kernel
theorem dX8_takeCube_73 : decode cX8_takeCube 73 = .ok (.dup, 1) := by decide +kernel
theorem dX8_takeCube_74 : decode cX8_takeCube 74 = .ok (.getfield 120, 3) := by decide +kernel
theorem dX8_takeCube_77 : decode cX8_takeCube 77 = .ok (.iconst 1, 1) := by decide +kernel
theorem dX8_takeCube_78 : decode cX8_takeCube 78 = .ok (.iadd, 1) := by decide +kernel
theorem dX8_takeCube_79 : decode cX8_takeCube 79 = .ok (.putfield 120, 3) := by decide +kernel
theorem dX8_takeCube_82 : decode cX8_takeCube 82 = .ok (.aload_n 0, 1) := by decide +kernel
theorem dX8_takeCube_83 : decode cX8_takeCube 83 = .ok (.aload_n 0, 1) := by decide +kernel
theorem dX8_takeCube_84 : decode cX8_takeCube 84 = .ok (.getfield 35, 3) := by decide +kernel
theorem dX8_takeCube_87 : decode cX8_takeCube 87 = .ok (.bipush 6, 2) := by decide +kernel
theorem dX8_takeCube_89 : decode cX8_takeCube 89 = .ok (.iload_n 1, 1) := by decide +kernel
theorem dX8_takeCube_90 : decode cX8_takeCube 90 = .ok (.imul, 1) := by decide +kernel
theorem dX8_takeCube_91 : decode cX8_takeCube 91 = .ok (.aload_n 0, 1) := by decide +kernel
theorem dX8_takeCube_92 : decode cX8_takeCube 92 = .ok (.getfield 32, 3) := by decide +kernel
theorem dX8_takeCube_95 : decode cX8_takeCube 95 = .ok (.iload_n 1, 1) := by decide +kernel
theorem dX8_takeCube_96 : decode cX8_takeCube 96 = .ok (.iaload, 1) := by decide +kernel
theorem dX8_takeCube_97 : decode cX8_takeCube 97 = .ok (.iadd, 1) := by decide +kernel
theorem dX8_takeCube_98 : decode cX8_takeCube 98 = .ok (.iconst 0, 1) := by decide +kernel
theorem dX8_takeCube_99 : decode cX8_takeCube 99 = .ok (.bipush 9, 2) := by decide +kernel
theorem dX8_takeCube_101 : decode cX8_takeCube 101 = .ok (.invokevirtual 147, 3) := by decide +kernel
theorem dX8_takeCube_104 : decode cX8_takeCube 104 = .ok (.istore_n 2, 1) := by decide +kernel
theorem dX8_takeCube_105 : decode cX8_takeCube 105 = .ok (.aload_n 0, 1) := by decide +kernel
theorem dX8_takeCube_106 : decode cX8_takeCube 106 = .ok (.getfield 32, 3) := by decide +kernel
theorem dX8_takeCube_109 : decode cX8_takeCube 109 = .ok (.iload_n 1, 1) := by decide +kernel
theorem dX8_takeCube_110 : decode cX8_takeCube 110 = .ok (.dup2, 1) := by decide +kernel
theorem dX8_takeCube_111 : decode cX8_takeCube 111 = .ok (.iaload, 1) := by decide +kernel
theorem dX8_takeCube_112 : decode cX8_takeCube 112 = .ok (.iconst 1, 1) := by decide +kernel
theorem dX8_takeCube_113 : decode cX8_takeCube 113 = .ok (.iadd, 1) := by decide +kernel
theorem dX8_takeCube_114 : decode cX8_takeCube 114 = .ok (.iastore, 1) := by decide +kernel
theorem dX8_takeCube_115 : decode cX8_takeCube 115 = .ok (.goto (-77), 3) := by decide +kernel
theorem dX8_takeCube_118 : decode cX8_takeCube 118 = .ok (.iload_n 2, 1) := by decide +kernel
theorem dX8_takeCube_119 : decode cX8_takeCube 119 = .ok (.ireturn, 1) := by decide +kernel
theorem dX8_takePair_0 : decode cX8_takePair 0 = .ok (.aload_n 0, 1) := by decide +kernel
theorem dX8_takePair_1 : decode cX8_takePair 1 = .ok (.dup, 1) := by decide +kernel
theorem dX8_takePair_2 : decode cX8_takePair 2 = .ok (.getfield 154, 3) := by decide +kernel
theorem dX8_takePair_5 : decode cX8_takePair 5 = .ok (.iconst 1, 1) := by decide +kernel
theorem dX8_takePair_6 : decode cX8_takePair 6 = .ok (.iadd, 1) := by decide +kernel
theorem dX8_takePair_7 : decode cX8_takePair 7 = .ok (.putfield 154, 3) := by decide +kernel
theorem dX8_takePair_10 : decode cX8_takePair 10 = .ok (.aload_n 0, 1) := by decide +kernel
theorem dX8_takePair_11 : decode cX8_takePair 11 = .ok (.iconst 0, 1) := by decide +kernel
theorem dX8_takePair_12 : decode cX8_takePair 12 = .ok (.bipush 9, 2) := by decide +kernel
theorem dX8_takePair_14 : decode cX8_takePair 14 = .ok (.invokevirtual 141, 3) := by decide +kernel
theorem dX8_takePair_17 : decode cX8_takePair 17 = .ok (.istore_n 1, 1) := by decide +kernel
theorem dX8_takePair_18 : decode cX8_takePair 18 = .ok (.aload_n 0, 1) := by decide +kernel
theorem dX8_takePair_19 : decode cX8_takePair 19 = .ok (.getfield 138, 3) := by decide +kernel
theorem dX8_takePair_22 : decode cX8_takePair 22 = .ok (.istore_n 2, 1) := by decide +kernel
theorem dX8_takePair_23 : decode cX8_takePair 23 = .ok (.iload_n 1, 1) := by decide +kernel
theorem dX8_takePair_24 : decode cX8_takePair 24 = .ok (.ifCond .ne 23, 3) := by decide +kernel
theorem dX8_takePair_27 : decode cX8_takePair 27 = .ok (.aload_n 0, 1) := by decide +kernel
theorem dX8_takePair_28 : decode cX8_takePair 28 = .ok (.getfield 38, 3) := by decide +kernel
theorem dX8_takePair_31 : decode cX8_takePair 31 = .ok (.iload_n 2, 1) := by decide +kernel
theorem dX8_takePair_32 : decode cX8_takePair 32 = .ok (.iaload, 1) := by decide +kernel
theorem dX8_takePair_33 : decode cX8_takePair 33 = .ok (.iload_n 2, 1) := by decide +kernel
theorem dX8_takePair_34 : decode cX8_takePair 34 = .ok (.if_icmp .eq 13, 3) := by decide +kernel
theorem dX8_takePair_37 : decode cX8_takePair 37 = .ok (.aload_n 0, 1) := by decide +kernel
theorem dX8_takePair_38 : decode cX8_takePair 38 = .ok (.iconst 4, 1) := by decide +kernel
theorem dX8_takePair_39 : decode cX8_takePair 39 = .ok (.aload_n 0, 1) := by decide +kernel
theorem dX8_takePair_40 : decode cX8_takePair 40 = .ok (.getfield 135, 3) := by decide +kernel
theorem dX8_takePair_43 : decode cX8_takePair 43 = .ok (.invokevirtual 131, 3) := by decide +kernel
theorem dX8_takePair_46 : decode cX8_takePair 46 = .ok (.ireturn, 1) := by decide +kernel
theorem dX8_takePair_47 : decode cX8_takePair 47 = .ok (.iload_n 1, 1) := by decide +kernel
theorem dX8_takePair_48 : decode cX8_takePair 48 = .ok (.ifCond .le 7, 3) := by decide +kernel
theorem dX8_takePair_51 : decode cX8_takePair 51 = .ok (.iload_n 1, 1) := by decide +kernel
theorem dX8_takePair_52 : decode cX8_takePair 52 = .ok (.goto 10, 3) := by decide +kernel
theorem dX8_takePair_55 : decode cX8_takePair 55 = .ok (.aload_n 0, 1) := by decide +kernel
theorem dX8_takePair_56 : decode cX8_takePair 56 = .ok (.iconst 0, 1) := by decide +kernel
theorem dX8_takePair_57 : decode cX8_takePair 57 = .ok (.bipush 9, 2) := by decide +kernel
theorem dX8_takePair_59 : decode cX8_takePair 59 = .ok (.invokevirtual 141, 3) := by decide +kernel
theorem dX8_takePair_62 : decode cX8_takePair 62 = .ok (.istore_n 1, 1) := by decide +kernel
theorem dX8_takePair_63 : decode cX8_takePair 63 = .ok (.aload_n 0, 1) := by decide +kernel
theorem dX8_takePair_64 : decode cX8_takePair 64 = .ok (.getfield 138, 3) := by decide +kernel
theorem dX8_takePair_67 : decode cX8_takePair 67 = .ok (.istore_n 3, 1) := by decide +kernel
theorem dX8_takePair_68 : decode cX8_takePair 68 = .ok (.iload_n 1, 1) := by decide +kernel
theorem dX8_takePair_69 : decode cX8_takePair 69 = .ok (.ifCond .ne 28, 3) := by decide +kernel
theorem dX8_takePair_72 : decode cX8_takePair 72 = .ok (.iload_n 3, 1) := by decide +kernel
theorem dX8_takePair_73 : decode cX8_takePair 73 = .ok (.iload_n 2, 1) := by decide +kernel
theorem dX8_takePair_74 : decode cX8_takePair 74 = .ok (.if_icmp .eq 13, 3) := by decide +kernel
theorem dX8_takePair_77 : decode cX8_takePair 77 = .ok (.aload_n 0, 1) := by decide +kernel
theorem dX8_takePair_78 : decode cX8_takePair 78 = .ok (.getfield 38, 3) := by decide +kernel
theorem dX8_takePair_81 : decode cX8_takePair 81 = .ok (.iload_n 3, 1) := by decide +kernel
theorem dX8_takePair_82 : decode cX8_takePair 82 = .ok (.iaload, 1) := by decide +kernel
theorem dX8_takePair_83 : decode cX8_takePair 83 = .ok (.iload_n 3, 1) := by decide +kernel
theorem dX8_takePair_84 : decode cX8_takePair 84 = .ok (.if_icmp .eq 13, 3) := by decide +kernel
theorem dX8_takePair_87 : decode cX8_takePair 87 = .ok (.aload_n 0, 1) := by decide +kernel
theorem dX8_takePair_88 : decode cX8_takePair 88 = .ok (.iconst 4, 1) := by decide +kernel
theorem dX8_takePair_89 : decode cX8_takePair 89 = .ok (.aload_n 0, 1) := by decide +kernel
theorem dX8_takePair_90 : decode cX8_takePair 90 = .ok (.getfield 135, 3) := by decide +kernel
theorem dX8_takePair_93 : decode cX8_takePair 93 = .ok (.invokevirtual 131, 3) := by decide +kernel
theorem dX8_takePair_96 : decode cX8_takePair 96 = .ok (.ireturn, 1) := by decide +kernel
theorem dX8_takePair_97 : decode cX8_takePair 97 = .ok (.iload_n 1, 1) := by decide +kernel
theorem dX8_takePair_98 : decode cX8_takePair 98 = .ok (.ifCond .ne 17, 3) := by decide +kernel
theorem dX8_takePair_101 : decode cX8_takePair 101 = .ok (.aload_n 0, 1) := by decide +kernel
theorem dX8_takePair_102 : decode cX8_takePair 102 = .ok (.getfield 38, 3) := by decide +kernel
theorem dX8_takePair_105 : decode cX8_takePair 105 = .ok (.iload_n 2, 1) := by decide +kernel
theorem dX8_takePair_106 : decode cX8_takePair 106 = .ok (.iload_n 3, 1) := by decide +kernel
theorem dX8_takePair_107 : decode cX8_takePair 107 = .ok (.iastore, 1) := by decide +kernel
theorem dX8_takePair_108 : decode cX8_takePair 108 = .ok (.aload_n 0, 1) := by decide +kernel
theorem dX8_takePair_109 : decode cX8_takePair 109 = .ok (.getfield 38, 3) := by decide +kernel
theorem dX8_takePair_112 : decode cX8_takePair 112 = .ok (.iload_n 3, 1) := by decide +kernel
theorem dX8_takePair_113 : decode cX8_takePair 113 = .ok (.iload_n 2, 1) := by decide +kernel
theorem dX8_takePair_114 : decode cX8_takePair 114 = .ok (.iastore, 1) := by decide +kernel
theorem dX8_takePair_115 : decode cX8_takePair 115 = .ok (.iload_n 1, 1) := by decide +kernel
theorem dX8_takePair_116 : decode cX8_takePair 116 = .ok (.ireturn, 1) := by decide +kernel
theorem dX8_takePrice_0 : decode cX8_takePrice 0 = .ok (.aload_n 0, 1) := by decide +kernel
theorem dX8_takePrice_1 : decode cX8_takePrice 1 = .ok (.iconst 0, 1) := by decide +kernel
theorem dX8_takePrice_2 : decode cX8_takePrice 2 = .ok (.bipush 9, 2) := by decide +kernel
theorem dX8_takePrice_4 : decode cX8_takePrice 4 = .ok (.invokevirtual 141, 3) := by decide +kernel
theorem dX8_takePrice_7 : decode cX8_takePrice 7 = .ok (.istore_n 1, 1) := by decide +kernel
theorem dX8_takePrice_8 : decode cX8_takePrice 8 = .ok (.aload_n 0, 1) := by decide +kernel
theorem dX8_takePrice_9 : decode cX8_takePrice 9 = .ok (.getfield 138, 3) := by decide +kernel
theorem dX8_takePrice_12 : decode cX8_takePrice 12 = .ok (.istore_n 2, 1) := by decide +kernel
theorem dX8_takePrice_13 : decode cX8_takePrice 13 = .ok (.iload_n 1, 1) := by decide +kernel
theorem dX8_takePrice_14 : decode cX8_takePrice 14 = .ok (.ifCond .ne 24, 3) := by decide +kernel
theorem dX8_takePrice_17 : decode cX8_takePrice 17 = .ok (.aload_n 0, 1) := by decide +kernel
theorem dX8_takePrice_18 : decode cX8_takePrice 18 = .ok (.getfield 157, 3) := by decide +kernel
theorem dX8_takePrice_21 : decode cX8_takePrice 21 = .ok (.iload_n 2, 1) := by decide +kernel
theorem dX8_takePrice_22 : decode cX8_takePrice 22 = .ok (.invokestatic 97, 3) := by decide +kernel
theorem dX8_takePrice_25 : decode cX8_takePrice 25 = .ok (.ifCond .eq 13, 3) := by decide +kernel
theorem dX8_takePrice_28 : decode cX8_takePrice 28 = .ok (.aload_n 0, 1) := by decide +kernel
theorem dX8_takePrice_29 : decode cX8_takePrice 29 = .ok (.iconst 4, 1) := by decide +kernel
theorem dX8_takePrice_30 : decode cX8_takePrice 30 = .ok (.aload_n 0, 1) := by decide +kernel
theorem dX8_takePrice_31 : decode cX8_takePrice 31 = .ok (.getfield 135, 3) := by decide +kernel
theorem dX8_takePrice_34 : decode cX8_takePrice 34 = .ok (.invokevirtual 131, 3) := by decide +kernel
theorem dX8_takePrice_37 : decode cX8_takePrice 37 = .ok (.ireturn, 1) := by decide +kernel
theorem dX8_takePrice_38 : decode cX8_takePrice 38 = .ok (.iload_n 1, 1) := by decide +kernel
theorem dX8_takePrice_39 : decode cX8_takePrice 39 = .ok (.ifCond .ne 28, 3) := by decide +kernel
theorem dX8_takePrice_42 : decode cX8_takePrice 42 = .ok (.aload_n 0, 1) := by decide +kernel
theorem dX8_takePrice_43 : decode cX8_takePrice 43 = .ok (.dup, 1) := by decide +kernel
theorem dX8_takePrice_44 : decode cX8_takePrice 44 = .ok (.getfield 157, 3) := by decide +kernel
theorem dX8_takePrice_47 : decode cX8_takePrice 47 = .ok (.iconst 1, 1) := by decide +kernel
theorem dX8_takePrice_48 : decode cX8_takePrice 48 = .ok (.iload_n 2, 1) := by decide +kernel
theorem dX8_takePrice_49 : decode cX8_takePrice 49 = .ok (.ishl, 1) := by decide +kernel
theorem dX8_takePrice_50 : decode cX8_takePrice 50 = .ok (.ior, 1) := by decide +kernel
theorem dX8_takePrice_51 : decode cX8_takePrice 51 = .ok (.putfield 157, 3) := by decide +kernel
theorem dX8_takePrice_54 : decode cX8_takePrice 54 = .ok (.aload_n 0, 1) := by decide +kernel
theorem dX8_takePrice_55 : decode cX8_takePrice 55 = .ok (.aload_n 0, 1) := by decide +kernel
theorem dX8_takePrice_56 : decode cX8_takePrice 56 = .ok (.getfield 41, 3) := by decide +kernel
theorem dX8_takePrice_59 : decode cX8_takePrice 59 = .ok (.iload_n 2, 1) := by decide +kernel
theorem dX8_takePrice_60 : decode cX8_takePrice 60 = .ok (.iconst 0, 1) := by decide +kernel
theorem dX8_takePrice_61 : decode cX8_takePrice 61 = .ok (.bipush 99, 2) := by decide +kernel
theorem dX8_takePrice_63 : decode cX8_takePrice 63 = .ok (.invokevirtual 147, 3) := by decide +kernel
theorem dX8_takePrice_66 : decode cX8_takePrice 66 = .ok (.istore_n 1, 1) := by decide +kernel
theorem dX8_takePrice_67 : decode cX8_takePrice 67 = .ok (.iload_n 1, 1) := by decide +kernel
theorem dX8_takePrice_68 : decode cX8_takePrice 68 = .ok (.ireturn, 1) := by decide +kernel
theorem dX8_takeClause_0 : decode cX8_takeClause 0 = .ok (.aload_n 0, 1) := by decide +kernel
theorem dX8_takeClause_1 : decode cX8_takeClause 1 = .ok (.invokevirtual 123, 3) := by decide +kernel
theorem dX8_takeClause_4 : decode cX8_takeClause 4 = .ok (.istore_n 1, 1) := by decide +kernel
theorem dX8_takeClause_5 : decode cX8_takeClause 5 = .ok (.iload_n 1, 1) := by decide +kernel
theorem dX8_takeClause_6 : decode cX8_takeClause 6 = .ok (.bipush 100, 2) := by decide +kernel
theorem dX8_takeClause_8 : decode cX8_takeClause 8 = .ok (.if_icmp .ne 7, 3) := by decide +kernel
theorem dX8_takeClause_11 : decode cX8_takeClause 11 = .ok (.iconst 0, 1) := by decide +kernel
theorem dX8_takeClause_12 : decode cX8_takeClause 12 = .ok (.goto 34, 3) := by decide +kernel
theorem dX8_takeClause_15 : decode cX8_takeClause 15 = .ok (.iload_n 1, 1) := by decide +kernel
theorem dX8_takeClause_16 : decode cX8_takeClause 16 = .ok (.bipush 99, 2) := by decide +kernel
theorem dX8_takeClause_18 : decode cX8_takeClause 18 = .ok (.if_icmp .ne 7, 3) := by decide +kernel
theorem dX8_takeClause_21 : decode cX8_takeClause 21 = .ok (.iconst 1, 1) := by decide +kernel
theorem dX8_takeClause_22 : decode cX8_takeClause 22 = .ok (.goto 24, 3) := by decide +kernel
theorem dX8_takeClause_25 : decode cX8_takeClause 25 = .ok (.iload_n 1, 1) := by decide +kernel
theorem dX8_takeClause_26 : decode cX8_takeClause 26 = .ok (.bipush 116, 2) := by decide +kernel
theorem dX8_takeClause_28 : decode cX8_takeClause 28 = .ok (.if_icmp .ne 7, 3) := by decide +kernel
theorem dX8_takeClause_31 : decode cX8_takeClause 31 = .ok (.iconst 2, 1) := by decide +kernel
theorem dX8_takeClause_32 : decode cX8_takeClause 32 = .ok (.goto 14, 3) := by decide +kernel
theorem dX8_takeClause_35 : decode cX8_takeClause 35 = .ok (.iload_n 1, 1) := by decide +kernel
theorem dX8_takeClause_36 : decode cX8_takeClause 36 = .ok (.bipush 112, 2) := by decide +kernel
theorem dX8_takeClause_38 : decode cX8_takeClause 38 = .ok (.if_icmp .ne 7, 3) := by decide +kernel
theorem dX8_takeClause_41 : decode cX8_takeClause 41 = .ok (.iconst 3, 1) := by decide +kernel
theorem dX8_takeClause_42 : decode cX8_takeClause 42 = .ok (.goto 4, 3) := by decide +kernel
theorem dX8_takeClause_45 : decode cX8_takeClause 45 = .ok (.iconst (-1), 1) := by decide +kernel
theorem dX8_takeClause_46 : decode cX8_takeClause 46 = .ok (.istore_n 2, 1) := by decide +kernel
theorem dX8_takeClause_47 : decode cX8_takeClause 47 = .ok (.iload_n 2, 1) := by decide +kernel
theorem dX8_takeClause_48 : decode cX8_takeClause 48 = .ok (.ifCond .lt 14, 3) := by decide +kernel
theorem dX8_takeClause_51 : decode cX8_takeClause 51 = .ok (.iload_n 2, 1) := by decide +kernel
theorem dX8_takeClause_52 : decode cX8_takeClause 52 = .ok (.ifCond .le 20, 3) := by decide +kernel
theorem dX8_takeClause_55 : decode cX8_takeClause 55 = .ok (.aload_n 0, 1) := by decide +kernel
theorem dX8_takeClause_56 : decode cX8_takeClause 56 = .ok (.getfield 144, 3) := by decide +kernel
theorem dX8_takeClause_59 : decode cX8_takeClause 59 = .ok (.ifCond .ne 13, 3) := by decide +kernel
theorem dX8_takeClause_62 : decode cX8_takeClause 62 = .ok (.aload_n 0, 1) := by decide +kernel
theorem dX8_takeClause_63 : decode cX8_takeClause 63 = .ok (.iconst 1, 1) := by decide +kernel
theorem dX8_takeClause_64 : decode cX8_takeClause 64 = .ok (.aload_n 0, 1) := by decide +kernel
theorem dX8_takeClause_65 : decode cX8_takeClause 65 = .ok (.getfield 120, 3) := by decide +kernel
theorem dX8_takeClause_68 : decode cX8_takeClause 68 = .ok (.invokevirtual 131, 3) := by decide +kernel
theorem dX8_takeClause_71 : decode cX8_takeClause 71 = .ok (.ireturn, 1) := by decide +kernel
theorem dX8_takeClause_72 : decode cX8_takeClause 72 = .ok (.iload_n 2, 1) := by decide +kernel
theorem dX8_takeClause_73 : decode cX8_takeClause 73 = .ok (.ifCond .ne 10, 3) := by decide +kernel
theorem dX8_takeClause_76 : decode cX8_takeClause 76 = .ok (.aload_n 0, 1) := by decide +kernel
theorem dX8_takeClause_77 : decode cX8_takeClause 77 = .ok (.getfield 144, 3) := by decide +kernel
theorem dX8_takeClause_80 : decode cX8_takeClause 80 = .ok (.goto 42, 3) := by decide +kernel
theorem dX8_takeClause_83 : decode cX8_takeClause 83 = .ok (.iload_n 2, 1) := by decide +kernel
theorem dX8_takeClause_84 : decode cX8_takeClause 84 = .ok (.iconst 1, 1) := by decide +kernel
theorem dX8_takeClause_85 : decode cX8_takeClause 85 = .ok (.if_icmp .ne 19, 3) := by decide +kernel
theorem dX8_takeClause_88 : decode cX8_takeClause 88 = .ok (.aload_n 0, 1) := by decide +kernel
theorem dX8_takeClause_89 : decode cX8_takeClause 89 = .ok (.getfield 151, 3) := by decide +kernel
theorem dX8_takeClause_92 : decode cX8_takeClause 92 = .ok (.iconst 4, 1) := by decide +kernel
theorem dX8_takeClause_93 : decode cX8_takeClause 93 = .ok (.if_icmp .ne 7, 3) := by decide +kernel
theorem dX8_takeClause_96 : decode cX8_takeClause 96 = .ok (.iconst 1, 1) := by decide +kernel
theorem dX8_takeClause_97 : decode cX8_takeClause 97 = .ok (.goto 25, 3) := by decide +kernel
theorem dX8_takeClause_100 : decode cX8_takeClause 100 = .ok (.iconst 0, 1) := by decide +kernel
theorem dX8_takeClause_101 : decode cX8_takeClause 101 = .ok (.goto 21, 3) := by decide +kernel
theorem dX8_takeClause_104 : decode cX8_takeClause 104 = .ok (.iload_n 2, 1) := by decide +kernel
theorem dX8_takeClause_105 : decode cX8_takeClause 105 = .ok (.iconst 2, 1) := by decide +kernel
theorem dX8_takeClause_106 : decode cX8_takeClause 106 = .ok (.if_icmp .ne 15, 3) := by decide +kernel
theorem dX8_takeClause_109 : decode cX8_takeClause 109 = .ok (.aload_n 0, 1) := by decide +kernel
theorem dX8_takeClause_110 : decode cX8_takeClause 110 = .ok (.getfield 154, 3) := by decide +kernel
theorem dX8_takeClause_113 : decode cX8_takeClause 113 = .ok (.iconst 4, 1) := by decide +kernel
theorem dX8_takeClause_114 : decode cX8_takeClause 114 = .ok (.if_icmp .ne 7, 3) := by decide +kernel
theorem dX8_takeClause_117 : decode cX8_takeClause 117 = .ok (.iconst 1, 1) := by decide +kernel
theorem dX8_takeClause_118 : decode cX8_takeClause 118 = .ok (.goto 4, 3) := by decide +kernel
theorem dX8_takeClause_121 : decode cX8_takeClause 121 = .ok (.iconst 0, 1) := by decide +kernel
theorem dX8_takeClause_122 : decode cX8_takeClause 122 = .ok (.istore_n 3, 1) := by decide +kernel
theorem dX8_takeClause_123 : decode cX8_takeClause 123 = .ok (.iload_n 3, 1) := by decide +kernel
theorem dX8_takeClause_124 : decode cX8_takeClause 124 = .ok (.ifCond .eq 13, 3) := by decide +kernel
theorem dX8_takeClause_127 : decode cX8_takeClause 127 = .ok (.aload_n 0, 1) := by decide +kernel
theorem dX8_takeClause_128 : decode cX8_takeClause 128 = .ok (.iconst 3, 1) := by decide +kernel
theorem dX8_takeClause_129 : decode cX8_takeClause 129 = .ok (.aload_n 0, 1) := by decide +kernel
theorem dX8_takeClause_130 : decode cX8_takeClause 130 = .ok (.getfield 120, 3) := by decide +kernel
theorem dX8_takeClause_133 : decode cX8_takeClause 133 = .ok (.invokevirtual 131, 3) := by decide +kernel
theorem dX8_takeClause_136 : decode cX8_takeClause 136 = .ok (.ireturn, 1) := by decide +kernel
theorem dX8_takeClause_137 : decode cX8_takeClause 137 = .ok (.aload_n 0, 1) := by decide +kernel
theorem dX8_takeClause_138 : decode cX8_takeClause 138 = .ok (.dup, 1) := by decide +kernel
theorem dX8_takeClause_139 : decode cX8_takeClause 139 = .ok (.getfield 120, 3) := by decide +kernel
theorem dX8_takeClause_142 : decode cX8_takeClause 142 = .ok (.iconst 1, 1) := by decide +kernel
theorem dX8_takeClause_143 : decode cX8_takeClause 143 = .ok (.iadd, 1) := by decide +kernel
theorem dX8_takeClause_144 : decode cX8_takeClause 144 = .ok (.putfield 120, 3) := by decide +kernel
theorem dX8_takeClause_147 : decode cX8_takeClause 147 = .ok (.iload_n 2, 1) := by decide +kernel
theorem dX8_takeClause_148 : decode cX8_takeClause 148 = .ok (.ifCond .ne 10, 3) := by decide +kernel
theorem dX8_takeClause_151 : decode cX8_takeClause 151 = .ok (.aload_n 0, 1) := by decide +kernel
theorem dX8_takeClause_152 : decode cX8_takeClause 152 = .ok (.invokevirtual 160, 3) := by decide +kernel
theorem dX8_takeClause_155 : decode cX8_takeClause 155 = .ok (.goto 31, 3) := by decide +kernel
theorem dX8_takeClause_158 : decode cX8_takeClause 158 = .ok (.iload_n 2, 1) := by decide +kernel
theorem dX8_takeClause_159 : decode cX8_takeClause 159 = .ok (.iconst 1, 1) := by decide +kernel
theorem dX8_takeClause_160 : decode cX8_takeClause 160 = .ok (.if_icmp .ne 10, 3) := by decide +kernel
theorem dX8_takeClause_163 : decode cX8_takeClause 163 = .ok (.aload_n 0, 1) := by decide +kernel
theorem dX8_takeClause_164 : decode cX8_takeClause 164 = .ok (.invokevirtual 163, 3) := by decide +kernel
theorem dX8_takeClause_167 : decode cX8_takeClause 167 = .ok (.goto 19, 3) := by decide +kernel
theorem dX8_takeClause_170 : decode cX8_takeClause 170 = .ok (.iload_n 2, 1) := by decide +kernel
theorem dX8_takeClause_171 : decode cX8_takeClause 171 = .ok (.iconst 2, 1) := by decide +kernel
theorem dX8_takeClause_172 : decode cX8_takeClause 172 = .ok (.if_icmp .ne 10, 3) := by decide +kernel
theorem dX8_takeClause_175 : decode cX8_takeClause 175 = .ok (.aload_n 0, 1) := by decide +kernel
theorem dX8_takeClause_176 : decode cX8_takeClause 176 = .ok (.invokevirtual 166, 3) := by decide +kernel
theorem dX8_takeClause_179 : decode cX8_takeClause 179 = .ok (.goto 7, 3) := by decide +kernel
theorem dX8_takeClause_182 : decode cX8_takeClause 182 = .ok (.aload_n 0, 1) := by decide +kernel
theorem dX8_takeClause_183 : decode cX8_takeClause 183 = .ok (.invokevirtual 169, 3) := by decide +kernel
theorem dX8_takeClause_186 : decode cX8_takeClause 186 = .ok (.istore 4, 2) := by decide +kernel
theorem dX8_takeClause_188 : decode cX8_takeClause 188 = .ok (.iload 4, 2) := by decide +kernel
theorem dX8_takeClause_190 : decode cX8_takeClause 190 = .ok (.ifCond .ne 22, 3) := by decide +kernel
theorem dX8_takeClause_193 : decode cX8_takeClause 193 = .ok (.aload_n 0, 1) := by decide +kernel
theorem dX8_takeClause_194 : decode cX8_takeClause 194 = .ok (.invokevirtual 123, 3) := by decide +kernel
theorem dX8_takeClause_197 : decode cX8_takeClause 197 = .ok (.bipush 59, 2) := by decide +kernel
theorem dX8_takeClause_199 : decode cX8_takeClause 199 = .ok (.if_icmp .eq 13, 3) := by decide +kernel
theorem dX8_takeClause_202 : decode cX8_takeClause 202 = .ok (.aload_n 0, 1) := by decide +kernel
theorem dX8_takeClause_203 : decode cX8_takeClause 203 = .ok (.iconst 1, 1) := by decide +kernel
theorem dX8_takeClause_204 : decode cX8_takeClause 204 = .ok (.aload_n 0, 1) := by decide +kernel
theorem dX8_takeClause_205 : decode cX8_takeClause 205 = .ok (.getfield 120, 3) := by decide +kernel
theorem dX8_takeClause_208 : decode cX8_takeClause 208 = .ok (.invokevirtual 131, 3) := by decide +kernel
theorem dX8_takeClause_211 : decode cX8_takeClause 211 = .ok (.ireturn, 1) := by decide +kernel
theorem dX8_takeClause_212 : decode cX8_takeClause 212 = .ok (.aload_n 0, 1) := by decide +kernel
theorem dX8_takeClause_213 : decode cX8_takeClause 213 = .ok (.dup, 1) := by decide +kernel
theorem dX8_takeClause_214 : decode cX8_takeClause 214 = .ok (.getfield 120, 3) := by decide +kernel
theorem dX8_takeClause_217 : decode cX8_takeClause 217 = .ok (.iconst 1, 1) := by decide +kernel
theorem dX8_takeClause_218 : decode cX8_takeClause 218 = .ok (.iadd, 1) := by decide +kernel
theorem dX8_takeClause_219 : decode cX8_takeClause 219 = .ok (.putfield 120, 3) := by decide +kernel
theorem dX8_takeClause_222 : decode cX8_takeClause 222 = .ok (.iload 4, 2) := by decide +kernel
theorem dX8_takeClause_224 : decode cX8_takeClause 224 = .ok (.ireturn, 1) := by decide +kernel
theorem dX8_takeRead_0 : decode cX8_takeRead 0 = .ok (.aload_n 0, 1) := by decide +kernel
theorem dX8_takeRead_1 : decode cX8_takeRead 1 = .ok (.aload_n 0, 1) := by decide +kernel
theorem dX8_takeRead_2 : decode cX8_takeRead 2 = .ok (.getfield 144, 3) := by decide +kernel
theorem dX8_takeRead_5 : decode cX8_takeRead 5 = .ok (.putfield 103, 3) := by decide +kernel
theorem dX8_takeRead_8 : decode cX8_takeRead 8 = .ok (.aload_n 0, 1) := by decide +kernel
theorem dX8_takeRead_9 : decode cX8_takeRead 9 = .ok (.aload_n 0, 1) := by decide +kernel
theorem dX8_takeRead_10 : decode cX8_takeRead 10 = .ok (.getfield 144, 3) := by decide +kernel
theorem dX8_takeRead_13 : decode cX8_takeRead 13 = .ok (.ifCond .eq 12, 3) := by decide +kernel
theorem dX8_takeRead_16 : decode cX8_takeRead 16 = .ok (.aload_n 0, 1) := by decide +kernel
theorem dX8_takeRead_17 : decode cX8_takeRead 17 = .ok (.getfield 29, 3) := by decide +kernel
theorem dX8_takeRead_20 : decode cX8_takeRead 20 = .ok (.iconst 0, 1) := by decide +kernel
theorem dX8_takeRead_21 : decode cX8_takeRead 21 = .ok (.iaload, 1) := by decide +kernel
theorem dX8_takeRead_22 : decode cX8_takeRead 22 = .ok (.goto 4, 3) := by decide +kernel
theorem dX8_takeRead_25 : decode cX8_takeRead 25 = .ok (.iconst 0, 1) := by decide +kernel
theorem dX8_takeRead_26 : decode cX8_takeRead 26 = .ok (.putfield 107, 3) := by decide +kernel
theorem dX8_takeRead_29 : decode cX8_takeRead 29 = .ok (.aload_n 0, 1) := by decide +kernel
theorem dX8_takeRead_30 : decode cX8_takeRead 30 = .ok (.aload_n 0, 1) := by decide +kernel
theorem dX8_takeRead_31 : decode cX8_takeRead 31 = .ok (.getfield 144, 3) := by decide +kernel
theorem dX8_takeRead_34 : decode cX8_takeRead 34 = .ok (.ifCond .eq 12, 3) := by decide +kernel
theorem dX8_takeRead_37 : decode cX8_takeRead 37 = .ok (.aload_n 0, 1) := by decide +kernel
theorem dX8_takeRead_38 : decode cX8_takeRead 38 = .ok (.getfield 29, 3) := by decide +kernel
theorem dX8_takeRead_41 : decode cX8_takeRead 41 = .ok (.iconst 1, 1) := by decide +kernel
theorem dX8_takeRead_42 : decode cX8_takeRead 42 = .ok (.iaload, 1) := by decide +kernel
theorem dX8_takeRead_43 : decode cX8_takeRead 43 = .ok (.goto 4, 3) := by decide +kernel
theorem dX8_takeRead_46 : decode cX8_takeRead 46 = .ok (.iconst 0, 1) := by decide +kernel
theorem dX8_takeRead_47 : decode cX8_takeRead 47 = .ok (.putfield 110, 3) := by decide +kernel
theorem dX8_takeRead_50 : decode cX8_takeRead 50 = .ok (.aload_n 0, 1) := by decide +kernel
theorem dX8_takeRead_51 : decode cX8_takeRead 51 = .ok (.aload_n 0, 1) := by decide +kernel
theorem dX8_takeRead_52 : decode cX8_takeRead 52 = .ok (.getfield 144, 3) := by decide +kernel
theorem dX8_takeRead_55 : decode cX8_takeRead 55 = .ok (.ifCond .eq 12, 3) := by decide +kernel
theorem dX8_takeRead_58 : decode cX8_takeRead 58 = .ok (.aload_n 0, 1) := by decide +kernel
theorem dX8_takeRead_59 : decode cX8_takeRead 59 = .ok (.getfield 29, 3) := by decide +kernel
theorem dX8_takeRead_62 : decode cX8_takeRead 62 = .ok (.iconst 2, 1) := by decide +kernel
theorem dX8_takeRead_63 : decode cX8_takeRead 63 = .ok (.iaload, 1) := by decide +kernel
theorem dX8_takeRead_64 : decode cX8_takeRead 64 = .ok (.goto 4, 3) := by decide +kernel
theorem dX8_takeRead_67 : decode cX8_takeRead 67 = .ok (.iconst 0, 1) := by decide +kernel
theorem dX8_takeRead_68 : decode cX8_takeRead 68 = .ok (.putfield 172, 3) := by decide +kernel
theorem dX8_takeRead_71 : decode cX8_takeRead 71 = .ok (.aload_n 0, 1) := by decide +kernel
theorem dX8_takeRead_72 : decode cX8_takeRead 72 = .ok (.aload_n 0, 1) := by decide +kernel
theorem dX8_takeRead_73 : decode cX8_takeRead 73 = .ok (.getfield 151, 3) := by decide +kernel
theorem dX8_takeRead_76 : decode cX8_takeRead 76 = .ok (.putfield 90, 3) := by decide +kernel
theorem dX8_takeRead_79 : decode cX8_takeRead 79 = .ok (.iconst 0, 1) := by decide +kernel
theorem dX8_takeRead_80 : decode cX8_takeRead 80 = .ok (.istore_n 1, 1) := by decide +kernel
theorem dX8_takeRead_81 : decode cX8_takeRead 81 = .ok (.iload_n 1, 1) := by decide +kernel
theorem dX8_takeRead_82 : decode cX8_takeRead 82 = .ok (.bipush 24, 2) := by decide +kernel
theorem dX8_takeRead_84 : decode cX8_takeRead 84 = .ok (.if_icmp .ge 52, 3) := by decide +kernel
theorem dX8_takeRead_87 : decode cX8_takeRead 87 = .ok (.aload_n 0, 1) := by decide +kernel
theorem dX8_takeRead_88 : decode cX8_takeRead 88 = .ok (.getfield 19, 3) := by decide +kernel
theorem dX8_takeRead_91 : decode cX8_takeRead 91 = .ok (.iload_n 1, 1) := by decide +kernel
theorem dX8_takeRead_92 : decode cX8_takeRead 92 = .ok (.iload_n 1, 1) := by decide +kernel
theorem dX8_takeRead_93 : decode cX8_takeRead 93 = .ok (.bipush 6, 2) := by decide +kernel
theorem dX8_takeRead_95 : decode cX8_takeRead 95 = .ok (.idiv, 1) := by decide +kernel
theorem dX8_takeRead_96 : decode cX8_takeRead 96 = .ok (.aload_n 0, 1) := by decide +kernel
theorem dX8_takeRead_97 : decode cX8_takeRead 97 = .ok (.getfield 90, 3) := by decide +kernel
theorem dX8_takeRead_100 : decode cX8_takeRead 100 = .ok (.if_icmp .ge 28, 3) := by decide +kernel
theorem dX8_takeRead_103 : decode cX8_takeRead 103 = .ok (.iload_n 1, 1) := by decide +kernel
theorem dX8_takeRead_104 : decode cX8_takeRead 104 = .ok (.bipush 6, 2) := by decide +kernel
theorem dX8_takeRead_106 : decode cX8_takeRead 106 = .ok (.irem, 1) := by decide +kernel
theorem dX8_takeRead_107 : decode cX8_takeRead 107 = .ok (.aload_n 0, 1) := by decide +kernel
theorem dX8_takeRead_108 : decode cX8_takeRead 108 = .ok (.getfield 32, 3) := by decide +kernel
theorem dX8_takeRead_111 : decode cX8_takeRead 111 = .ok (.iload_n 1, 1) := by decide +kernel
theorem dX8_takeRead_112 : decode cX8_takeRead 112 = .ok (.bipush 6, 2) := by decide +kernel
theorem dX8_takeRead_114 : decode cX8_takeRead 114 = .ok (.idiv, 1) := by decide +kernel
theorem dX8_takeRead_115 : decode cX8_takeRead 115 = .ok (.iaload, 1) := by decide +kernel
theorem dX8_takeRead_116 : decode cX8_takeRead 116 = .ok (.if_icmp .ge 12, 3) := by decide +kernel
theorem dX8_takeRead_119 : decode cX8_takeRead 119 = .ok (.aload_n 0, 1) := by decide +kernel
theorem dX8_takeRead_120 : decode cX8_takeRead 120 = .ok (.getfield 35, 3) := by decide +kernel
theorem dX8_takeRead_123 : decode cX8_takeRead 123 = .ok (.iload_n 1, 1) := by decide +kernel
theorem dX8_takeRead_124 : decode cX8_takeRead 124 = .ok (.iaload, 1) := by decide +kernel
theorem dX8_takeRead_125 : decode cX8_takeRead 125 = .ok (.goto 4, 3) := by decide +kernel
theorem dX8_takeRead_128 : decode cX8_takeRead 128 = .ok (.iconst 0, 1) := by decide +kernel
theorem dX8_takeRead_129 : decode cX8_takeRead 129 = .ok (.iastore, 1) := by decide +kernel
theorem dX8_takeRead_130 : decode cX8_takeRead 130 = .ok (.iinc 1 1, 3) := by decide +kernel
theorem dX8_takeRead_133 : decode cX8_takeRead 133 = .ok (.goto (-52), 3) := by decide +kernel
theorem dX8_takeRead_136 : decode cX8_takeRead 136 = .ok (.aload_n 0, 1) := by decide +kernel
theorem dX8_takeRead_137 : decode cX8_takeRead 137 = .ok (.getfield 19, 3) := by decide +kernel
theorem dX8_takeRead_140 : decode cX8_takeRead 140 = .ok (.bipush 24, 2) := by decide +kernel
theorem dX8_takeRead_142 : decode cX8_takeRead 142 = .ok (.iconst 0, 1) := by decide +kernel
theorem dX8_takeRead_143 : decode cX8_takeRead 143 = .ok (.iastore, 1) := by decide +kernel
theorem dX8_takeRead_144 : decode cX8_takeRead 144 = .ok (.aload_n 0, 1) := by decide +kernel
theorem dX8_takeRead_145 : decode cX8_takeRead 145 = .ok (.getfield 19, 3) := by decide +kernel
theorem dX8_takeRead_148 : decode cX8_takeRead 148 = .ok (.bipush 25, 2) := by decide +kernel
theorem dX8_takeRead_150 : decode cX8_takeRead 150 = .ok (.iconst 0, 1) := by decide +kernel
theorem dX8_takeRead_151 : decode cX8_takeRead 151 = .ok (.iastore, 1) := by decide +kernel
theorem dX8_takeRead_152 : decode cX8_takeRead 152 = .ok (.iconst 0, 1) := by decide +kernel
theorem dX8_takeRead_153 : decode cX8_takeRead 153 = .ok (.istore_n 1, 1) := by decide +kernel
theorem dX8_takeRead_154 : decode cX8_takeRead 154 = .ok (.iload_n 1, 1) := by decide +kernel
theorem dX8_takeRead_155 : decode cX8_takeRead 155 = .ok (.aload_n 0, 1) := by decide +kernel
theorem dX8_takeRead_156 : decode cX8_takeRead 156 = .ok (.getfield 90, 3) := by decide +kernel
theorem dX8_takeRead_159 : decode cX8_takeRead 159 = .ok (.if_icmp .ge 21, 3) := by decide +kernel
theorem dX8_takeRead_162 : decode cX8_takeRead 162 = .ok (.aload_n 0, 1) := by decide +kernel
theorem dX8_takeRead_163 : decode cX8_takeRead 163 = .ok (.getfield 7, 3) := by decide +kernel
theorem dX8_takeRead_166 : decode cX8_takeRead 166 = .ok (.iload_n 1, 1) := by decide +kernel
theorem dX8_takeRead_167 : decode cX8_takeRead 167 = .ok (.aload_n 0, 1) := by decide +kernel
theorem dX8_takeRead_168 : decode cX8_takeRead 168 = .ok (.getfield 32, 3) := by decide +kernel
theorem dX8_takeRead_171 : decode cX8_takeRead 171 = .ok (.iload_n 1, 1) := by decide +kernel
theorem dX8_takeRead_172 : decode cX8_takeRead 172 = .ok (.iaload, 1) := by decide +kernel
theorem dX8_takeRead_173 : decode cX8_takeRead 173 = .ok (.iastore, 1) := by decide +kernel
theorem dX8_takeRead_174 : decode cX8_takeRead 174 = .ok (.iinc 1 1, 3) := by decide +kernel
theorem dX8_takeRead_177 : decode cX8_takeRead 177 = .ok (.goto (-23), 3) := by decide +kernel
theorem dX8_takeRead_180 : decode cX8_takeRead 180 = .ok (.iconst 0, 1) := by decide +kernel
theorem dX8_takeRead_181 : decode cX8_takeRead 181 = .ok (.istore_n 1, 1) := by decide +kernel
theorem dX8_takeRead_182 : decode cX8_takeRead 182 = .ok (.iload_n 1, 1) := by decide +kernel
theorem dX8_takeRead_183 : decode cX8_takeRead 183 = .ok (.bipush 10, 2) := by decide +kernel
theorem dX8_takeRead_185 : decode cX8_takeRead 185 = .ok (.if_icmp .ge 33, 3) := by decide +kernel
theorem dX8_takeRead_188 : decode cX8_takeRead 188 = .ok (.aload_n 0, 1) := by decide +kernel
theorem dX8_takeRead_189 : decode cX8_takeRead 189 = .ok (.getfield 13, 3) := by decide +kernel
theorem dX8_takeRead_192 : decode cX8_takeRead 192 = .ok (.iload_n 1, 1) := by decide +kernel
theorem dX8_takeRead_193 : decode cX8_takeRead 193 = .ok (.aload_n 0, 1) := by decide +kernel
theorem dX8_takeRead_194 : decode cX8_takeRead 194 = .ok (.getfield 38, 3) := by decide +kernel
theorem dX8_takeRead_197 : decode cX8_takeRead 197 = .ok (.iload_n 1, 1) := by decide +kernel
theorem dX8_takeRead_198 : decode cX8_takeRead 198 = .ok (.iaload, 1) := by decide +kernel
theorem dX8_takeRead_199 : decode cX8_takeRead 199 = .ok (.iastore, 1) := by decide +kernel
theorem dX8_takeRead_200 : decode cX8_takeRead 200 = .ok (.aload_n 0, 1) := by decide +kernel
theorem dX8_takeRead_201 : decode cX8_takeRead 201 = .ok (.getfield 16, 3) := by decide +kernel
theorem dX8_takeRead_204 : decode cX8_takeRead 204 = .ok (.iload_n 1, 1) := by decide +kernel
theorem dX8_takeRead_205 : decode cX8_takeRead 205 = .ok (.aload_n 0, 1) := by decide +kernel
theorem dX8_takeRead_206 : decode cX8_takeRead 206 = .ok (.getfield 41, 3) := by decide +kernel
theorem dX8_takeRead_209 : decode cX8_takeRead 209 = .ok (.iload_n 1, 1) := by decide +kernel
theorem dX8_takeRead_210 : decode cX8_takeRead 210 = .ok (.iaload, 1) := by decide +kernel
theorem dX8_takeRead_211 : decode cX8_takeRead 211 = .ok (.iastore, 1) := by decide +kernel
theorem dX8_takeRead_212 : decode cX8_takeRead 212 = .ok (.iinc 1 1, 3) := by decide +kernel
theorem dX8_takeRead_215 : decode cX8_takeRead 215 = .ok (.goto (-33), 3) := by decide +kernel
theorem dX8_takeRead_218 : decode cX8_takeRead 218 = .ok (.aload_n 0, 1) := by decide +kernel
theorem dX8_takeRead_219 : decode cX8_takeRead 219 = .ok (.invokevirtual 175, 3) := by decide +kernel
theorem dX8_takeRead_222 : decode cX8_takeRead 222 = .ok (.return_, 1) := by decide +kernel
theorem dX8_desk_0 : decode cX8_desk 0 = .ok (.aload_n 0, 1) := by decide +kernel
theorem dX8_desk_1 : decode cX8_desk 1 = .ok (.iconst (-1), 1) := by decide +kernel
theorem dX8_desk_2 : decode cX8_desk 2 = .ok (.putfield 25, 3) := by decide +kernel
theorem dX8_desk_5 : decode cX8_desk 5 = .ok (.aload_n 0, 1) := by decide +kernel
theorem dX8_desk_6 : decode cX8_desk 6 = .ok (.iconst 0, 1) := by decide +kernel
theorem dX8_desk_7 : decode cX8_desk 7 = .ok (.putfield 120, 3) := by decide +kernel
theorem dX8_desk_10 : decode cX8_desk 10 = .ok (.aload_n 0, 1) := by decide +kernel
theorem dX8_desk_11 : decode cX8_desk 11 = .ok (.iconst 0, 1) := by decide +kernel
theorem dX8_desk_12 : decode cX8_desk 12 = .ok (.putfield 144, 3) := by decide +kernel
theorem dX8_desk_15 : decode cX8_desk 15 = .ok (.aload_n 0, 1) := by decide +kernel
theorem dX8_desk_16 : decode cX8_desk 16 = .ok (.iconst 0, 1) := by decide +kernel
theorem dX8_desk_17 : decode cX8_desk 17 = .ok (.putfield 151, 3) := by decide +kernel
theorem dX8_desk_20 : decode cX8_desk 20 = .ok (.aload_n 0, 1) := by decide +kernel
theorem dX8_desk_21 : decode cX8_desk 21 = .ok (.iconst 0, 1) := by decide +kernel
theorem dX8_desk_22 : decode cX8_desk 22 = .ok (.putfield 154, 3) := by decide +kernel
theorem dX8_desk_25 : decode cX8_desk 25 = .ok (.aload_n 0, 1) := by decide +kernel
theorem dX8_desk_26 : decode cX8_desk 26 = .ok (.iconst 0, 1) := by decide +kernel
theorem dX8_desk_27 : decode cX8_desk 27 = .ok (.putfield 157, 3) := by decide +kernel
theorem dX8_desk_30 : decode cX8_desk 30 = .ok (.iconst 0, 1) := by decide +kernel
theorem dX8_desk_31 : decode cX8_desk 31 = .ok (.istore_n 1, 1) := by decide +kernel
theorem dX8_desk_32 : decode cX8_desk 32 = .ok (.iload_n 1, 1) := by decide +kernel
theorem dX8_desk_33 : decode cX8_desk 33 = .ok (.bipush 10, 2) := by decide +kernel
theorem dX8_desk_35 : decode cX8_desk 35 = .ok (.if_icmp .ge 23, 3) := by decide +kernel
theorem dX8_desk_38 : decode cX8_desk 38 = .ok (.aload_n 0, 1) := by decide +kernel
theorem dX8_desk_39 : decode cX8_desk 39 = .ok (.getfield 38, 3) := by decide +kernel
theorem dX8_desk_42 : decode cX8_desk 42 = .ok (.iload_n 1, 1) := by decide +kernel
theorem dX8_desk_43 : decode cX8_desk 43 = .ok (.iload_n 1, 1) := by decide +kernel
theorem dX8_desk_44 : decode cX8_desk 44 = .ok (.iastore, 1) := by decide +kernel
theorem dX8_desk_45 : decode cX8_desk 45 = .ok (.aload_n 0, 1) := by decide +kernel
theorem dX8_desk_46 : decode cX8_desk 46 = .ok (.getfield 41, 3) := by decide +kernel
theorem dX8_desk_49 : decode cX8_desk 49 = .ok (.iload_n 1, 1) := by decide +kernel
theorem dX8_desk_50 : decode cX8_desk 50 = .ok (.iconst 1, 1) := by decide +kernel
theorem dX8_desk_51 : decode cX8_desk 51 = .ok (.iastore, 1) := by decide +kernel
theorem dX8_desk_52 : decode cX8_desk 52 = .ok (.iinc 1 1, 3) := by decide +kernel
theorem dX8_desk_55 : decode cX8_desk 55 = .ok (.goto (-23), 3) := by decide +kernel
theorem dX8_desk_58 : decode cX8_desk 58 = .ok (.iconst 0, 1) := by decide +kernel
theorem dX8_desk_59 : decode cX8_desk 59 = .ok (.istore_n 1, 1) := by decide +kernel
theorem dX8_desk_60 : decode cX8_desk 60 = .ok (.iload_n 1, 1) := by decide +kernel
theorem dX8_desk_61 : decode cX8_desk 61 = .ok (.ifCond .ne 18, 3) := by decide +kernel
theorem dX8_desk_64 : decode cX8_desk 64 = .ok (.aload_n 0, 1) := by decide +kernel
theorem dX8_desk_65 : decode cX8_desk 65 = .ok (.invokevirtual 123, 3) := by decide +kernel
theorem dX8_desk_68 : decode cX8_desk 68 = .ok (.ifCond .lt 11, 3) := by decide +kernel
theorem dX8_desk_71 : decode cX8_desk 71 = .ok (.aload_n 0, 1) := by decide +kernel
theorem dX8_desk_72 : decode cX8_desk 72 = .ok (.invokevirtual 178, 3) := by decide +kernel
theorem dX8_desk_75 : decode cX8_desk 75 = .ok (.istore_n 1, 1) := by decide +kernel
theorem dX8_desk_76 : decode cX8_desk 76 = .ok (.goto (-16), 3) := by decide +kernel
theorem dX8_desk_79 : decode cX8_desk 79 = .ok (.aload_n 0, 1) := by decide +kernel
theorem dX8_desk_80 : decode cX8_desk 80 = .ok (.iconst 0, 1) := by decide +kernel
theorem dX8_desk_81 : decode cX8_desk 81 = .ok (.putfield 116, 3) := by decide +kernel
theorem dX8_desk_84 : decode cX8_desk 84 = .ok (.iload_n 1, 1) := by decide +kernel
theorem dX8_desk_85 : decode cX8_desk 85 = .ok (.ifCond .le 8, 3) := by decide +kernel
theorem dX8_desk_88 : decode cX8_desk 88 = .ok (.bipush (-10), 2) := by decide +kernel
theorem dX8_desk_90 : decode cX8_desk 90 = .ok (.iload_n 1, 1) := by decide +kernel
theorem dX8_desk_91 : decode cX8_desk 91 = .ok (.isub, 1) := by decide +kernel
theorem dX8_desk_92 : decode cX8_desk 92 = .ok (.ireturn, 1) := by decide +kernel
theorem dX8_desk_93 : decode cX8_desk 93 = .ok (.aload_n 0, 1) := by decide +kernel
theorem dX8_desk_94 : decode cX8_desk 94 = .ok (.invokevirtual 181, 3) := by decide +kernel
theorem dX8_desk_97 : decode cX8_desk 97 = .ok (.aload_n 0, 1) := by decide +kernel
theorem dX8_desk_98 : decode cX8_desk 98 = .ok (.iconst 0, 1) := by decide +kernel
theorem dX8_desk_99 : decode cX8_desk 99 = .ok (.putfield 184, 3) := by decide +kernel
theorem dX8_desk_102 : decode cX8_desk 102 = .ok (.aload_n 0, 1) := by decide +kernel
theorem dX8_desk_103 : decode cX8_desk 103 = .ok (.iconst 0, 1) := by decide +kernel
theorem dX8_desk_104 : decode cX8_desk 104 = .ok (.putfield 187, 3) := by decide +kernel
theorem dX8_desk_107 : decode cX8_desk 107 = .ok (.aload_n 0, 1) := by decide +kernel
theorem dX8_desk_108 : decode cX8_desk 108 = .ok (.iconst 0, 1) := by decide +kernel
theorem dX8_desk_109 : decode cX8_desk 109 = .ok (.putfield 190, 3) := by decide +kernel
theorem dX8_desk_112 : decode cX8_desk 112 = .ok (.aload_n 0, 1) := by decide +kernel
theorem dX8_desk_113 : decode cX8_desk 113 = .ok (.getfield 87, 3) := by decide +kernel
theorem dX8_desk_116 : decode cX8_desk 116 = .ok (.iconst 0, 1) := by decide +kernel
theorem dX8_desk_117 : decode cX8_desk 117 = .ok (.iconst 0, 1) := by decide +kernel
theorem dX8_desk_118 : decode cX8_desk 118 = .ok (.bastore, 1) := by decide +kernel
theorem dX8_desk_119 : decode cX8_desk 119 = .ok (.aload_n 0, 1) := by decide +kernel
theorem dX8_desk_120 : decode cX8_desk 120 = .ok (.getfield 87, 3) := by decide +kernel
theorem dX8_desk_123 : decode cX8_desk 123 = .ok (.iconst 1, 1) := by decide +kernel
theorem dX8_desk_124 : decode cX8_desk 124 = .ok (.iconst 0, 1) := by decide +kernel
theorem dX8_desk_125 : decode cX8_desk 125 = .ok (.bastore, 1) := by decide +kernel
theorem dX8_desk_126 : decode cX8_desk 126 = .ok (.aload_n 0, 1) := by decide +kernel
theorem dX8_desk_127 : decode cX8_desk 127 = .ok (.getfield 90, 3) := by decide +kernel
theorem dX8_desk_130 : decode cX8_desk 130 = .ok (.ireturn, 1) := by decide +kernel
theorem dX8_fault_0 : decode cX8_fault 0 = .ok (.aload_n 0, 1) := by decide +kernel
theorem dX8_fault_1 : decode cX8_fault 1 = .ok (.getfield 25, 3) := by decide +kernel
theorem dX8_fault_4 : decode cX8_fault 4 = .ok (.ireturn, 1) := by decide +kernel
theorem dX8_told_0 : decode cX8_told 0 = .ok (.iload_n 1, 1) := by decide +kernel
theorem dX8_told_1 : decode cX8_told 1 = .ok (.tableswitch 128 0 10 #[59, 64, 69, 74, 79, 84, 92, 100, 105, 110, 115], 59) := by decide +kernel
theorem dX8_told_60 : decode cX8_told 60 = .ok (.aload_n 0, 1) := by decide +kernel
theorem dX8_told_61 : decode cX8_told 61 = .ok (.getfield 107, 3) := by decide +kernel
theorem dX8_told_64 : decode cX8_told 64 = .ok (.ireturn, 1) := by decide +kernel
theorem dX8_told_65 : decode cX8_told 65 = .ok (.aload_n 0, 1) := by decide +kernel
theorem dX8_told_66 : decode cX8_told 66 = .ok (.getfield 110, 3) := by decide +kernel
theorem dX8_told_69 : decode cX8_told 69 = .ok (.ireturn, 1) := by decide +kernel
theorem dX8_told_70 : decode cX8_told 70 = .ok (.aload_n 0, 1) := by decide +kernel
theorem dX8_told_71 : decode cX8_told 71 = .ok (.getfield 172, 3) := by decide +kernel
theorem dX8_told_74 : decode cX8_told 74 = .ok (.ireturn, 1) := by decide +kernel
theorem dX8_told_75 : decode cX8_told 75 = .ok (.aload_n 0, 1) := by decide +kernel
theorem dX8_told_76 : decode cX8_told 76 = .ok (.getfield 90, 3) := by decide +kernel
theorem dX8_told_79 : decode cX8_told 79 = .ok (.ireturn, 1) := by decide +kernel
theorem dX8_told_80 : decode cX8_told 80 = .ok (.aload_n 0, 1) := by decide +kernel
theorem dX8_told_81 : decode cX8_told 81 = .ok (.getfield 116, 3) := by decide +kernel
theorem dX8_told_84 : decode cX8_told 84 = .ok (.ireturn, 1) := by decide +kernel
theorem dX8_told_85 : decode cX8_told 85 = .ok (.aload_n 0, 1) := by decide +kernel
theorem dX8_told_86 : decode cX8_told 86 = .ok (.getfield 19, 3) := by decide +kernel
theorem dX8_told_89 : decode cX8_told 89 = .ok (.bipush 24, 2) := by decide +kernel
theorem dX8_told_91 : decode cX8_told 91 = .ok (.iaload, 1) := by decide +kernel
theorem dX8_told_92 : decode cX8_told 92 = .ok (.ireturn, 1) := by decide +kernel
theorem dX8_told_93 : decode cX8_told 93 = .ok (.aload_n 0, 1) := by decide +kernel
theorem dX8_told_94 : decode cX8_told 94 = .ok (.getfield 19, 3) := by decide +kernel
theorem dX8_told_97 : decode cX8_told 97 = .ok (.bipush 25, 2) := by decide +kernel
theorem dX8_told_99 : decode cX8_told 99 = .ok (.iaload, 1) := by decide +kernel
theorem dX8_told_100 : decode cX8_told 100 = .ok (.ireturn, 1) := by decide +kernel
theorem dX8_told_101 : decode cX8_told 101 = .ok (.aload_n 0, 1) := by decide +kernel
theorem dX8_told_102 : decode cX8_told 102 = .ok (.getfield 184, 3) := by decide +kernel
theorem dX8_told_105 : decode cX8_told 105 = .ok (.ireturn, 1) := by decide +kernel
theorem dX8_told_106 : decode cX8_told 106 = .ok (.aload_n 0, 1) := by decide +kernel
theorem dX8_told_107 : decode cX8_told 107 = .ok (.getfield 187, 3) := by decide +kernel
theorem dX8_told_110 : decode cX8_told 110 = .ok (.ireturn, 1) := by decide +kernel
theorem dX8_told_111 : decode cX8_told 111 = .ok (.aload_n 0, 1) := by decide +kernel
theorem dX8_told_112 : decode cX8_told 112 = .ok (.getfield 190, 3) := by decide +kernel
theorem dX8_told_115 : decode cX8_told 115 = .ok (.ireturn, 1) := by decide +kernel
theorem dX8_told_116 : decode cX8_told 116 = .ok (.aload_n 0, 1) := by decide +kernel
theorem dX8_told_117 : decode cX8_told 117 = .ok (.getfield 103, 3) := by decide +kernel
theorem dX8_told_120 : decode cX8_told 120 = .ok (.ifCond .eq 7, 3) := by decide +kernel
theorem dX8_told_123 : decode cX8_told 123 = .ok (.iconst 1, 1) := by decide +kernel
theorem dX8_told_124 : decode cX8_told 124 = .ok (.goto 4, 3) := by decide +kernel
theorem dX8_told_127 : decode cX8_told 127 = .ok (.iconst 0, 1) := by decide +kernel
theorem dX8_told_128 : decode cX8_told 128 = .ok (.ireturn, 1) := by decide +kernel
theorem dX8_told_129 : decode cX8_told 129 = .ok (.ldc 115, 2) := by decide +kernel
theorem dX8_told_131 : decode cX8_told 131 = .ok (.ireturn, 1) := by decide +kernel
theorem dX8_side_0 : decode cX8_side 0 = .ok (.aload_n 0, 1) := by decide +kernel
theorem dX8_side_1 : decode cX8_side 1 = .ok (.iload_n 1, 1) := by decide +kernel
theorem dX8_side_2 : decode cX8_side 2 = .ok (.invokevirtual 193, 3) := by decide +kernel
theorem dX8_side_5 : decode cX8_side 5 = .ok (.ifCond .ne 6, 3) := by decide +kernel
theorem dX8_side_8 : decode cX8_side 8 = .ok (.ldc 197, 2) := by decide +kernel
theorem dX8_side_10 : decode cX8_side 10 = .ok (.ireturn, 1) := by decide +kernel
theorem dX8_side_11 : decode cX8_side 11 = .ok (.iload_n 2, 1) := by decide +kernel
theorem dX8_side_12 : decode cX8_side 12 = .ok (.iconst (-1), 1) := by decide +kernel
theorem dX8_side_13 : decode cX8_side 13 = .ok (.if_icmp .ne 12, 3) := by decide +kernel
theorem dX8_side_16 : decode cX8_side 16 = .ok (.aload_n 0, 1) := by decide +kernel
theorem dX8_side_17 : decode cX8_side 17 = .ok (.getfield 7, 3) := by decide +kernel
theorem dX8_side_20 : decode cX8_side 20 = .ok (.iload_n 1, 1) := by decide +kernel
theorem dX8_side_21 : decode cX8_side 21 = .ok (.iaload, 1) := by decide +kernel
theorem dX8_side_22 : decode cX8_side 22 = .ok (.goto 28, 3) := by decide +kernel
theorem dX8_side_25 : decode cX8_side 25 = .ok (.aload_n 0, 1) := by decide +kernel
theorem dX8_side_26 : decode cX8_side 26 = .ok (.iload_n 1, 1) := by decide +kernel
theorem dX8_side_27 : decode cX8_side 27 = .ok (.iload_n 2, 1) := by decide +kernel
theorem dX8_side_28 : decode cX8_side 28 = .ok (.invokevirtual 198, 3) := by decide +kernel
theorem dX8_side_31 : decode cX8_side 31 = .ok (.ifCond .eq 17, 3) := by decide +kernel
theorem dX8_side_34 : decode cX8_side 34 = .ok (.aload_n 0, 1) := by decide +kernel
theorem dX8_side_35 : decode cX8_side 35 = .ok (.getfield 19, 3) := by decide +kernel
theorem dX8_side_38 : decode cX8_side 38 = .ok (.bipush 6, 2) := by decide +kernel
theorem dX8_side_40 : decode cX8_side 40 = .ok (.iload_n 1, 1) := by decide +kernel
theorem dX8_side_41 : decode cX8_side 41 = .ok (.imul, 1) := by decide +kernel
theorem dX8_side_42 : decode cX8_side 42 = .ok (.iload_n 2, 1) := by decide +kernel
theorem dX8_side_43 : decode cX8_side 43 = .ok (.iadd, 1) := by decide +kernel
theorem dX8_side_44 : decode cX8_side 44 = .ok (.iaload, 1) := by decide +kernel
theorem dX8_side_45 : decode cX8_side 45 = .ok (.goto 5, 3) := by decide +kernel
theorem dX8_side_48 : decode cX8_side 48 = .ok (.ldc 115, 2) := by decide +kernel
theorem dX8_side_50 : decode cX8_side 50 = .ok (.ireturn, 1) := by decide +kernel
theorem dX8_turned_0 : decode cX8_turned 0 = .ok (.iload_n 1, 1) := by decide +kernel
theorem dX8_turned_1 : decode cX8_turned 1 = .ok (.invokestatic 201, 3) := by decide +kernel
theorem dX8_turned_4 : decode cX8_turned 4 = .ok (.ifCond .eq 12, 3) := by decide +kernel
theorem dX8_turned_7 : decode cX8_turned 7 = .ok (.aload_n 0, 1) := by decide +kernel
theorem dX8_turned_8 : decode cX8_turned 8 = .ok (.getfield 13, 3) := by decide +kernel
theorem dX8_turned_11 : decode cX8_turned 11 = .ok (.iload_n 1, 1) := by decide +kernel
theorem dX8_turned_12 : decode cX8_turned 12 = .ok (.iaload, 1) := by decide +kernel
theorem dX8_turned_13 : decode cX8_turned 13 = .ok (.goto 5, 3) := by decide +kernel
theorem dX8_turned_16 : decode cX8_turned 16 = .ok (.ldc 197, 2) := by decide +kernel
theorem dX8_turned_18 : decode cX8_turned 18 = .ok (.ireturn, 1) := by decide +kernel
theorem dX8_stands_0 : decode cX8_stands 0 = .ok (.aload_n 0, 1) := by decide +kernel
