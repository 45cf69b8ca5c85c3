theorem dX0_init_0 : decode cX0_init 0 = .ok (.aload_n 0, 1) := by decide +kernel
theorem dX0_init_1 : decode cX0_init 1 = .ok (.invokespecial 3, 3) := by decide +kernel
theorem dX0_init_4 : decode cX0_init 4 = .ok (.aload_n 0, 1) := by decide +kernel
theorem dX0_init_5 : decode cX0_init 5 = .ok (.iconst 4, 1) := by decide +kernel
theorem dX0_init_6 : decode cX0_init 6 = .ok (.newarray .int, 2) := by decide +kernel
theorem dX0_init_8 : decode cX0_init 8 = .ok (.putfield 9, 3) := by decide +kernel
theorem dX0_init_11 : decode cX0_init 11 = .ok (.aload_n 0, 1) := by decide +kernel
theorem dX0_init_12 : decode cX0_init 12 = .ok (.bipush 24, 2) := by decide +kernel
theorem dX0_init_14 : decode cX0_init 14 = .ok (.newarray .int, 2) := by decide +kernel
theorem dX0_init_16 : decode cX0_init 16 = .ok (.putfield 15, 3) := by decide +kernel
theorem dX0_init_19 : decode cX0_init 19 = .ok (.aload_n 0, 1) := by decide +kernel
theorem dX0_init_20 : decode cX0_init 20 = .ok (.bipush 10, 2) := by decide +kernel
theorem dX0_init_22 : decode cX0_init 22 = .ok (.newarray .int, 2) := by decide +kernel
theorem dX0_init_24 : decode cX0_init 24 = .ok (.putfield 18, 3) := by decide +kernel
theorem dX0_init_27 : decode cX0_init 27 = .ok (.aload_n 0, 1) := by decide +kernel
theorem dX0_init_28 : decode cX0_init 28 = .ok (.bipush 10, 2) := by decide +kernel
theorem dX0_init_30 : decode cX0_init 30 = .ok (.newarray .int, 2) := by decide +kernel
theorem dX0_init_32 : decode cX0_init 32 = .ok (.putfield 21, 3) := by decide +kernel
theorem dX0_init_35 : decode cX0_init 35 = .ok (.aload_n 0, 1) := by decide +kernel
theorem dX0_init_36 : decode cX0_init 36 = .ok (.invokevirtual 24, 3) := by decide +kernel
theorem dX0_init_39 : decode cX0_init 39 = .ok (.return_, 1) := by decide +kernel
theorem dX0_clear_0 : decode cX0_clear 0 = .ok (.aload_n 0, 1) := by decide +kernel
theorem dX0_clear_1 : decode cX0_clear 1 = .ok (.iconst 0, 1) := by decide +kernel
theorem dX0_clear_2 : decode cX0_clear 2 = .ok (.putfield 27, 3) := by decide +kernel
theorem dX0_clear_5 : decode cX0_clear 5 = .ok (.aload_n 0, 1) := by decide +kernel
theorem dX0_clear_6 : decode cX0_clear 6 = .ok (.iconst 0, 1) := by decide +kernel
theorem dX0_clear_7 : decode cX0_clear 7 = .ok (.putfield 31, 3) := by decide +kernel
theorem dX0_clear_10 : decode cX0_clear 10 = .ok (.aload_n 0, 1) := by decide +kernel
theorem dX0_clear_11 : decode cX0_clear 11 = .ok (.iconst (-1), 1) := by decide +kernel
theorem dX0_clear_12 : decode cX0_clear 12 = .ok (.putfield 35, 3) := by decide +kernel
theorem dX0_clear_15 : decode cX0_clear 15 = .ok (.aload_n 0, 1) := by decide +kernel
theorem dX0_clear_16 : decode cX0_clear 16 = .ok (.iconst 0, 1) := by decide +kernel
theorem dX0_clear_17 : decode cX0_clear 17 = .ok (.putfield 38, 3) := by decide +kernel
theorem dX0_clear_20 : decode cX0_clear 20 = .ok (.aload_n 0, 1) := by decide +kernel
theorem dX0_clear_21 : decode cX0_clear 21 = .ok (.iconst 0, 1) := by decide +kernel
theorem dX0_clear_22 : decode cX0_clear 22 = .ok (.putfield 41, 3) := by decide +kernel
theorem dX0_clear_25 : decode cX0_clear 25 = .ok (.iconst 0, 1) := by decide +kernel
theorem dX0_clear_26 : decode cX0_clear 26 = .ok (.istore_n 1, 1) := by decide +kernel
theorem dX0_clear_27 : decode cX0_clear 27 = .ok (.iload_n 1, 1) := by decide +kernel
theorem dX0_clear_28 : decode cX0_clear 28 = .ok (.bipush 10, 2) := by decide +kernel
theorem dX0_clear_30 : decode cX0_clear 30 = .ok (.if_icmp .ge 23, 3) := by decide +kernel
theorem dX0_clear_33 : decode cX0_clear 33 = .ok (.aload_n 0, 1) := by decide +kernel
theorem dX0_clear_34 : decode cX0_clear 34 = .ok (.getfield 18, 3) := by decide +kernel
theorem dX0_clear_37 : decode cX0_clear 37 = .ok (.iload_n 1, 1) := by decide +kernel
theorem dX0_clear_38 : decode cX0_clear 38 = .ok (.iload_n 1, 1) := by decide +kernel
theorem dX0_clear_39 : decode cX0_clear 39 = .ok (.iastore, 1) := by decide +kernel
theorem dX0_clear_40 : decode cX0_clear 40 = .ok (.aload_n 0, 1) := by decide +kernel
theorem dX0_clear_41 : decode cX0_clear 41 = .ok (.getfield 21, 3) := by decide +kernel
theorem dX0_clear_44 : decode cX0_clear 44 = .ok (.iload_n 1, 1) := by decide +kernel
theorem dX0_clear_45 : decode cX0_clear 45 = .ok (.iconst 1, 1) := by decide +kernel
theorem dX0_clear_46 : decode cX0_clear 46 = .ok (.iastore, 1) := by decide +kernel
theorem dX0_clear_47 : decode cX0_clear 47 = .ok (.iinc 1 1, 3) := by decide +kernel
theorem dX0_clear_50 : decode cX0_clear 50 = .ok (.goto (-23), 3) := by decide +kernel
theorem dX0_clear_53 : decode cX0_clear 53 = .ok (.return_, 1) := by decide +kernel
theorem dX0_take_0 : decode cX0_take 0 = .ok (.aload_n 0, 1) := by decide +kernel
theorem dX0_take_1 : decode cX0_take 1 = .ok (.aload_n 1, 1) := by decide +kernel
theorem dX0_take_2 : decode cX0_take 2 = .ok (.getfield 27, 3) := by decide +kernel
theorem dX0_take_5 : decode cX0_take 5 = .ok (.putfield 27, 3) := by decide +kernel
theorem dX0_take_8 : decode cX0_take 8 = .ok (.aload_n 0, 1) := by decide +kernel
theorem dX0_take_9 : decode cX0_take 9 = .ok (.aload_n 1, 1) := by decide +kernel
theorem dX0_take_10 : decode cX0_take 10 = .ok (.getfield 31, 3) := by decide +kernel
theorem dX0_take_13 : decode cX0_take 13 = .ok (.putfield 31, 3) := by decide +kernel
theorem dX0_take_16 : decode cX0_take 16 = .ok (.aload_n 0, 1) := by decide +kernel
theorem dX0_take_17 : decode cX0_take 17 = .ok (.aload_n 1, 1) := by decide +kernel
theorem dX0_take_18 : decode cX0_take 18 = .ok (.getfield 35, 3) := by decide +kernel
theorem dX0_take_21 : decode cX0_take 21 = .ok (.putfield 35, 3) := by decide +kernel
theorem dX0_take_24 : decode cX0_take 24 = .ok (.aload_n 0, 1) := by decide +kernel
theorem dX0_take_25 : decode cX0_take 25 = .ok (.aload_n 1, 1) := by decide +kernel
theorem dX0_take_26 : decode cX0_take 26 = .ok (.getfield 38, 3) := by decide +kernel
theorem dX0_take_29 : decode cX0_take 29 = .ok (.putfield 38, 3) := by decide +kernel
theorem dX0_take_32 : decode cX0_take 32 = .ok (.aload_n 0, 1) := by decide +kernel
theorem dX0_take_33 : decode cX0_take 33 = .ok (.aload_n 1, 1) := by decide +kernel
theorem dX0_take_34 : decode cX0_take 34 = .ok (.getfield 41, 3) := by decide +kernel
theorem dX0_take_37 : decode cX0_take 37 = .ok (.putfield 41, 3) := by decide +kernel
theorem dX0_take_40 : decode cX0_take 40 = .ok (.aload_n 1, 1) := by decide +kernel
theorem dX0_take_41 : decode cX0_take 41 = .ok (.getfield 9, 3) := by decide +kernel
theorem dX0_take_44 : decode cX0_take 44 = .ok (.iconst 0, 1) := by decide +kernel
theorem dX0_take_45 : decode cX0_take 45 = .ok (.aload_n 0, 1) := by decide +kernel
theorem dX0_take_46 : decode cX0_take 46 = .ok (.getfield 9, 3) := by decide +kernel
theorem dX0_take_49 : decode cX0_take 49 = .ok (.iconst 0, 1) := by decide +kernel
theorem dX0_take_50 : decode cX0_take 50 = .ok (.iconst 4, 1) := by decide +kernel
theorem dX0_take_51 : decode cX0_take 51 = .ok (.invokestatic 44, 3) := by decide +kernel
theorem dX0_take_54 : decode cX0_take 54 = .ok (.aload_n 1, 1) := by decide +kernel
theorem dX0_take_55 : decode cX0_take 55 = .ok (.getfield 15, 3) := by decide +kernel
theorem dX0_take_58 : decode cX0_take 58 = .ok (.iconst 0, 1) := by decide +kernel
theorem dX0_take_59 : decode cX0_take 59 = .ok (.aload_n 0, 1) := by decide +kernel
theorem dX0_take_60 : decode cX0_take 60 = .ok (.getfield 15, 3) := by decide +kernel
theorem dX0_take_63 : decode cX0_take 63 = .ok (.iconst 0, 1) := by decide +kernel
theorem dX0_take_64 : decode cX0_take 64 = .ok (.bipush 24, 2) := by decide +kernel
theorem dX0_take_66 : decode cX0_take 66 = .ok (.invokestatic 44, 3) := by decide +kernel
theorem dX0_take_69 : decode cX0_take 69 = .ok (.aload_n 1, 1) := by decide +kernel
theorem dX0_take_70 : decode cX0_take 70 = .ok (.getfield 18, 3) := by decide +kernel
theorem dX0_take_73 : decode cX0_take 73 = .ok (.iconst 0, 1) := by decide +kernel
theorem dX0_take_74 : decode cX0_take 74 = .ok (.aload_n 0, 1) := by decide +kernel
theorem dX0_take_75 : decode cX0_take 75 = .ok (.getfield 18, 3) := by decide +kernel
theorem dX0_take_78 : decode cX0_take 78 = .ok (.iconst 0, 1) := by decide +kernel
theorem dX0_take_79 : decode cX0_take 79 = .ok (.bipush 10, 2) := by decide +kernel
theorem dX0_take_81 : decode cX0_take 81 = .ok (.invokestatic 44, 3) := by decide +kernel
theorem dX0_take_84 : decode cX0_take 84 = .ok (.aload_n 1, 1) := by decide +kernel
theorem dX0_take_85 : decode cX0_take 85 = .ok (.getfield 21, 3) := by decide +kernel
theorem dX0_take_88 : decode cX0_take 88 = .ok (.iconst 0, 1) := by decide +kernel
theorem dX0_take_89 : decode cX0_take 89 = .ok (.aload_n 0, 1) := by decide +kernel
theorem dX0_take_90 : decode cX0_take 90 = .ok (.getfield 21, 3) := by decide +kernel
theorem dX0_take_93 : decode cX0_take 93 = .ok (.iconst 0, 1) := by decide +kernel
theorem dX0_take_94 : decode cX0_take 94 = .ok (.bipush 10, 2) := by decide +kernel
theorem dX0_take_96 : decode cX0_take 96 = .ok (.invokestatic 44, 3) := by decide +kernel
theorem dX0_take_99 : decode cX0_take 99 = .ok (.return_, 1) := by decide +kernel
theorem dX0_hasCube_0 : decode cX0_hasCube 0 = .ok (.iload_n 1, 1) := by decide +kernel
theorem dX0_hasCube_1 : decode cX0_hasCube 1 = .ok (.ifCond .lt 20, 3) := by decide +kernel
theorem dX0_hasCube_4 : decode cX0_hasCube 4 = .ok (.iload_n 1, 1) := by decide +kernel
theorem dX0_hasCube_5 : decode cX0_hasCube 5 = .ok (.aload_n 0, 1) := by decide +kernel
theorem dX0_hasCube_6 : decode cX0_hasCube 6 = .ok (.getfield 41, 3) := by decide +kernel
theorem dX0_hasCube_9 : decode cX0_hasCube 9 = .ok (.if_icmp .ge 12, 3) := by decide +kernel
theorem dX0_hasCube_12 : decode cX0_hasCube 12 = .ok (.iload_n 1, 1) := by decide +kernel
theorem dX0_hasCube_13 : decode cX0_hasCube 13 = .ok (.iconst 4, 1) := by decide +kernel
theorem dX0_hasCube_14 : decode cX0_hasCube 14 = .ok (.if_icmp .ge 7, 3) := by decide +kernel
theorem dX0_hasCube_17 : decode cX0_hasCube 17 = .ok (.iconst 1, 1) := by decide +kernel
theorem dX0_hasCube_18 : decode cX0_hasCube 18 = .ok (.goto 4, 3) := by decide +kernel
theorem dX0_hasCube_21 : decode cX0_hasCube 21 = .ok (.iconst 0, 1) := by decide +kernel
theorem dX0_hasCube_22 : decode cX0_hasCube 22 = .ok (.ireturn, 1) := by decide +kernel
theorem dX0_hasSide_0 : decode cX0_hasSide 0 = .ok (.aload_n 0, 1) := by decide +kernel
theorem dX0_hasSide_1 : decode cX0_hasSide 1 = .ok (.iload_n 1, 1) := by decide +kernel
theorem dX0_hasSide_2 : decode cX0_hasSide 2 = .ok (.invokevirtual 50, 3) := by decide +kernel
theorem dX0_hasSide_5 : decode cX0_hasSide 5 = .ok (.ifCond .eq 27, 3) := by decide +kernel
theorem dX0_hasSide_8 : decode cX0_hasSide 8 = .ok (.iload_n 2, 1) := by decide +kernel
theorem dX0_hasSide_9 : decode cX0_hasSide 9 = .ok (.ifCond .lt 23, 3) := by decide +kernel
theorem dX0_hasSide_12 : decode cX0_hasSide 12 = .ok (.iload_n 2, 1) := by decide +kernel
theorem dX0_hasSide_13 : decode cX0_hasSide 13 = .ok (.aload_n 0, 1) := by decide +kernel
theorem dX0_hasSide_14 : decode cX0_hasSide 14 = .ok (.getfield 9, 3) := by decide +kernel
theorem dX0_hasSide_17 : decode cX0_hasSide 17 = .ok (.iload_n 1, 1) := by decide +kernel
theorem dX0_hasSide_18 : decode cX0_hasSide 18 = .ok (.iaload, 1) := by decide +kernel
theorem dX0_hasSide_19 : decode cX0_hasSide 19 = .ok (.if_icmp .ge 13, 3) := by decide +kernel
theorem dX0_hasSide_22 : decode cX0_hasSide 22 = .ok (.iload_n 2, 1) := by decide +kernel
theorem dX0_hasSide_23 : decode cX0_hasSide 23 = .ok (.bipush 6, 2) := by decide +kernel
theorem dX0_hasSide_25 : decode cX0_hasSide 25 = .ok (.if_icmp .ge 7, 3) := by decide +kernel
theorem dX0_hasSide_28 : decode cX0_hasSide 28 = .ok (.iconst 1, 1) := by decide +kernel
theorem dX0_hasSide_29 : decode cX0_hasSide 29 = .ok (.goto 4, 3) := by decide +kernel
theorem dX0_hasSide_32 : decode cX0_hasSide 32 = .ok (.iconst 0, 1) := by decide +kernel
theorem dX0_hasSide_33 : decode cX0_hasSide 33 = .ok (.ireturn, 1) := by decide +kernel
theorem dX0_hasDay_0 : decode cX0_hasDay 0 = .ok (.iload_n 1, 1) := by decide +kernel
theorem dX0_hasDay_1 : decode cX0_hasDay 1 = .ok (.aload_n 0, 1) := by decide +kernel
theorem dX0_hasDay_2 : decode cX0_hasDay 2 = .ok (.getfield 31, 3) := by decide +kernel
theorem dX0_hasDay_5 : decode cX0_hasDay 5 = .ok (.if_icmp .lt 15, 3) := by decide +kernel
theorem dX0_hasDay_8 : decode cX0_hasDay 8 = .ok (.iload_n 1, 1) := by decide +kernel
theorem dX0_hasDay_9 : decode cX0_hasDay 9 = .ok (.aload_n 0, 1) := by decide +kernel
theorem dX0_hasDay_10 : decode cX0_hasDay 10 = .ok (.getfield 35, 3) := by decide +kernel
theorem dX0_hasDay_13 : decode cX0_hasDay 13 = .ok (.if_icmp .gt 7, 3) := by decide +kernel
theorem dX0_hasDay_16 : decode cX0_hasDay 16 = .ok (.iconst 1, 1) := by decide +kernel
theorem dX0_hasDay_17 : decode cX0_hasDay 17 = .ok (.goto 4, 3) := by decide +kernel
theorem dX0_hasDay_20 : decode cX0_hasDay 20 = .ok (.iconst 0, 1) := by decide +kernel
theorem dX0_hasDay_21 : decode cX0_hasDay 21 = .ok (.ireturn, 1) := by decide +kernel
theorem dX0_dayCount_0 : decode cX0_dayCount 0 = .ok (.aload_n 0, 1) := by decide +kernel
theorem dX0_dayCount_1 : decode cX0_dayCount 1 = .ok (.getfield 35, 3) := by decide +kernel
theorem dX0_dayCount_4 : decode cX0_dayCount 4 = .ok (.aload_n 0, 1) := by decide +kernel
theorem dX0_dayCount_5 : decode cX0_dayCount 5 = .ok (.getfield 31, 3) := by decide +kernel
theorem dX0_dayCount_8 : decode cX0_dayCount 8 = .ok (.isub, 1) := by decide +kernel
theorem dX0_dayCount_9 : decode cX0_dayCount 9 = .ok (.iconst 1, 1) := by decide +kernel
theorem dX0_dayCount_10 : decode cX0_dayCount 10 = .ok (.iadd, 1) := by decide +kernel
theorem dX0_dayCount_11 : decode cX0_dayCount 11 = .ok (.ireturn, 1) := by decide +kernel
theorem dX0_hasTwoPlaces_0 : decode cX0_hasTwoPlaces 0 = .ok (.aload_n 0, 1) := by decide +kernel
theorem dX0_hasTwoPlaces_1 : decode cX0_hasTwoPlaces 1 = .ok (.getfield 38, 3) := by decide +kernel
theorem dX0_hasTwoPlaces_4 : decode cX0_hasTwoPlaces 4 = .ok (.ifCond .eq 10, 3) := by decide +kernel
theorem dX0_hasTwoPlaces_7 : decode cX0_hasTwoPlaces 7 = .ok (.aload_n 0, 1) := by decide +kernel
theorem dX0_hasTwoPlaces_8 : decode cX0_hasTwoPlaces 8 = .ok (.getfield 35, 3) := by decide +kernel
theorem dX0_hasTwoPlaces_11 : decode cX0_hasTwoPlaces 11 = .ok (.goto 4, 3) := by decide +kernel
theorem dX0_hasTwoPlaces_14 : decode cX0_hasTwoPlaces 14 = .ok (.iload_n 1, 1) := by decide +kernel
theorem dX0_hasTwoPlaces_15 : decode cX0_hasTwoPlaces 15 = .ok (.bipush 10, 2) := by decide +kernel
theorem dX0_hasTwoPlaces_17 : decode cX0_hasTwoPlaces 17 = .ok (.if_icmp .lt 7, 3) := by decide +kernel
theorem dX0_hasTwoPlaces_20 : decode cX0_hasTwoPlaces 20 = .ok (.iconst 1, 1) := by decide +kernel
theorem dX0_hasTwoPlaces_21 : decode cX0_hasTwoPlaces 21 = .ok (.goto 4, 3) := by decide +kernel
theorem dX0_hasTwoPlaces_24 : decode cX0_hasTwoPlaces 24 = .ok (.iconst 0, 1) := by decide +kernel
theorem dX0_hasTwoPlaces_25 : decode cX0_hasTwoPlaces 25 = .ok (.ireturn, 1) := by decide +kernel
theorem dX0_bothWays_0 : decode cX0_bothWays 0 = .ok (.iconst 1, 1) := by decide +kernel
theorem dX0_bothWays_1 : decode cX0_bothWays 1 = .ok (.iload_n 1, 1) := by decide +kernel
theorem dX0_bothWays_2 : decode cX0_bothWays 2 = .ok (.ishl, 1) := by decide +kernel
theorem dX0_bothWays_3 : decode cX0_bothWays 3 = .ok (.iconst 1, 1) := by decide +kernel
theorem dX0_bothWays_4 : decode cX0_bothWays 4 = .ok (.aload_n 0, 1) := by decide +kernel
theorem dX0_bothWays_5 : decode cX0_bothWays 5 = .ok (.getfield 18, 3) := by decide +kernel
theorem dX0_bothWays_8 : decode cX0_bothWays 8 = .ok (.iload_n 1, 1) := by decide +kernel
theorem dX0_bothWays_9 : decode cX0_bothWays 9 = .ok (.iaload, 1) := by decide +kernel
theorem dX0_bothWays_10 : decode cX0_bothWays 10 = .ok (.ishl, 1) := by decide +kernel
theorem dX0_bothWays_11 : decode cX0_bothWays 11 = .ok (.ior, 1) := by decide +kernel
theorem dX0_bothWays_12 : decode cX0_bothWays 12 = .ok (.ireturn, 1) := by decide +kernel
theorem dX0_mostOften_0 : decode cX0_mostOften 0 = .ok (.aload_n 0, 1) := by decide +kernel
theorem dX0_mostOften_1 : decode cX0_mostOften 1 = .ok (.iload_n 1, 1) := by decide +kernel
theorem dX0_mostOften_2 : decode cX0_mostOften 2 = .ok (.invokevirtual 54, 3) := by decide +kernel
theorem dX0_mostOften_5 : decode cX0_mostOften 5 = .ok (.istore_n 2, 1) := by decide +kernel
theorem dX0_mostOften_6 : decode cX0_mostOften 6 = .ok (.iconst 0, 1) := by decide +kernel
theorem dX0_mostOften_7 : decode cX0_mostOften 7 = .ok (.istore_n 3, 1) := by decide +kernel
theorem dX0_mostOften_8 : decode cX0_mostOften 8 = .ok (.aload_n 0, 1) := by decide +kernel
theorem dX0_mostOften_9 : decode cX0_mostOften 9 = .ok (.getfield 31, 3) := by decide +kernel
theorem dX0_mostOften_12 : decode cX0_mostOften 12 = .ok (.istore 4, 2) := by decide +kernel
theorem dX0_mostOften_14 : decode cX0_mostOften 14 = .ok (.iload 4, 2) := by decide +kernel
theorem dX0_mostOften_16 : decode cX0_mostOften 16 = .ok (.aload_n 0, 1) := by decide +kernel
theorem dX0_mostOften_17 : decode cX0_mostOften 17 = .ok (.getfield 35, 3) := by decide +kernel
theorem dX0_mostOften_20 : decode cX0_mostOften 20 = .ok (.if_icmp .gt 50, 3) := by decide +kernel
theorem dX0_mostOften_23 : decode cX0_mostOften 23 = .ok (.iload_n 2, 1) := by decide +kernel
theorem dX0_mostOften_24 : decode cX0_mostOften 24 = .ok (.iload 4, 2) := by decide +kernel
theorem dX0_mostOften_26 : decode cX0_mostOften 26 = .ok (.bipush 10, 2) := by decide +kernel
theorem dX0_mostOften_28 : decode cX0_mostOften 28 = .ok (.irem, 1) := by decide +kernel
theorem dX0_mostOften_29 : decode cX0_mostOften 29 = .ok (.ishr, 1) := by decide +kernel
theorem dX0_mostOften_30 : decode cX0_mostOften 30 = .ok (.iconst 1, 1) := by decide +kernel
theorem dX0_mostOften_31 : decode cX0_mostOften 31 = .ok (.iand, 1) := by decide +kernel
theorem dX0_mostOften_32 : decode cX0_mostOften 32 = .ok (.istore 5, 2) := by decide +kernel
theorem dX0_mostOften_34 : decode cX0_mostOften 34 = .ok (.aload_n 0, 1) := by decide +kernel
theorem dX0_mostOften_35 : decode cX0_mostOften 35 = .ok (.iload 4, 2) := by decide +kernel
theorem dX0_mostOften_37 : decode cX0_mostOften 37 = .ok (.invokevirtual 58, 3) := by decide +kernel
theorem dX0_mostOften_40 : decode cX0_mostOften 40 = .ok (.ifCond .eq 17, 3) := by decide +kernel
theorem dX0_mostOften_43 : decode cX0_mostOften 43 = .ok (.iload 5, 2) := by decide +kernel
theorem dX0_mostOften_45 : decode cX0_mostOften 45 = .ok (.iload_n 2, 1) := by decide +kernel
theorem dX0_mostOften_46 : decode cX0_mostOften 46 = .ok (.iload 4, 2) := by decide +kernel
theorem dX0_mostOften_48 : decode cX0_mostOften 48 = .ok (.bipush 10, 2) := by decide +kernel
theorem dX0_mostOften_50 : decode cX0_mostOften 50 = .ok (.idiv, 1) := by decide +kernel
theorem dX0_mostOften_51 : decode cX0_mostOften 51 = .ok (.ishr, 1) := by decide +kernel
theorem dX0_mostOften_52 : decode cX0_mostOften 52 = .ok (.iconst 1, 1) := by decide +kernel
theorem dX0_mostOften_53 : decode cX0_mostOften 53 = .ok (.iand, 1) := by decide +kernel
theorem dX0_mostOften_54 : decode cX0_mostOften 54 = .ok (.iadd, 1) := by decide +kernel
theorem dX0_mostOften_55 : decode cX0_mostOften 55 = .ok (.istore 5, 2) := by decide +kernel
theorem dX0_mostOften_57 : decode cX0_mostOften 57 = .ok (.iload_n 3, 1) := by decide +kernel
theorem dX0_mostOften_58 : decode cX0_mostOften 58 = .ok (.iload 5, 2) := by decide +kernel
theorem dX0_mostOften_60 : decode cX0_mostOften 60 = .ok (.invokestatic 61, 3) := by decide +kernel
theorem dX0_mostOften_63 : decode cX0_mostOften 63 = .ok (.istore_n 3, 1) := by decide +kernel
theorem dX0_mostOften_64 : decode cX0_mostOften 64 = .ok (.iinc 4 1, 3) := by decide +kernel
theorem dX0_mostOften_67 : decode cX0_mostOften 67 = .ok (.goto (-53), 3) := by decide +kernel
theorem dX0_mostOften_70 : decode cX0_mostOften 70 = .ok (.iload_n 3, 1) := by decide +kernel
theorem dX0_mostOften_71 : decode cX0_mostOften 71 = .ok (.ireturn, 1) := by decide +kernel
theorem dX1_init_0 : decode cX1_init 0 = .ok (.aload_n 0, 1) := by decide +kernel
theorem dX1_init_1 : decode cX1_init 1 = .ok (.invokespecial 3, 3) := by decide +kernel
theorem dX1_init_4 : decode cX1_init 4 = .ok (.aload_n 0, 1) := by decide +kernel
theorem dX1_init_5 : decode cX1_init 5 = .ok (.iconst 0, 1) := by decide +kernel
theorem dX1_init_6 : decode cX1_init 6 = .ok (.putfield 9, 3) := by decide +kernel
theorem dX1_init_9 : decode cX1_init 9 = .ok (.aload_n 0, 1) := by decide +kernel
theorem dX1_init_10 : decode cX1_init 10 = .ok (.iconst 0, 1) := by decide +kernel
theorem dX1_init_11 : decode cX1_init 11 = .ok (.putfield 15, 3) := by decide +kernel
theorem dX1_init_14 : decode cX1_init 14 = .ok (.aload_n 0, 1) := by decide +kernel
theorem dX1_init_15 : decode cX1_init 15 = .ok (.bipush 6, 2) := by decide +kernel
theorem dX1_init_17 : decode cX1_init 17 = .ok (.newarray .int, 2) := by decide +kernel
theorem dX1_init_19 : decode cX1_init 19 = .ok (.putfield 18, 3) := by decide +kernel
theorem dX1_init_22 : decode cX1_init 22 = .ok (.aload_n 0, 1) := by decide +kernel
theorem dX1_init_23 : decode cX1_init 23 = .ok (.bipush 6, 2) := by decide +kernel
theorem dX1_init_25 : decode cX1_init 25 = .ok (.newarray .boolean, 2) := by decide +kernel
theorem dX1_init_27 : decode cX1_init 27 = .ok (.putfield 22, 3) := by decide +kernel
theorem dX1_init_30 : decode cX1_init 30 = .ok (.aload_n 0, 1) := by decide +kernel
theorem dX1_init_31 : decode cX1_init 31 = .ok (.bipush 15, 2) := by decide +kernel
theorem dX1_init_33 : decode cX1_init 33 = .ok (.newarray .int, 2) := by decide +kernel
theorem dX1_init_35 : decode cX1_init 35 = .ok (.putfield 26, 3) := by decide +kernel
theorem dX1_init_38 : decode cX1_init 38 = .ok (.return_, 1) := by decide +kernel
theorem dX1_clear_0 : decode cX1_clear 0 = .ok (.aload_n 0, 1) := by decide +kernel
theorem dX1_clear_1 : decode cX1_clear 1 = .ok (.iconst 0, 1) := by decide +kernel
theorem dX1_clear_2 : decode cX1_clear 2 = .ok (.putfield 9, 3) := by decide +kernel
theorem dX1_clear_5 : decode cX1_clear 5 = .ok (.aload_n 0, 1) := by decide +kernel
theorem dX1_clear_6 : decode cX1_clear 6 = .ok (.iconst 0, 1) := by decide +kernel
theorem dX1_clear_7 : decode cX1_clear 7 = .ok (.putfield 15, 3) := by decide +kernel
theorem dX1_clear_10 : decode cX1_clear 10 = .ok (.return_, 1) := by decide +kernel
theorem dX1_addWrong_0 : decode cX1_addWrong 0 = .ok (.aload_n 0, 1) := by decide +kernel
theorem dX1_addWrong_1 : decode cX1_addWrong 1 = .ok (.getfield 9, 3) := by decide +kernel
theorem dX1_addWrong_4 : decode cX1_addWrong 4 = .ok (.bipush 6, 2) := by decide +kernel
theorem dX1_addWrong_6 : decode cX1_addWrong 6 = .ok (.if_icmp .ge 33, 3) := by decide +kernel
theorem dX1_addWrong_9 : decode cX1_addWrong 9 = .ok (.aload_n 0, 1) := by decide +kernel
theorem dX1_addWrong_10 : decode cX1_addWrong 10 = .ok (.getfield 18, 3) := by decide +kernel
theorem dX1_addWrong_13 : decode cX1_addWrong 13 = .ok (.aload_n 0, 1) := by decide +kernel
theorem dX1_addWrong_14 : decode cX1_addWrong 14 = .ok (.getfield 9, 3) := by decide +kernel
theorem dX1_addWrong_17 : decode cX1_addWrong 17 = .ok (.iload_n 1, 1) := by decide +kernel
theorem dX1_addWrong_18 : decode cX1_addWrong 18 = .ok (.iastore, 1) := by decide +kernel
theorem dX1_addWrong_19 : decode cX1_addWrong 19 = .ok (.aload_n 0, 1) := by decide +kernel
theorem dX1_addWrong_20 : decode cX1_addWrong 20 = .ok (.getfield 22, 3) := by decide +kernel
theorem dX1_addWrong_23 : decode cX1_addWrong 23 = .ok (.aload_n 0, 1) := by decide +kernel
theorem dX1_addWrong_24 : decode cX1_addWrong 24 = .ok (.getfield 9, 3) := by decide +kernel
theorem dX1_addWrong_27 : decode cX1_addWrong 27 = .ok (.iload_n 2, 1) := by decide +kernel
theorem dX1_addWrong_28 : decode cX1_addWrong 28 = .ok (.bastore, 1) := by decide +kernel
theorem dX1_addWrong_29 : decode cX1_addWrong 29 = .ok (.aload_n 0, 1) := by decide +kernel
theorem dX1_addWrong_30 : decode cX1_addWrong 30 = .ok (.dup, 1) := by decide +kernel
theorem dX1_addWrong_31 : decode cX1_addWrong 31 = .ok (.getfield 9, 3) := by decide +kernel
theorem dX1_addWrong_34 : decode cX1_addWrong 34 = .ok (.iconst 1, 1) := by decide +kernel
theorem dX1_addWrong_35 : decode cX1_addWrong 35 = .ok (.iadd, 1) := by decide +kernel
theorem dX1_addWrong_36 : decode cX1_addWrong 36 = .ok (.putfield 9, 3) := by decide +kernel
theorem dX1_addWrong_39 : decode cX1_addWrong 39 = .ok (.return_, 1) := by decide +kernel
theorem dX1_addEntry_0 : decode cX1_addEntry 0 = .ok (.aload_n 0, 1) := by decide +kernel
theorem dX1_addEntry_1 : decode cX1_addEntry 1 = .ok (.getfield 15, 3) := by decide +kernel
theorem dX1_addEntry_4 : decode cX1_addEntry 4 = .ok (.bipush 15, 2) := by decide +kernel
theorem dX1_addEntry_6 : decode cX1_addEntry 6 = .ok (.if_icmp .ge 23, 3) := by decide +kernel
theorem dX1_addEntry_9 : decode cX1_addEntry 9 = .ok (.aload_n 0, 1) := by decide +kernel
theorem dX1_addEntry_10 : decode cX1_addEntry 10 = .ok (.getfield 26, 3) := by decide +kernel
theorem dX1_addEntry_13 : decode cX1_addEntry 13 = .ok (.aload_n 0, 1) := by decide +kernel
theorem dX1_addEntry_14 : decode cX1_addEntry 14 = .ok (.getfield 15, 3) := by decide +kernel
theorem dX1_addEntry_17 : decode cX1_addEntry 17 = .ok (.iload_n 1, 1) := by decide +kernel
theorem dX1_addEntry_18 : decode cX1_addEntry 18 = .ok (.iastore, 1) := by decide +kernel
theorem dX1_addEntry_19 : decode cX1_addEntry 19 = .ok (.aload_n 0, 1) := by decide +kernel
theorem dX1_addEntry_20 : decode cX1_addEntry 20 = .ok (.dup, 1) := by decide +kernel
theorem dX1_addEntry_21 : decode cX1_addEntry 21 = .ok (.getfield 15, 3) := by decide +kernel
theorem dX1_addEntry_24 : decode cX1_addEntry 24 = .ok (.iconst 1, 1) := by decide +kernel
theorem dX1_addEntry_25 : decode cX1_addEntry 25 = .ok (.iadd, 1) := by decide +kernel
theorem dX1_addEntry_26 : decode cX1_addEntry 26 = .ok (.putfield 15, 3) := by decide +kernel
theorem dX1_addEntry_29 : decode cX1_addEntry 29 = .ok (.return_, 1) := by decide +kernel
theorem dX1_firstEntryNot_0 : decode cX1_firstEntryNot 0 = .ok (.iconst 0, 1) := by decide +kernel
theorem dX1_firstEntryNot_1 : decode cX1_firstEntryNot 1 = .ok (.istore_n 2, 1) := by decide +kernel
theorem dX1_firstEntryNot_2 : decode cX1_firstEntryNot 2 = .ok (.iload_n 2, 1) := by decide +kernel
theorem dX1_firstEntryNot_3 : decode cX1_firstEntryNot 3 = .ok (.aload_n 0, 1) := by decide +kernel
theorem dX1_firstEntryNot_4 : decode cX1_firstEntryNot 4 = .ok (.getfield 15, 3) := by decide +kernel
theorem dX1_firstEntryNot_7 : decode cX1_firstEntryNot 7 = .ok (.if_icmp .ge 21, 3) := by decide +kernel
theorem dX1_firstEntryNot_10 : decode cX1_firstEntryNot 10 = .ok (.aload_n 0, 1) := by decide +kernel
theorem dX1_firstEntryNot_11 : decode cX1_firstEntryNot 11 = .ok (.getfield 26, 3) := by decide +kernel
theorem dX1_firstEntryNot_14 : decode cX1_firstEntryNot 14 = .ok (.iload_n 2, 1) := by decide +kernel
theorem dX1_firstEntryNot_15 : decode cX1_firstEntryNot 15 = .ok (.iaload, 1) := by decide +kernel
theorem dX1_firstEntryNot_16 : decode cX1_firstEntryNot 16 = .ok (.iload_n 1, 1) := by decide +kernel
theorem dX1_firstEntryNot_17 : decode cX1_firstEntryNot 17 = .ok (.if_icmp .eq 5, 3) := by decide +kernel
theorem dX1_firstEntryNot_20 : decode cX1_firstEntryNot 20 = .ok (.iload_n 2, 1) := by decide +kernel
theorem dX1_firstEntryNot_21 : decode cX1_firstEntryNot 21 = .ok (.ireturn, 1) := by decide +kernel
theorem dX1_firstEntryNot_22 : decode cX1_firstEntryNot 22 = .ok (.iinc 2 1, 3) := by decide +kernel
theorem dX1_firstEntryNot_25 : decode cX1_firstEntryNot 25 = .ok (.goto (-23), 3) := by decide +kernel
theorem dX1_firstEntryNot_28 : decode cX1_firstEntryNot 28 = .ok (.iconst (-1), 1) := by decide +kernel
theorem dX1_firstEntryNot_29 : decode cX1_firstEntryNot 29 = .ok (.ireturn, 1) := by decide +kernel
theorem dX2_init_0 : decode cX2_init 0 = .ok (.aload_n 0, 1) := by decide +kernel
theorem dX2_init_1 : decode cX2_init 1 = .ok (.invokespecial 3, 3) := by decide +kernel
theorem dX2_init_4 : decode cX2_init 4 = .ok (.aload_n 0, 1) := by decide +kernel
theorem dX2_init_5 : decode cX2_init 5 = .ok (.bipush 7, 2) := by decide +kernel
theorem dX2_init_7 : decode cX2_init 7 = .ok (.newarray .int, 2) := by decide +kernel
theorem dX2_init_9 : decode cX2_init 9 = .ok (.putfield 9, 3) := by decide +kernel
theorem dX2_init_12 : decode cX2_init 12 = .ok (.aload_n 0, 1) := by decide +kernel
theorem dX2_init_13 : decode cX2_init 13 = .ok (.bipush 7, 2) := by decide +kernel
theorem dX2_init_15 : decode cX2_init 15 = .ok (.newarray .int, 2) := by decide +kernel
theorem dX2_init_17 : decode cX2_init 17 = .ok (.putfield 15, 3) := by decide +kernel
theorem dX2_init_20 : decode cX2_init 20 = .ok (.aload_n 0, 1) := by decide +kernel
theorem dX2_init_21 : decode cX2_init 21 = .ok (.bipush 7, 2) := by decide +kernel
theorem dX2_init_23 : decode cX2_init 23 = .ok (.newarray .int, 2) := by decide +kernel
theorem dX2_init_25 : decode cX2_init 25 = .ok (.putfield 18, 3) := by decide +kernel
theorem dX2_init_28 : decode cX2_init 28 = .ok (.aload_n 0, 1) := by decide +kernel
theorem dX2_init_29 : decode cX2_init 29 = .ok (.bipush 7, 2) := by decide +kernel
theorem dX2_init_31 : decode cX2_init 31 = .ok (.newarray .boolean, 2) := by decide +kernel
theorem dX2_init_33 : decode cX2_init 33 = .ok (.putfield 21, 3) := by decide +kernel
theorem dX2_init_36 : decode cX2_init 36 = .ok (.aload_n 0, 1) := by decide +kernel
theorem dX2_init_37 : decode cX2_init 37 = .ok (.iconst 0, 1) := by decide +kernel
theorem dX2_init_38 : decode cX2_init 38 = .ok (.putfield 25, 3) := by decide +kernel
theorem dX2_init_41 : decode cX2_init 41 = .ok (.aload_n 0, 1) := by decide +kernel
theorem dX2_init_42 : decode cX2_init 42 = .ok (.bipush 10, 2) := by decide +kernel
theorem dX2_init_44 : decode cX2_init 44 = .ok (.newarray .int, 2) := by decide +kernel
theorem dX2_init_46 : decode cX2_init 46 = .ok (.putfield 29, 3) := by decide +kernel
theorem dX2_init_49 : decode cX2_init 49 = .ok (.aload_n 0, 1) := by decide +kernel
theorem dX2_init_50 : decode cX2_init 50 = .ok (.bipush 100, 2) := by decide +kernel
theorem dX2_init_52 : decode cX2_init 52 = .ok (.newarray .int, 2) := by decide +kernel
theorem dX2_init_54 : decode cX2_init 54 = .ok (.putfield 32, 3) := by decide +kernel
theorem dX2_init_57 : decode cX2_init 57 = .ok (.aload_n 0, 1) := by decide +kernel
theorem dX2_init_58 : decode cX2_init 58 = .ok (.sipush 1024, 3) := by decide +kernel
theorem dX2_init_61 : decode cX2_init 61 = .ok (.newarray .int, 2) := by decide +kernel
theorem dX2_init_63 : decode cX2_init 63 = .ok (.putfield 35, 3) := by decide +kernel
theorem dX2_init_66 : decode cX2_init 66 = .ok (.aload_n 0, 1) := by decide +kernel
theorem dX2_init_67 : decode cX2_init 67 = .ok (.bipush 10, 2) := by decide +kernel
theorem dX2_init_69 : decode cX2_init 69 = .ok (.newarray .int, 2) := by decide +kernel
theorem dX2_init_71 : decode cX2_init 71 = .ok (.putfield 38, 3) := by decide +kernel
theorem dX2_init_74 : decode cX2_init 74 = .ok (.aload_n 0, 1) := by decide +kernel
theorem dX2_init_75 : decode cX2_init 75 = .ok (.bipush 32, 2) := by decide +kernel
theorem dX2_init_77 : decode cX2_init 77 = .ok (.newarray .int, 2) := by decide +kernel
theorem dX2_init_79 : decode cX2_init 79 = .ok (.putfield 41, 3) := by decide +kernel
theorem dX2_init_82 : decode cX2_init 82 = .ok (.aload_n 0, 1) := by decide +kernel
theorem dX2_init_83 : decode cX2_init 83 = .ok (.bipush 32, 2) := by decide +kernel
theorem dX2_init_85 : decode cX2_init 85 = .ok (.newarray .int, 2) := by decide +kernel
theorem dX2_init_87 : decode cX2_init 87 = .ok (.putfield 44, 3) := by decide +kernel
theorem dX2_init_90 : decode cX2_init 90 = .ok (.aload_n 0, 1) := by decide +kernel
theorem dX2_init_91 : decode cX2_init 91 = .ok (.sipush 252, 3) := by decide +kernel
theorem dX2_init_94 : decode cX2_init 94 = .ok (.newarray .int, 2) := by decide +kernel
theorem dX2_init_96 : decode cX2_init 96 = .ok (.putfield 47, 3) := by decide +kernel
theorem dX2_init_99 : decode cX2_init 99 = .ok (.aload_n 0, 1) := by decide +kernel
theorem dX2_init_100 : decode cX2_init 100 = .ok (.iconst 0, 1) := by decide +kernel
theorem dX2_init_101 : decode cX2_init 101 = .ok (.putfield 50, 3) := by decide +kernel
theorem dX2_init_104 : decode cX2_init 104 = .ok (.return_, 1) := by decide +kernel
theorem dX2_forget_0 : decode cX2_forget 0 = .ok (.aload_n 0, 1) := by decide +kernel
theorem dX2_forget_1 : decode cX2_forget 1 = .ok (.iconst 0, 1) := by decide +kernel
theorem dX2_forget_2 : decode cX2_forget 2 = .ok (.putfield 25, 3) := by decide +kernel
theorem dX2_forget_5 : decode cX2_forget 5 = .ok (.iconst 0, 1) := by decide +kernel
theorem dX2_forget_6 : decode cX2_forget 6 = .ok (.istore_n 1, 1) := by decide +kernel
theorem dX2_forget_7 : decode cX2_forget 7 = .ok (.iload_n 1, 1) := by decide +kernel
theorem dX2_forget_8 : decode cX2_forget 8 = .ok (.bipush 6, 2) := by decide +kernel
theorem dX2_forget_10 : decode cX2_forget 10 = .ok (.if_icmp .gt 16, 3) := by decide +kernel
theorem dX2_forget_13 : decode cX2_forget 13 = .ok (.aload_n 0, 1) := by decide +kernel
theorem dX2_forget_14 : decode cX2_forget 14 = .ok (.getfield 21, 3) := by decide +kernel
theorem dX2_forget_17 : decode cX2_forget 17 = .ok (.iload_n 1, 1) := by decide +kernel
theorem dX2_forget_18 : decode cX2_forget 18 = .ok (.iconst 0, 1) := by decide +kernel
theorem dX2_forget_19 : decode cX2_forget 19 = .ok (.bastore, 1) := by decide +kernel
theorem dX2_forget_20 : decode cX2_forget 20 = .ok (.iinc 1 1, 3) := by decide +kernel
theorem dX2_forget_23 : decode cX2_forget 23 = .ok (.goto (-16), 3) := by decide +kernel
theorem dX2_forget_26 : decode cX2_forget 26 = .ok (.return_, 1) := by decide +kernel
theorem dX2_know_0 : decode cX2_know 0 = .ok (.aload_n 0, 1) := by decide +kernel
theorem dX2_know_1 : decode cX2_know 1 = .ok (.getfield 25, 3) := by decide +kernel
theorem dX2_know_4 : decode cX2_know 4 = .ok (.ifCond .ne 17, 3) := by decide +kernel
theorem dX2_know_7 : decode cX2_know 7 = .ok (.aload_n 0, 1) := by decide +kernel
theorem dX2_know_8 : decode cX2_know 8 = .ok (.aload_n 1, 1) := by decide +kernel
theorem dX2_know_9 : decode cX2_know 9 = .ok (.invokevirtual 54, 3) := by decide +kernel
theorem dX2_know_12 : decode cX2_know 12 = .ok (.aload_n 0, 1) := by decide +kernel
theorem dX2_know_13 : decode cX2_know 13 = .ok (.invokevirtual 58, 3) := by decide +kernel
theorem dX2_know_16 : decode cX2_know 16 = .ok (.aload_n 0, 1) := by decide +kernel
theorem dX2_know_17 : decode cX2_know 17 = .ok (.iconst 1, 1) := by decide +kernel
theorem dX2_know_18 : decode cX2_know 18 = .ok (.putfield 25, 3) := by decide +kernel
theorem dX2_know_21 : decode cX2_know 21 = .ok (.aload_n 0, 1) := by decide +kernel
theorem dX2_know_22 : decode cX2_know 22 = .ok (.getfield 21, 3) := by decide +kernel
theorem dX2_know_25 : decode cX2_know 25 = .ok (.iload_n 2, 1) := by decide +kernel
theorem dX2_know_26 : decode cX2_know 26 = .ok (.baload, 1) := by decide +kernel
theorem dX2_know_27 : decode cX2_know 27 = .ok (.ifCond .ne 25, 3) := by decide +kernel
theorem dX2_know_30 : decode cX2_know 30 = .ok (.aload_n 0, 1) := by decide +kernel
theorem dX2_know_31 : decode cX2_know 31 = .ok (.aload_n 1, 1) := by decide +kernel
theorem dX2_know_32 : decode cX2_know 32 = .ok (.iload_n 2, 1) := by decide +kernel
theorem dX2_know_33 : decode cX2_know 33 = .ok (.invokevirtual 61, 3) := by decide +kernel
theorem dX2_know_36 : decode cX2_know 36 = .ok (.aload_n 0, 1) := by decide +kernel
theorem dX2_know_37 : decode cX2_know 37 = .ok (.aload_n 1, 1) := by decide +kernel
theorem dX2_know_38 : decode cX2_know 38 = .ok (.invokevirtual 65, 3) := by decide +kernel
theorem dX2_know_41 : decode cX2_know 41 = .ok (.iload_n 2, 1) := by decide +kernel
theorem dX2_know_42 : decode cX2_know 42 = .ok (.invokevirtual 71, 3) := by decide +kernel
theorem dX2_know_45 : decode cX2_know 45 = .ok (.aload_n 0, 1) := by decide +kernel
theorem dX2_know_46 : decode cX2_know 46 = .ok (.getfield 21, 3) := by decide +kernel
theorem dX2_know_49 : decode cX2_know 49 = .ok (.iload_n 2, 1) := by decide +kernel
theorem dX2_know_50 : decode cX2_know 50 = .ok (.iconst 1, 1) := by decide +kernel
theorem dX2_know_51 : decode cX2_know 51 = .ok (.bastore, 1) := by decide +kernel
theorem dX2_know_52 : decode cX2_know 52 = .ok (.return_, 1) := by decide +kernel
theorem dX2_lesser_0 : decode cX2_lesser 0 = .ok (.iload_n 1, 1) := by decide +kernel
theorem dX2_lesser_1 : decode cX2_lesser 1 = .ok (.aload_n 0, 1) := by decide +kernel
theorem dX2_lesser_2 : decode cX2_lesser 2 = .ok (.getfield 75, 3) := by decide +kernel
theorem dX2_lesser_5 : decode cX2_lesser 5 = .ok (.iload_n 1, 1) := by decide +kernel
theorem dX2_lesser_6 : decode cX2_lesser 6 = .ok (.iaload, 1) := by decide +kernel
theorem dX2_lesser_7 : decode cX2_lesser 7 = .ok (.invokestatic 78, 3) := by decide +kernel
theorem dX2_lesser_10 : decode cX2_lesser 10 = .ok (.ireturn, 1) := by decide +kernel
theorem dX2_countDays_0 : decode cX2_countDays 0 = .ok (.aload_n 0, 1) := by decide +kernel
theorem dX2_countDays_1 : decode cX2_countDays 1 = .ok (.getfield 29, 3) := by decide +kernel
theorem dX2_countDays_4 : decode cX2_countDays 4 = .ok (.iconst 0, 1) := by decide +kernel
theorem dX2_countDays_5 : decode cX2_countDays 5 = .ok (.invokestatic 84, 3) := by decide +kernel
theorem dX2_countDays_8 : decode cX2_countDays 8 = .ok (.aload_n 0, 1) := by decide +kernel
theorem dX2_countDays_9 : decode cX2_countDays 9 = .ok (.getfield 32, 3) := by decide +kernel
theorem dX2_countDays_12 : decode cX2_countDays 12 = .ok (.iconst 0, 1) := by decide +kernel
theorem dX2_countDays_13 : decode cX2_countDays 13 = .ok (.invokestatic 84, 3) := by decide +kernel
theorem dX2_countDays_16 : decode cX2_countDays 16 = .ok (.aload_n 1, 1) := by decide +kernel
theorem dX2_countDays_17 : decode cX2_countDays 17 = .ok (.getfield 90, 3) := by decide +kernel
theorem dX2_countDays_20 : decode cX2_countDays 20 = .ok (.istore_n 2, 1) := by decide +kernel
theorem dX2_countDays_21 : decode cX2_countDays 21 = .ok (.iload_n 2, 1) := by decide +kernel
theorem dX2_countDays_22 : decode cX2_countDays 22 = .ok (.aload_n 1, 1) := by decide +kernel
theorem dX2_countDays_23 : decode cX2_countDays 23 = .ok (.getfield 93, 3) := by decide +kernel
theorem dX2_countDays_26 : decode cX2_countDays 26 = .ok (.if_icmp .gt 87, 3) := by decide +kernel
theorem dX2_countDays_29 : decode cX2_countDays 29 = .ok (.aload_n 1, 1) := by decide +kernel
theorem dX2_countDays_30 : decode cX2_countDays 30 = .ok (.iload_n 2, 1) := by decide +kernel
theorem dX2_countDays_31 : decode cX2_countDays 31 = .ok (.bipush 10, 2) := by decide +kernel
theorem dX2_countDays_33 : decode cX2_countDays 33 = .ok (.irem, 1) := by decide +kernel
theorem dX2_countDays_34 : decode cX2_countDays 34 = .ok (.invokestatic 96, 3) := by decide +kernel
theorem dX2_countDays_37 : decode cX2_countDays 37 = .ok (.istore_n 3, 1) := by decide +kernel
theorem dX2_countDays_38 : decode cX2_countDays 38 = .ok (.aload_n 1, 1) := by decide +kernel
theorem dX2_countDays_39 : decode cX2_countDays 39 = .ok (.iload_n 2, 1) := by decide +kernel
theorem dX2_countDays_40 : decode cX2_countDays 40 = .ok (.invokevirtual 100, 3) := by decide +kernel
theorem dX2_countDays_43 : decode cX2_countDays 43 = .ok (.ifCond .eq 54, 3) := by decide +kernel
theorem dX2_countDays_46 : decode cX2_countDays 46 = .ok (.aload_n 1, 1) := by decide +kernel
theorem dX2_countDays_47 : decode cX2_countDays 47 = .ok (.iload_n 2, 1) := by decide +kernel
theorem dX2_countDays_48 : decode cX2_countDays 48 = .ok (.bipush 10, 2) := by decide +kernel
theorem dX2_countDays_50 : decode cX2_countDays 50 = .ok (.idiv, 1) := by decide +kernel
theorem dX2_countDays_51 : decode cX2_countDays 51 = .ok (.invokestatic 96, 3) := by decide +kernel
theorem dX2_countDays_54 : decode cX2_countDays 54 = .ok (.istore 4, 2) := by decide +kernel
theorem dX2_countDays_56 : decode cX2_countDays 56 = .ok (.aload_n 0, 1) := by decide +kernel
theorem dX2_countDays_57 : decode cX2_countDays 57 = .ok (.getfield 32, 3) := by decide +kernel
theorem dX2_countDays_60 : decode cX2_countDays 60 = .ok (.iload 4, 2) := by decide +kernel
theorem dX2_countDays_62 : decode cX2_countDays 62 = .ok (.bipush 10, 2) := by decide +kernel
theorem dX2_countDays_64 : decode cX2_countDays 64 = .ok (.imul, 1) := by decide +kernel
theorem dX2_countDays_65 : decode cX2_countDays 65 = .ok (.iload_n 3, 1) := by decide +kernel
theorem dX2_countDays_66 : decode cX2_countDays 66 = .ok (.iadd, 1) := by decide +kernel
theorem dX2_countDays_67 : decode cX2_countDays 67 = .ok (.dup2, 1) := by decide +kernel
theorem dX2_countDays_68 : decode cX2_countDays 68 = .ok (.iaload, 1) := by decide +kernel
theorem dX2_countDays_69 : decode cX2_countDays 69 = .ok (.iconst 1, 1) := by decide +kernel
theorem dX2_countDays_70 : decode cX2_countDays 70 = .ok (.iadd, 1) := by decide +kernel
theorem dX2_countDays_71 : decode cX2_countDays 71 = .ok (.iastore, 1) := by decide +kernel
theorem dX2_countDays_72 : decode cX2_countDays 72 = .ok (.iload 4, 2) := by decide +kernel
theorem dX2_countDays_74 : decode cX2_countDays 74 = .ok (.iload_n 3, 1) := by decide +kernel
theorem dX2_countDays_75 : decode cX2_countDays 75 = .ok (.if_icmp .eq 19, 3) := by decide +kernel
theorem dX2_countDays_78 : decode cX2_countDays 78 = .ok (.aload_n 0, 1) := by decide +kernel
theorem dX2_countDays_79 : decode cX2_countDays 79 = .ok (.getfield 32, 3) := by decide +kernel
theorem dX2_countDays_82 : decode cX2_countDays 82 = .ok (.iload_n 3, 1) := by decide +kernel
theorem dX2_countDays_83 : decode cX2_countDays 83 = .ok (.bipush 10, 2) := by decide +kernel
theorem dX2_countDays_85 : decode cX2_countDays 85 = .ok (.imul, 1) := by decide +kernel
theorem dX2_countDays_86 : decode cX2_countDays 86 = .ok (.iload 4, 2) := by decide +kernel
theorem dX2_countDays_88 : decode cX2_countDays 88 = .ok (.iadd, 1) := by decide +kernel
theorem dX2_countDays_89 : decode cX2_countDays 89 = .ok (.dup2, 1) := by decide +kernel
theorem dX2_countDays_90 : decode cX2_countDays 90 = .ok (.iaload, 1) := by decide +kernel
theorem dX2_countDays_91 : decode cX2_countDays 91 = .ok (.iconst 1, 1) := by decide +kernel
theorem dX2_countDays_92 : decode cX2_countDays 92 = .ok (.iadd, 1) := by decide +kernel
theorem dX2_countDays_93 : decode cX2_countDays 93 = .ok (.iastore, 1) := by decide +kernel
theorem dX2_countDays_94 : decode cX2_countDays 94 = .ok (.goto 13, 3) := by decide +kernel
theorem dX2_countDays_97 : decode cX2_countDays 97 = .ok (.aload_n 0, 1) := by decide +kernel
theorem dX2_countDays_98 : decode cX2_countDays 98 = .ok (.getfield 29, 3) := by decide +kernel
theorem dX2_countDays_101 : decode cX2_countDays 101 = .ok (.iload_n 3, 1) := by decide +kernel
theorem dX2_countDays_102 : decode cX2_countDays 102 = .ok (.dup2, 1) := by decide +kernel
theorem dX2_countDays_103 : decode cX2_countDays 103 = .ok (.iaload, 1) := by decide +kernel
theorem dX2_countDays_104 : decode cX2_countDays 104 = .ok (.iconst 1, 1) := by decide +kernel
theorem dX2_countDays_105 : decode cX2_countDays 105 = .ok (.iadd, 1) := by decide +kernel
theorem dX2_countDays_106 : decode cX2_countDays 106 = .ok (.iastore, 1) := by decide +kernel
theorem dX2_countDays_107 : decode cX2_countDays 107 = .ok (.iinc 2 1, 3) := by decide +kernel
theorem dX2_countDays_110 : decode cX2_countDays 110 = .ok (.goto (-89), 3) := by decide +kernel
theorem dX2_countDays_113 : decode cX2_countDays 113 = .ok (.return_, 1) := by decide +kernel
theorem dX2_countDoubled_0 : decode cX2_countDoubled 0 = .ok (.aload_n 0, 1) := by decide +kernel
theorem dX2_countDoubled_1 : decode cX2_countDoubled 1 = .ok (.getfield 35, 3) := by decide +kernel
theorem dX2_countDoubled_4 : decode cX2_countDoubled 4 = .ok (.iconst 0, 1) := by decide +kernel
theorem dX2_countDoubled_5 : decode cX2_countDoubled 5 = .ok (.iconst 0, 1) := by decide +kernel
theorem dX2_countDoubled_6 : decode cX2_countDoubled 6 = .ok (.iastore, 1) := by decide +kernel
theorem dX2_countDoubled_7 : decode cX2_countDoubled 7 = .ok (.iconst 1, 1) := by decide +kernel
theorem dX2_countDoubled_8 : decode cX2_countDoubled 8 = .ok (.istore_n 1, 1) := by decide +kernel
theorem dX2_countDoubled_9 : decode cX2_countDoubled 9 = .ok (.iload_n 1, 1) := by decide +kernel
theorem dX2_countDoubled_10 : decode cX2_countDoubled 10 = .ok (.sipush 1024, 3) := by decide +kernel
theorem dX2_countDoubled_13 : decode cX2_countDoubled 13 = .ok (.if_icmp .ge 85, 3) := by decide +kernel
theorem dX2_countDoubled_16 : decode cX2_countDoubled 16 = .ok (.iload_n 1, 1) := by decide +kernel
theorem dX2_countDoubled_17 : decode cX2_countDoubled 17 = .ok (.invokestatic 104, 3) := by decide +kernel
theorem dX2_countDoubled_20 : decode cX2_countDoubled 20 = .ok (.istore_n 2, 1) := by decide +kernel
theorem dX2_countDoubled_21 : decode cX2_countDoubled 21 = .ok (.iload_n 1, 1) := by decide +kernel
theorem dX2_countDoubled_22 : decode cX2_countDoubled 22 = .ok (.iload_n 1, 1) := by decide +kernel
theorem dX2_countDoubled_23 : decode cX2_countDoubled 23 = .ok (.iconst 1, 1) := by decide +kernel
theorem dX2_countDoubled_24 : decode cX2_countDoubled 24 = .ok (.isub, 1) := by decide +kernel
theorem dX2_countDoubled_25 : decode cX2_countDoubled 25 = .ok (.iand, 1) := by decide +kernel
theorem dX2_countDoubled_26 : decode cX2_countDoubled 26 = .ok (.istore_n 3, 1) := by decide +kernel
theorem dX2_countDoubled_27 : decode cX2_countDoubled 27 = .ok (.aload_n 0, 1) := by decide +kernel
theorem dX2_countDoubled_28 : decode cX2_countDoubled 28 = .ok (.getfield 35, 3) := by decide +kernel
theorem dX2_countDoubled_31 : decode cX2_countDoubled 31 = .ok (.iload_n 3, 1) := by decide +kernel
theorem dX2_countDoubled_32 : decode cX2_countDoubled 32 = .ok (.iaload, 1) := by decide +kernel
theorem dX2_countDoubled_33 : decode cX2_countDoubled 33 = .ok (.aload_n 0, 1) := by decide +kernel
theorem dX2_countDoubled_34 : decode cX2_countDoubled 34 = .ok (.getfield 29, 3) := by decide +kernel
theorem dX2_countDoubled_37 : decode cX2_countDoubled 37 = .ok (.iload_n 2, 1) := by decide +kernel
theorem dX2_countDoubled_38 : decode cX2_countDoubled 38 = .ok (.iaload, 1) := by decide +kernel
theorem dX2_countDoubled_39 : decode cX2_countDoubled 39 = .ok (.iadd, 1) := by decide +kernel
theorem dX2_countDoubled_40 : decode cX2_countDoubled 40 = .ok (.istore 4, 2) := by decide +kernel
theorem dX2_countDoubled_42 : decode cX2_countDoubled 42 = .ok (.iload_n 2, 1) := by decide +kernel
theorem dX2_countDoubled_43 : decode cX2_countDoubled 43 = .ok (.iconst 1, 1) := by decide +kernel
theorem dX2_countDoubled_44 : decode cX2_countDoubled 44 = .ok (.iadd, 1) := by decide +kernel
theorem dX2_countDoubled_45 : decode cX2_countDoubled 45 = .ok (.istore 5, 2) := by decide +kernel
theorem dX2_countDoubled_47 : decode cX2_countDoubled 47 = .ok (.iload 5, 2) := by decide +kernel
theorem dX2_countDoubled_49 : decode cX2_countDoubled 49 = .ok (.bipush 10, 2) := by decide +kernel
theorem dX2_countDoubled_51 : decode cX2_countDoubled 51 = .ok (.if_icmp .ge 33, 3) := by decide +kernel
theorem dX2_countDoubled_54 : decode cX2_countDoubled 54 = .ok (.iload 4, 2) := by decide +kernel
theorem dX2_countDoubled_56 : decode cX2_countDoubled 56 = .ok (.iload_n 3, 1) := by decide +kernel
theorem dX2_countDoubled_57 : decode cX2_countDoubled 57 = .ok (.iload 5, 2) := by decide +kernel
theorem dX2_countDoubled_59 : decode cX2_countDoubled 59 = .ok (.ishr, 1) := by decide +kernel
theorem dX2_countDoubled_60 : decode cX2_countDoubled 60 = .ok (.iconst 1, 1) := by decide +kernel
theorem dX2_countDoubled_61 : decode cX2_countDoubled 61 = .ok (.iand, 1) := by decide +kernel
theorem dX2_countDoubled_62 : decode cX2_countDoubled 62 = .ok (.aload_n 0, 1) := by decide +kernel
theorem dX2_countDoubled_63 : decode cX2_countDoubled 63 = .ok (.getfield 32, 3) := by decide +kernel
theorem dX2_countDoubled_66 : decode cX2_countDoubled 66 = .ok (.iload_n 2, 1) := by decide +kernel
theorem dX2_countDoubled_67 : decode cX2_countDoubled 67 = .ok (.bipush 10, 2) := by decide +kernel
theorem dX2_countDoubled_69 : decode cX2_countDoubled 69 = .ok (.imul, 1) := by decide +kernel
theorem dX2_countDoubled_70 : decode cX2_countDoubled 70 = .ok (.iload 5, 2) := by decide +kernel
theorem dX2_countDoubled_72 : decode cX2_countDoubled 72 = .ok (.iadd, 1) := by decide +kernel
theorem dX2_countDoubled_73 : decode cX2_countDoubled 73 = .ok (.iaload, 1) := by decide +kernel
theorem dX2_countDoubled_74 : decode cX2_countDoubled 74 = .ok (.imul, 1) := by decide +kernel
theorem dX2_countDoubled_75 : decode cX2_countDoubled 75 = .ok (.iadd, 1) := by decide +kernel
theorem dX2_countDoubled_76 : decode cX2_countDoubled 76 = .ok (.istore 4, 2) := by decide +kernel
theorem dX2_countDoubled_78 : decode cX2_countDoubled 78 = .ok (.iinc 5 1, 3) := by decide +kernel
theorem dX2_countDoubled_81 : decode cX2_countDoubled 81 = .ok (.goto (-34), 3) := by decide +kernel
theorem dX2_countDoubled_84 : decode cX2_countDoubled 84 = .ok (.aload_n 0, 1) := by decide +kernel
theorem dX2_countDoubled_85 : decode cX2_countDoubled 85 = .ok (.getfield 35, 3) := by decide +kernel
theorem dX2_countDoubled_88 : decode cX2_countDoubled 88 = .ok (.iload_n 1, 1) := by decide +kernel
theorem dX2_countDoubled_89 : decode cX2_countDoubled 89 = .ok (.iload 4, 2) := by decide +kernel
theorem dX2_countDoubled_91 : decode cX2_countDoubled 91 = .ok (.iastore, 1) := by decide +kernel
theorem dX2_countDoubled_92 : decode cX2_countDoubled 92 = .ok (.iinc 1 1, 3) := by decide +kernel
theorem dX2_countDoubled_95 : decode cX2_countDoubled 95 = .ok (.goto (-86), 3) := by decide +kernel
theorem dX2_countDoubled_98 : decode cX2_countDoubled 98 = .ok (.return_, 1) := by decide +kernel
theorem dX2_listSets_0 : decode cX2_listSets 0 = .ok (.iconst 0, 1) := by decide +kernel
theorem dX2_listSets_1 : decode cX2_listSets 1 = .ok (.istore_n 3, 1) := by decide +kernel
theorem dX2_listSets_2 : decode cX2_listSets 2 = .ok (.iconst 0, 1) := by decide +kernel
theorem dX2_listSets_3 : decode cX2_listSets 3 = .ok (.istore 4, 2) := by decide +kernel
theorem dX2_listSets_5 : decode cX2_listSets 5 = .ok (.iload 4, 2) := by decide +kernel
theorem dX2_listSets_7 : decode cX2_listSets 7 = .ok (.bipush 10, 2) := by decide +kernel
theorem dX2_listSets_9 : decode cX2_listSets 9 = .ok (.if_icmp .ge 20, 3) := by decide +kernel
theorem dX2_listSets_12 : decode cX2_listSets 12 = .ok (.iload_n 3, 1) := by decide +kernel
theorem dX2_listSets_13 : decode cX2_listSets 13 = .ok (.iconst 1, 1) := by decide +kernel
theorem dX2_listSets_14 : decode cX2_listSets 14 = .ok (.aload_n 1, 1) := by decide +kernel
theorem dX2_listSets_15 : decode cX2_listSets 15 = .ok (.iload 4, 2) := by decide +kernel
theorem dX2_listSets_17 : decode cX2_listSets 17 = .ok (.invokestatic 96, 3) := by decide +kernel
theorem dX2_listSets_20 : decode cX2_listSets 20 = .ok (.ishl, 1) := by decide +kernel
theorem dX2_listSets_21 : decode cX2_listSets 21 = .ok (.ior, 1) := by decide +kernel
theorem dX2_listSets_22 : decode cX2_listSets 22 = .ok (.istore_n 3, 1) := by decide +kernel
theorem dX2_listSets_23 : decode cX2_listSets 23 = .ok (.iinc 4 1, 3) := by decide +kernel
theorem dX2_listSets_26 : decode cX2_listSets 26 = .ok (.goto (-21), 3) := by decide +kernel
theorem dX2_listSets_29 : decode cX2_listSets 29 = .ok (.iload_n 2, 1) := by decide +kernel
theorem dX2_listSets_30 : decode cX2_listSets 30 = .ok (.iload_n 3, 1) := by decide +kernel
theorem dX2_listSets_31 : decode cX2_listSets 31 = .ok (.invokestatic 108, 3) := by decide +kernel
theorem dX2_listSets_34 : decode cX2_listSets 34 = .ok (.invokestatic 78, 3) := by decide +kernel
theorem dX2_listSets_37 : decode cX2_listSets 37 = .ok (.istore 4, 2) := by decide +kernel
theorem dX2_listSets_39 : decode cX2_listSets 39 = .ok (.aload_n 0, 1) := by decide +kernel
theorem dX2_listSets_40 : decode cX2_listSets 40 = .ok (.iconst 0, 1) := by decide +kernel
theorem dX2_listSets_41 : decode cX2_listSets 41 = .ok (.putfield 50, 3) := by decide +kernel
theorem dX2_listSets_44 : decode cX2_listSets 44 = .ok (.iconst 0, 1) := by decide +kernel
theorem dX2_listSets_45 : decode cX2_listSets 45 = .ok (.istore 5, 2) := by decide +kernel
theorem dX2_listSets_47 : decode cX2_listSets 47 = .ok (.iload 5, 2) := by decide +kernel
theorem dX2_listSets_49 : decode cX2_listSets 49 = .ok (.sipush 1024, 3) := by decide +kernel
theorem dX2_listSets_52 : decode cX2_listSets 52 = .ok (.if_icmp .ge 59, 3) := by decide +kernel
theorem dX2_listSets_55 : decode cX2_listSets 55 = .ok (.aload_n 0, 1) := by decide +kernel
theorem dX2_listSets_56 : decode cX2_listSets 56 = .ok (.getfield 50, 3) := by decide +kernel
theorem dX2_listSets_59 : decode cX2_listSets 59 = .ok (.sipush 252, 3) := by decide +kernel
theorem dX2_listSets_62 : decode cX2_listSets 62 = .ok (.if_icmp .ge 49, 3) := by decide +kernel
theorem dX2_listSets_65 : decode cX2_listSets 65 = .ok (.iload 5, 2) := by decide +kernel
theorem dX2_listSets_67 : decode cX2_listSets 67 = .ok (.iload_n 3, 1) := by decide +kernel
theorem dX2_listSets_68 : decode cX2_listSets 68 = .ok (.iconst (-1), 1) := by decide +kernel
theorem dX2_listSets_69 : decode cX2_listSets 69 = .ok (.ixor, 1) := by decide +kernel
theorem dX2_listSets_70 : decode cX2_listSets 70 = .ok (.iand, 1) := by decide +kernel
theorem dX2_listSets_71 : decode cX2_listSets 71 = .ok (.ifCond .ne 34, 3) := by decide +kernel
theorem dX2_listSets_74 : decode cX2_listSets 74 = .ok (.iload 5, 2) := by decide +kernel
theorem dX2_listSets_76 : decode cX2_listSets 76 = .ok (.invokestatic 108, 3) := by decide +kernel
theorem dX2_listSets_79 : decode cX2_listSets 79 = .ok (.iload 4, 2) := by decide +kernel
theorem dX2_listSets_81 : decode cX2_listSets 81 = .ok (.if_icmp .ne 24, 3) := by decide +kernel
theorem dX2_listSets_84 : decode cX2_listSets 84 = .ok (.aload_n 0, 1) := by decide +kernel
theorem dX2_listSets_85 : decode cX2_listSets 85 = .ok (.getfield 47, 3) := by decide +kernel
theorem dX2_listSets_88 : decode cX2_listSets 88 = .ok (.aload_n 0, 1) := by decide +kernel
theorem dX2_listSets_89 : decode cX2_listSets 89 = .ok (.getfield 50, 3) := by decide +kernel
theorem dX2_listSets_92 : decode cX2_listSets 92 = .ok (.iload 5, 2) := by decide +kernel
theorem dX2_listSets_94 : decode cX2_listSets 94 = .ok (.iastore, 1) := by decide +kernel
theorem dX2_listSets_95 : decode cX2_listSets 95 = .ok (.aload_n 0, 1) := by decide +kernel
theorem dX2_listSets_96 : decode cX2_listSets 96 = .ok (.dup, 1) := by decide +kernel
theorem dX2_listSets_97 : decode cX2_listSets 97 = .ok (.getfield 50, 3) := by decide +kernel
theorem dX2_listSets_100 : decode cX2_listSets 100 = .ok (.iconst 1, 1) := by decide +kernel
theorem dX2_listSets_101 : decode cX2_listSets 101 = .ok (.iadd, 1) := by decide +kernel
theorem dX2_listSets_102 : decode cX2_listSets 102 = .ok (.putfield 50, 3) := by decide +kernel
theorem dX2_listSets_105 : decode cX2_listSets 105 = .ok (.iinc 5 1, 3) := by decide +kernel
theorem dX2_listSets_108 : decode cX2_listSets 108 = .ok (.goto (-61), 3) := by decide +kernel
theorem dX2_listSets_111 : decode cX2_listSets 111 = .ok (.return_, 1) := by decide +kernel
theorem dX2_weighAll_0 : decode cX2_weighAll 0 = .ok (.aload_n 0, 1) := by decide +kernel
theorem dX2_weighAll_1 : decode cX2_weighAll 1 = .ok (.getfield 9, 3) := by decide +kernel
theorem dX2_weighAll_4 : decode cX2_weighAll 4 = .ok (.iload_n 2, 1) := by decide +kernel
theorem dX2_weighAll_5 : decode cX2_weighAll 5 = .ok (.iconst 0, 1) := by decide +kernel
theorem dX2_weighAll_6 : decode cX2_weighAll 6 = .ok (.iastore, 1) := by decide +kernel
theorem dX2_weighAll_7 : decode cX2_weighAll 7 = .ok (.aload_n 0, 1) := by decide +kernel
theorem dX2_weighAll_8 : decode cX2_weighAll 8 = .ok (.getfield 15, 3) := by decide +kernel
theorem dX2_weighAll_11 : decode cX2_weighAll 11 = .ok (.iload_n 2, 1) := by decide +kernel
theorem dX2_weighAll_12 : decode cX2_weighAll 12 = .ok (.iconst (-1), 1) := by decide +kernel
theorem dX2_weighAll_13 : decode cX2_weighAll 13 = .ok (.iastore, 1) := by decide +kernel
theorem dX2_weighAll_14 : decode cX2_weighAll 14 = .ok (.aload_n 0, 1) := by decide +kernel
theorem dX2_weighAll_15 : decode cX2_weighAll 15 = .ok (.getfield 18, 3) := by decide +kernel
theorem dX2_weighAll_18 : decode cX2_weighAll 18 = .ok (.iload_n 2, 1) := by decide +kernel
theorem dX2_weighAll_19 : decode cX2_weighAll 19 = .ok (.iconst 0, 1) := by decide +kernel
theorem dX2_weighAll_20 : decode cX2_weighAll 20 = .ok (.iastore, 1) := by decide +kernel
theorem dX2_weighAll_21 : decode cX2_weighAll 21 = .ok (.iconst 0, 1) := by decide +kernel
theorem dX2_weighAll_22 : decode cX2_weighAll 22 = .ok (.istore_n 3, 1) := by decide +kernel
theorem dX2_weighAll_23 : decode cX2_weighAll 23 = .ok (.iload_n 3, 1) := by decide +kernel
theorem dX2_weighAll_24 : decode cX2_weighAll 24 = .ok (.aload_n 0, 1) := by decide +kernel
theorem dX2_weighAll_25 : decode cX2_weighAll 25 = .ok (.getfield 50, 3) := by decide +kernel
theorem dX2_weighAll_28 : decode cX2_weighAll 28 = .ok (.if_icmp .ge 148, 3) := by decide +kernel
theorem dX2_weighAll_31 : decode cX2_weighAll 31 = .ok (.aload_n 0, 1) := by decide +kernel
theorem dX2_weighAll_32 : decode cX2_weighAll 32 = .ok (.getfield 47, 3) := by decide +kernel
theorem dX2_weighAll_35 : decode cX2_weighAll 35 = .ok (.iload_n 3, 1) := by decide +kernel
theorem dX2_weighAll_36 : decode cX2_weighAll 36 = .ok (.iaload, 1) := by decide +kernel
theorem dX2_weighAll_37 : decode cX2_weighAll 37 = .ok (.istore 4, 2) := by decide +kernel
theorem dX2_weighAll_39 : decode cX2_weighAll 39 = .ok (.aload_n 0, 1) := by decide +kernel
theorem dX2_weighAll_40 : decode cX2_weighAll 40 = .ok (.iload 4, 2) := by decide +kernel
theorem dX2_weighAll_42 : decode cX2_weighAll 42 = .ok (.invokevirtual 113, 3) := by decide +kernel
theorem dX2_weighAll_45 : decode cX2_weighAll 45 = .ok (.istore 5, 2) := by decide +kernel
theorem dX2_weighAll_47 : decode cX2_weighAll 47 = .ok (.iload_n 3, 1) := by decide +kernel
theorem dX2_weighAll_48 : decode cX2_weighAll 48 = .ok (.istore 6, 2) := by decide +kernel
theorem dX2_weighAll_50 : decode cX2_weighAll 50 = .ok (.iload 6, 2) := by decide +kernel
theorem dX2_weighAll_52 : decode cX2_weighAll 52 = .ok (.aload_n 0, 1) := by decide +kernel
theorem dX2_weighAll_53 : decode cX2_weighAll 53 = .ok (.getfield 50, 3) := by decide +kernel
theorem dX2_weighAll_56 : decode cX2_weighAll 56 = .ok (.if_icmp .ge 114, 3) := by decide +kernel
theorem dX2_weighAll_59 : decode cX2_weighAll 59 = .ok (.aload_n 0, 1) := by decide +kernel
theorem dX2_weighAll_60 : decode cX2_weighAll 60 = .ok (.getfield 47, 3) := by decide +kernel
theorem dX2_weighAll_63 : decode cX2_weighAll 63 = .ok (.iload 6, 2) := by decide +kernel
theorem dX2_weighAll_65 : decode cX2_weighAll 65 = .ok (.iaload, 1) := by decide +kernel
theorem dX2_weighAll_66 : decode cX2_weighAll 66 = .ok (.istore 7, 2) := by decide +kernel
theorem dX2_weighAll_68 : decode cX2_weighAll 68 = .ok (.iload 5, 2) := by decide +kernel
theorem dX2_weighAll_70 : decode cX2_weighAll 70 = .ok (.aload_n 0, 1) := by decide +kernel
theorem dX2_weighAll_71 : decode cX2_weighAll 71 = .ok (.getfield 41, 3) := by decide +kernel
theorem dX2_weighAll_74 : decode cX2_weighAll 74 = .ok (.iload 7, 2) := by decide +kernel
theorem dX2_weighAll_76 : decode cX2_weighAll 76 = .ok (.bipush 32, 2) := by decide +kernel
theorem dX2_weighAll_78 : decode cX2_weighAll 78 = .ok (.irem, 1) := by decide +kernel
theorem dX2_weighAll_79 : decode cX2_weighAll 79 = .ok (.iaload, 1) := by decide +kernel
theorem dX2_weighAll_80 : decode cX2_weighAll 80 = .ok (.iadd, 1) := by decide +kernel
theorem dX2_weighAll_81 : decode cX2_weighAll 81 = .ok (.aload_n 0, 1) := by decide +kernel
theorem dX2_weighAll_82 : decode cX2_weighAll 82 = .ok (.getfield 44, 3) := by decide +kernel
theorem dX2_weighAll_85 : decode cX2_weighAll 85 = .ok (.iload 7, 2) := by decide +kernel
theorem dX2_weighAll_87 : decode cX2_weighAll 87 = .ok (.bipush 32, 2) := by decide +kernel
theorem dX2_weighAll_89 : decode cX2_weighAll 89 = .ok (.idiv, 1) := by decide +kernel
theorem dX2_weighAll_90 : decode cX2_weighAll 90 = .ok (.iaload, 1) := by decide +kernel
theorem dX2_weighAll_91 : decode cX2_weighAll 91 = .ok (.iadd, 1) := by decide +kernel
theorem dX2_weighAll_92 : decode cX2_weighAll 92 = .ok (.aload_n 0, 1) := by decide +kernel
theorem dX2_weighAll_93 : decode cX2_weighAll 93 = .ok (.getfield 35, 3) := by decide +kernel
theorem dX2_weighAll_96 : decode cX2_weighAll 96 = .ok (.iload 4, 2) := by decide +kernel
theorem dX2_weighAll_98 : decode cX2_weighAll 98 = .ok (.iload 7, 2) := by decide +kernel
theorem dX2_weighAll_100 : decode cX2_weighAll 100 = .ok (.iand, 1) := by decide +kernel
theorem dX2_weighAll_101 : decode cX2_weighAll 101 = .ok (.iaload, 1) := by decide +kernel
theorem dX2_weighAll_102 : decode cX2_weighAll 102 = .ok (.isub, 1) := by decide +kernel
theorem dX2_weighAll_103 : decode cX2_weighAll 103 = .ok (.istore 8, 2) := by decide +kernel
theorem dX2_weighAll_105 : decode cX2_weighAll 105 = .ok (.iload 8, 2) := by decide +kernel
theorem dX2_weighAll_107 : decode cX2_weighAll 107 = .ok (.aload_n 0, 1) := by decide +kernel
theorem dX2_weighAll_108 : decode cX2_weighAll 108 = .ok (.getfield 18, 3) := by decide +kernel
theorem dX2_weighAll_111 : decode cX2_weighAll 111 = .ok (.iload_n 2, 1) := by decide +kernel
theorem dX2_weighAll_112 : decode cX2_weighAll 112 = .ok (.iaload, 1) := by decide +kernel
theorem dX2_weighAll_113 : decode cX2_weighAll 113 = .ok (.if_icmp .le 11, 3) := by decide +kernel
theorem dX2_weighAll_116 : decode cX2_weighAll 116 = .ok (.aload_n 0, 1) := by decide +kernel
theorem dX2_weighAll_117 : decode cX2_weighAll 117 = .ok (.getfield 18, 3) := by decide +kernel
theorem dX2_weighAll_120 : decode cX2_weighAll 120 = .ok (.iload_n 2, 1) := by decide +kernel
theorem dX2_weighAll_121 : decode cX2_weighAll 121 = .ok (.iload 8, 2) := by decide +kernel
theorem dX2_weighAll_123 : decode cX2_weighAll 123 = .ok (.iastore, 1) := by decide +kernel
theorem dX2_weighAll_124 : decode cX2_weighAll 124 = .ok (.iload 8, 2) := by decide +kernel
theorem dX2_weighAll_126 : decode cX2_weighAll 126 = .ok (.iload_n 1, 1) := by decide +kernel
theorem dX2_weighAll_127 : decode cX2_weighAll 127 = .ok (.if_icmp .ne 37, 3) := by decide +kernel
theorem dX2_weighAll_130 : decode cX2_weighAll 130 = .ok (.aload_n 0, 1) := by decide +kernel
theorem dX2_weighAll_131 : decode cX2_weighAll 131 = .ok (.getfield 9, 3) := by decide +kernel
theorem dX2_weighAll_134 : decode cX2_weighAll 134 = .ok (.iload_n 2, 1) := by decide +kernel
theorem dX2_weighAll_135 : decode cX2_weighAll 135 = .ok (.iaload, 1) := by decide +kernel
theorem dX2_weighAll_136 : decode cX2_weighAll 136 = .ok (.ifCond .ne 18, 3) := by decide +kernel
theorem dX2_weighAll_139 : decode cX2_weighAll 139 = .ok (.aload_n 0, 1) := by decide +kernel
theorem dX2_weighAll_140 : decode cX2_weighAll 140 = .ok (.getfield 15, 3) := by decide +kernel
theorem dX2_weighAll_143 : decode cX2_weighAll 143 = .ok (.iload_n 2, 1) := by decide +kernel
theorem dX2_weighAll_144 : decode cX2_weighAll 144 = .ok (.sipush 1024, 3) := by decide +kernel
theorem dX2_weighAll_147 : decode cX2_weighAll 147 = .ok (.iload 4, 2) := by decide +kernel
theorem dX2_weighAll_149 : decode cX2_weighAll 149 = .ok (.imul, 1) := by decide +kernel
theorem dX2_weighAll_150 : decode cX2_weighAll 150 = .ok (.iload 7, 2) := by decide +kernel
theorem dX2_weighAll_152 : decode cX2_weighAll 152 = .ok (.iadd, 1) := by decide +kernel
theorem dX2_weighAll_153 : decode cX2_weighAll 153 = .ok (.iastore, 1) := by decide +kernel
theorem dX2_weighAll_154 : decode cX2_weighAll 154 = .ok (.aload_n 0, 1) := by decide +kernel
theorem dX2_weighAll_155 : decode cX2_weighAll 155 = .ok (.getfield 9, 3) := by decide +kernel
theorem dX2_weighAll_158 : decode cX2_weighAll 158 = .ok (.iload_n 2, 1) := by decide +kernel
theorem dX2_weighAll_159 : decode cX2_weighAll 159 = .ok (.dup2, 1) := by decide +kernel
theorem dX2_weighAll_160 : decode cX2_weighAll 160 = .ok (.iaload, 1) := by decide +kernel
theorem dX2_weighAll_161 : decode cX2_weighAll 161 = .ok (.iconst 1, 1) := by decide +kernel
theorem dX2_weighAll_162 : decode cX2_weighAll 162 = .ok (.iadd, 1) := by decide +kernel
theorem dX2_weighAll_163 : decode cX2_weighAll 163 = .ok (.iastore, 1) := by decide +kernel
theorem dX2_weighAll_164 : decode cX2_weighAll 164 = .ok (.iinc 6 1, 3) := by decide +kernel
theorem dX2_weighAll_167 : decode cX2_weighAll 167 = .ok (.goto (-117), 3) := by decide +kernel
theorem dX2_weighAll_170 : decode cX2_weighAll 170 = .ok (.iinc 3 1, 3) := by decide +kernel
theorem dX2_weighAll_173 : decode cX2_weighAll 173 = .ok (.goto (-150), 3) := by decide +kernel
theorem dX2_weighAll_176 : decode cX2_weighAll 176 = .ok (.return_, 1) := by decide +kernel
theorem dX2_weighFirst_0 : decode cX2_weighFirst 0 = .ok (.iconst 0, 1) := by decide +kernel
theorem dX2_weighFirst_1 : decode cX2_weighFirst 1 = .ok (.istore_n 2, 1) := by decide +kernel
theorem dX2_weighFirst_2 : decode cX2_weighFirst 2 = .ok (.iconst 0, 1) := by decide +kernel
theorem dX2_weighFirst_3 : decode cX2_weighFirst 3 = .ok (.istore_n 3, 1) := by decide +kernel
theorem dX2_weighFirst_4 : decode cX2_weighFirst 4 = .ok (.iload_n 3, 1) := by decide +kernel
theorem dX2_weighFirst_5 : decode cX2_weighFirst 5 = .ok (.bipush 10, 2) := by decide +kernel
theorem dX2_weighFirst_7 : decode cX2_weighFirst 7 = .ok (.if_icmp .ge 80, 3) := by decide +kernel
theorem dX2_weighFirst_10 : decode cX2_weighFirst 10 = .ok (.aload_n 0, 1) := by decide +kernel
theorem dX2_weighFirst_11 : decode cX2_weighFirst 11 = .ok (.getfield 29, 3) := by decide +kernel
theorem dX2_weighFirst_14 : decode cX2_weighFirst 14 = .ok (.iload_n 3, 1) := by decide +kernel
theorem dX2_weighFirst_15 : decode cX2_weighFirst 15 = .ok (.iaload, 1) := by decide +kernel
theorem dX2_weighFirst_16 : decode cX2_weighFirst 16 = .ok (.istore 4, 2) := by decide +kernel
theorem dX2_weighFirst_18 : decode cX2_weighFirst 18 = .ok (.iconst 0, 1) := by decide +kernel
theorem dX2_weighFirst_19 : decode cX2_weighFirst 19 = .ok (.istore 5, 2) := by decide +kernel
theorem dX2_weighFirst_21 : decode cX2_weighFirst 21 = .ok (.iload 5, 2) := by decide +kernel
theorem dX2_weighFirst_23 : decode cX2_weighFirst 23 = .ok (.bipush 10, 2) := by decide +kernel
theorem dX2_weighFirst_25 : decode cX2_weighFirst 25 = .ok (.if_icmp .ge 33, 3) := by decide +kernel
theorem dX2_weighFirst_28 : decode cX2_weighFirst 28 = .ok (.iload 4, 2) := by decide +kernel
theorem dX2_weighFirst_30 : decode cX2_weighFirst 30 = .ok (.iload_n 1, 1) := by decide +kernel
theorem dX2_weighFirst_31 : decode cX2_weighFirst 31 = .ok (.iload 5, 2) := by decide +kernel
theorem dX2_weighFirst_33 : decode cX2_weighFirst 33 = .ok (.ishr, 1) := by decide +kernel
theorem dX2_weighFirst_34 : decode cX2_weighFirst 34 = .ok (.iconst 1, 1) := by decide +kernel
theorem dX2_weighFirst_35 : decode cX2_weighFirst 35 = .ok (.iand, 1) := by decide +kernel
theorem dX2_weighFirst_36 : decode cX2_weighFirst 36 = .ok (.aload_n 0, 1) := by decide +kernel
theorem dX2_weighFirst_37 : decode cX2_weighFirst 37 = .ok (.getfield 32, 3) := by decide +kernel
theorem dX2_weighFirst_40 : decode cX2_weighFirst 40 = .ok (.iload_n 3, 1) := by decide +kernel
theorem dX2_weighFirst_41 : decode cX2_weighFirst 41 = .ok (.bipush 10, 2) := by decide +kernel
theorem dX2_weighFirst_43 : decode cX2_weighFirst 43 = .ok (.imul, 1) := by decide +kernel
theorem dX2_weighFirst_44 : decode cX2_weighFirst 44 = .ok (.iload 5, 2) := by decide +kernel
theorem dX2_weighFirst_46 : decode cX2_weighFirst 46 = .ok (.iadd, 1) := by decide +kernel
theorem dX2_weighFirst_47 : decode cX2_weighFirst 47 = .ok (.iaload, 1) := by decide +kernel
theorem dX2_weighFirst_48 : decode cX2_weighFirst 48 = .ok (.imul, 1) := by decide +kernel
theorem dX2_weighFirst_49 : decode cX2_weighFirst 49 = .ok (.iadd, 1) := by decide +kernel
theorem dX2_weighFirst_50 : decode cX2_weighFirst 50 = .ok (.istore 4, 2) := by decide +kernel
theorem dX2_weighFirst_52 : decode cX2_weighFirst 52 = .ok (.iinc 5 1, 3) := by decide +kernel
theorem dX2_weighFirst_55 : decode cX2_weighFirst 55 = .ok (.goto (-34), 3) := by decide +kernel
theorem dX2_weighFirst_58 : decode cX2_weighFirst 58 = .ok (.aload_n 0, 1) := by decide +kernel
theorem dX2_weighFirst_59 : decode cX2_weighFirst 59 = .ok (.getfield 38, 3) := by decide +kernel
theorem dX2_weighFirst_62 : decode cX2_weighFirst 62 = .ok (.iload_n 3, 1) := by decide +kernel
theorem dX2_weighFirst_63 : decode cX2_weighFirst 63 = .ok (.iload 4, 2) := by decide +kernel
theorem dX2_weighFirst_65 : decode cX2_weighFirst 65 = .ok (.iastore, 1) := by decide +kernel
theorem dX2_weighFirst_66 : decode cX2_weighFirst 66 = .ok (.iload_n 2, 1) := by decide +kernel
theorem dX2_weighFirst_67 : decode cX2_weighFirst 67 = .ok (.iload_n 1, 1) := by decide +kernel
theorem dX2_weighFirst_68 : decode cX2_weighFirst 68 = .ok (.iload_n 3, 1) := by decide +kernel
theorem dX2_weighFirst_69 : decode cX2_weighFirst 69 = .ok (.ishr, 1) := by decide +kernel
theorem dX2_weighFirst_70 : decode cX2_weighFirst 70 = .ok (.iconst 1, 1) := by decide +kernel
theorem dX2_weighFirst_71 : decode cX2_weighFirst 71 = .ok (.iand, 1) := by decide +kernel
theorem dX2_weighFirst_72 : decode cX2_weighFirst 72 = .ok (.aload_n 0, 1) := by decide +kernel
theorem dX2_weighFirst_73 : decode cX2_weighFirst 73 = .ok (.getfield 29, 3) := by decide +kernel
theorem dX2_weighFirst_76 : decode cX2_weighFirst 76 = .ok (.iload_n 3, 1) := by decide +kernel
theorem dX2_weighFirst_77 : decode cX2_weighFirst 77 = .ok (.iaload, 1) := by decide +kernel
theorem dX2_weighFirst_78 : decode cX2_weighFirst 78 = .ok (.imul, 1) := by decide +kernel
theorem dX2_weighFirst_79 : decode cX2_weighFirst 79 = .ok (.iadd, 1) := by decide +kernel
theorem dX2_weighFirst_80 : decode cX2_weighFirst 80 = .ok (.istore_n 2, 1) := by decide +kernel
theorem dX2_weighFirst_81 : decode cX2_weighFirst 81 = .ok (.iinc 3 1, 3) := by decide +kernel
theorem dX2_weighFirst_84 : decode cX2_weighFirst 84 = .ok (.goto (-80), 3) := by decide +kernel
theorem dX2_weighFirst_87 : decode cX2_weighFirst 87 = .ok (.iconst 1, 1) := by decide +kernel
theorem dX2_weighFirst_88 : decode cX2_weighFirst 88 = .ok (.istore_n 3, 1) := by decide +kernel
theorem dX2_weighFirst_89 : decode cX2_weighFirst 89 = .ok (.iload_n 3, 1) := by decide +kernel
theorem dX2_weighFirst_90 : decode cX2_weighFirst 90 = .ok (.bipush 32, 2) := by decide +kernel
theorem dX2_weighFirst_92 : decode cX2_weighFirst 92 = .ok (.if_icmp .ge 66, 3) := by decide +kernel
theorem dX2_weighFirst_95 : decode cX2_weighFirst 95 = .ok (.iload_n 3, 1) := by decide +kernel
theorem dX2_weighFirst_96 : decode cX2_weighFirst 96 = .ok (.invokestatic 104, 3) := by decide +kernel
theorem dX2_weighFirst_99 : decode cX2_weighFirst 99 = .ok (.istore 4, 2) := by decide +kernel
theorem dX2_weighFirst_101 : decode cX2_weighFirst 101 = .ok (.iload_n 3, 1) := by decide +kernel
theorem dX2_weighFirst_102 : decode cX2_weighFirst 102 = .ok (.iload_n 3, 1) := by decide +kernel
theorem dX2_weighFirst_103 : decode cX2_weighFirst 103 = .ok (.iconst 1, 1) := by decide +kernel
theorem dX2_weighFirst_104 : decode cX2_weighFirst 104 = .ok (.isub, 1) := by decide +kernel
theorem dX2_weighFirst_105 : decode cX2_weighFirst 105 = .ok (.iand, 1) := by decide +kernel
theorem dX2_weighFirst_106 : decode cX2_weighFirst 106 = .ok (.istore 5, 2) := by decide +kernel
theorem dX2_weighFirst_108 : decode cX2_weighFirst 108 = .ok (.aload_n 0, 1) := by decide +kernel
theorem dX2_weighFirst_109 : decode cX2_weighFirst 109 = .ok (.getfield 41, 3) := by decide +kernel
theorem dX2_weighFirst_112 : decode cX2_weighFirst 112 = .ok (.iload_n 3, 1) := by decide +kernel
theorem dX2_weighFirst_113 : decode cX2_weighFirst 113 = .ok (.aload_n 0, 1) := by decide +kernel
theorem dX2_weighFirst_114 : decode cX2_weighFirst 114 = .ok (.getfield 41, 3) := by decide +kernel
theorem dX2_weighFirst_117 : decode cX2_weighFirst 117 = .ok (.iload 5, 2) := by decide +kernel
theorem dX2_weighFirst_119 : decode cX2_weighFirst 119 = .ok (.iaload, 1) := by decide +kernel
theorem dX2_weighFirst_120 : decode cX2_weighFirst 120 = .ok (.aload_n 0, 1) := by decide +kernel
theorem dX2_weighFirst_121 : decode cX2_weighFirst 121 = .ok (.getfield 38, 3) := by decide +kernel
theorem dX2_weighFirst_124 : decode cX2_weighFirst 124 = .ok (.iload 4, 2) := by decide +kernel
theorem dX2_weighFirst_126 : decode cX2_weighFirst 126 = .ok (.iaload, 1) := by decide +kernel
theorem dX2_weighFirst_127 : decode cX2_weighFirst 127 = .ok (.iadd, 1) := by decide +kernel
theorem dX2_weighFirst_128 : decode cX2_weighFirst 128 = .ok (.iastore, 1) := by decide +kernel
theorem dX2_weighFirst_129 : decode cX2_weighFirst 129 = .ok (.aload_n 0, 1) := by decide +kernel
theorem dX2_weighFirst_130 : decode cX2_weighFirst 130 = .ok (.getfield 44, 3) := by decide +kernel
theorem dX2_weighFirst_133 : decode cX2_weighFirst 133 = .ok (.iload_n 3, 1) := by decide +kernel
theorem dX2_weighFirst_134 : decode cX2_weighFirst 134 = .ok (.aload_n 0, 1) := by decide +kernel
theorem dX2_weighFirst_135 : decode cX2_weighFirst 135 = .ok (.getfield 44, 3) := by decide +kernel
theorem dX2_weighFirst_138 : decode cX2_weighFirst 138 = .ok (.iload 5, 2) := by decide +kernel
theorem dX2_weighFirst_140 : decode cX2_weighFirst 140 = .ok (.iaload, 1) := by decide +kernel
theorem dX2_weighFirst_141 : decode cX2_weighFirst 141 = .ok (.aload_n 0, 1) := by decide +kernel
theorem dX2_weighFirst_142 : decode cX2_weighFirst 142 = .ok (.getfield 38, 3) := by decide +kernel
theorem dX2_weighFirst_145 : decode cX2_weighFirst 145 = .ok (.iconst 5, 1) := by decide +kernel
theorem dX2_weighFirst_146 : decode cX2_weighFirst 146 = .ok (.iload 4, 2) := by decide +kernel
theorem dX2_weighFirst_148 : decode cX2_weighFirst 148 = .ok (.iadd, 1) := by decide +kernel
theorem dX2_weighFirst_149 : decode cX2_weighFirst 149 = .ok (.iaload, 1) := by decide +kernel
theorem dX2_weighFirst_150 : decode cX2_weighFirst 150 = .ok (.iadd, 1) := by decide +kernel
theorem dX2_weighFirst_151 : decode cX2_weighFirst 151 = .ok (.iastore, 1) := by decide +kernel
theorem dX2_weighFirst_152 : decode cX2_weighFirst 152 = .ok (.iinc 3 1, 3) := by decide +kernel
theorem dX2_weighFirst_155 : decode cX2_weighFirst 155 = .ok (.goto (-66), 3) := by decide +kernel
theorem dX2_weighFirst_158 : decode cX2_weighFirst 158 = .ok (.iload_n 2, 1) := by decide +kernel
theorem dX2_weighFirst_159 : decode cX2_weighFirst 159 = .ok (.ireturn, 1) := by decide +kernel
theorem dX3_init_0 : decode cX3_init 0 = .ok (.aload_n 0, 1) := by decide +kernel
theorem dX3_init_1 : decode cX3_init 1 = .ok (.invokespecial 3, 3) := by decide +kernel
theorem dX3_init_4 : decode cX3_init 4 = .ok (.aload_n 0, 1) := by decide +kernel
theorem dX3_init_5 : decode cX3_init 5 = .ok (.iconst 0, 1) := by decide +kernel
theorem dX3_init_6 : decode cX3_init 6 = .ok (.putfield 9, 3) := by decide +kernel
theorem dX3_init_9 : decode cX3_init 9 = .ok (.aload_n 0, 1) := by decide +kernel
theorem dX3_init_10 : decode cX3_init 10 = .ok (.iconst 0, 1) := by decide +kernel
theorem dX3_init_11 : decode cX3_init 11 = .ok (.putfield 15, 3) := by decide +kernel
theorem dX3_init_14 : decode cX3_init 14 = .ok (.aload_n 0, 1) := by decide +kernel
theorem dX3_init_15 : decode cX3_init 15 = .ok (.bipush 20, 2) := by decide +kernel
theorem dX3_init_17 : decode cX3_init 17 = .ok (.anewarray 18, 3) := by decide +kernel
theorem dX3_init_20 : decode cX3_init 20 = .ok (.putfield 20, 3) := by decide +kernel
theorem dX3_init_23 : decode cX3_init 23 = .ok (.iconst 0, 1) := by decide +kernel
theorem dX3_init_24 : decode cX3_init 24 = .ok (.istore_n 1, 1) := by decide +kernel
theorem dX3_init_25 : decode cX3_init 25 = .ok (.iload_n 1, 1) := by decide +kernel
theorem dX3_init_26 : decode cX3_init 26 = .ok (.bipush 20, 2) := by decide +kernel
theorem dX3_init_28 : decode cX3_init 28 = .ok (.if_icmp .ge 22, 3) := by decide +kernel
theorem dX3_init_31 : decode cX3_init 31 = .ok (.aload_n 0, 1) := by decide +kernel
theorem dX3_init_32 : decode cX3_init 32 = .ok (.getfield 20, 3) := by decide +kernel
theorem dX3_init_35 : decode cX3_init 35 = .ok (.iload_n 1, 1) := by decide +kernel
theorem dX3_init_36 : decode cX3_init 36 = .ok (.new 18, 3) := by decide +kernel
theorem dX3_init_39 : decode cX3_init 39 = .ok (.dup, 1) := by decide +kernel
theorem dX3_init_40 : decode cX3_init 40 = .ok (.invokespecial 24, 3) := by decide +kernel
theorem dX3_init_43 : decode cX3_init 43 = .ok (.aastore, 1) := by decide +kernel
theorem dX3_init_44 : decode cX3_init 44 = .ok (.iinc 1 1, 3) := by decide +kernel
theorem dX3_init_47 : decode cX3_init 47 = .ok (.goto (-22), 3) := by decide +kernel
theorem dX3_init_50 : decode cX3_init 50 = .ok (.return_, 1) := by decide +kernel
theorem dX3_clear_0 : decode cX3_clear 0 = .ok (.aload_n 0, 1) := by decide +kernel
theorem dX3_clear_1 : decode cX3_clear 1 = .ok (.iconst 0, 1) := by decide +kernel
theorem dX3_clear_2 : decode cX3_clear 2 = .ok (.putfield 9, 3) := by decide +kernel
theorem dX3_clear_5 : decode cX3_clear 5 = .ok (.return_, 1) := by decide +kernel
theorem dX3_remember_0 : decode cX3_remember 0 = .ok (.aload_n 0, 1) := by decide +kernel
theorem dX3_remember_1 : decode cX3_remember 1 = .ok (.getfield 20, 3) := by decide +kernel
theorem dX3_remember_4 : decode cX3_remember 4 = .ok (.aload_n 0, 1) := by decide +kernel
theorem dX3_remember_5 : decode cX3_remember 5 = .ok (.getfield 15, 3) := by decide +kernel
theorem dX3_remember_8 : decode cX3_remember 8 = .ok (.aaload, 1) := by decide +kernel
theorem dX3_remember_9 : decode cX3_remember 9 = .ok (.aload_n 1, 1) := by decide +kernel
theorem dX3_remember_10 : decode cX3_remember 10 = .ok (.invokevirtual 25, 3) := by decide +kernel
theorem dX3_remember_13 : decode cX3_remember 13 = .ok (.aload_n 0, 1) := by decide +kernel
theorem dX3_remember_14 : decode cX3_remember 14 = .ok (.aload_n 0, 1) := by decide +kernel
theorem dX3_remember_15 : decode cX3_remember 15 = .ok (.getfield 15, 3) := by decide +kernel
theorem dX3_remember_18 : decode cX3_remember 18 = .ok (.iconst 1, 1) := by decide +kernel
theorem dX3_remember_19 : decode cX3_remember 19 = .ok (.iadd, 1) := by decide +kernel
theorem dX3_remember_20 : decode cX3_remember 20 = .ok (.bipush 20, 2) := by decide +kernel
theorem dX3_remember_22 : decode cX3_remember 22 = .ok (.irem, 1) := by decide +kernel
theorem dX3_remember_23 : decode cX3_remember 23 = .ok (.putfield 15, 3) := by decide +kernel
theorem dX3_remember_26 : decode cX3_remember 26 = .ok (.aload_n 0, 1) := by decide +kernel
theorem dX3_remember_27 : decode cX3_remember 27 = .ok (.aload_n 0, 1) := by decide +kernel
theorem dX3_remember_28 : decode cX3_remember 28 = .ok (.getfield 9, 3) := by decide +kernel
theorem dX3_remember_31 : decode cX3_remember 31 = .ok (.iconst 1, 1) := by decide +kernel
theorem dX3_remember_32 : decode cX3_remember 32 = .ok (.iadd, 1) := by decide +kernel
theorem dX3_remember_33 : decode cX3_remember 33 = .ok (.bipush 20, 2) := by decide +kernel
theorem dX3_remember_35 : decode cX3_remember 35 = .ok (.invokestatic 29, 3) := by decide +kernel
theorem dX3_remember_38 : decode cX3_remember 38 = .ok (.putfield 9, 3) := by decide +kernel
theorem dX3_remember_41 : decode cX3_remember 41 = .ok (.return_, 1) := by decide +kernel
theorem dX3_bringBack_0 : decode cX3_bringBack 0 = .ok (.aload_n 0, 1) := by decide +kernel
theorem dX3_bringBack_1 : decode cX3_bringBack 1 = .ok (.getfield 9, 3) := by decide +kernel
theorem dX3_bringBack_4 : decode cX3_bringBack 4 = .ok (.ifCond .le 42, 3) := by decide +kernel
theorem dX3_bringBack_7 : decode cX3_bringBack 7 = .ok (.aload_n 0, 1) := by decide +kernel
theorem dX3_bringBack_8 : decode cX3_bringBack 8 = .ok (.aload_n 0, 1) := by decide +kernel
theorem dX3_bringBack_9 : decode cX3_bringBack 9 = .ok (.getfield 15, 3) := by decide +kernel
theorem dX3_bringBack_12 : decode cX3_bringBack 12 = .ok (.bipush 20, 2) := by decide +kernel
theorem dX3_bringBack_14 : decode cX3_bringBack 14 = .ok (.iadd, 1) := by decide +kernel
theorem dX3_bringBack_15 : decode cX3_bringBack 15 = .ok (.iconst 1, 1) := by decide +kernel
theorem dX3_bringBack_16 : decode cX3_bringBack 16 = .ok (.isub, 1) := by decide +kernel
theorem dX3_bringBack_17 : decode cX3_bringBack 17 = .ok (.bipush 20, 2) := by decide +kernel
theorem dX3_bringBack_19 : decode cX3_bringBack 19 = .ok (.irem, 1) := by decide +kernel
theorem dX3_bringBack_20 : decode cX3_bringBack 20 = .ok (.putfield 15, 3) := by decide +kernel
theorem dX3_bringBack_23 : decode cX3_bringBack 23 = .ok (.aload_n 0, 1) := by decide +kernel
theorem dX3_bringBack_24 : decode cX3_bringBack 24 = .ok (.dup, 1) := by decide +kernel
theorem dX3_bringBack_25 : decode cX3_bringBack 25 = .ok (.getfield 9, 3) := by decide +kernel
theorem dX3_bringBack_28 : decode cX3_bringBack 28 = .ok (.iconst 1, 1) := by decide +kernel
theorem dX3_bringBack_29 : decode cX3_bringBack 29 = .ok (.isub, 1) := by decide +kernel
theorem dX3_bringBack_30 : decode cX3_bringBack 30 = .ok (.putfield 9, 3) := by decide +kernel
theorem dX3_bringBack_33 : decode cX3_bringBack 33 = .ok (.aload_n 1, 1) := by decide +kernel
theorem dX3_bringBack_34 : decode cX3_bringBack 34 = .ok (.aload_n 0, 1) := by decide +kernel
theorem dX3_bringBack_35 : decode cX3_bringBack 35 = .ok (.getfield 20, 3) := by decide +kernel
theorem dX3_bringBack_38 : decode cX3_bringBack 38 = .ok (.aload_n 0, 1) := by decide +kernel
theorem dX3_bringBack_39 : decode cX3_bringBack 39 = .ok (.getfield 15, 3) := by decide +kernel
theorem dX3_bringBack_42 : decode cX3_bringBack 42 = .ok (.aaload, 1) := by decide +kernel
theorem dX3_bringBack_43 : decode cX3_bringBack 43 = .ok (.invokevirtual 25, 3) := by decide +kernel
theorem dX3_bringBack_46 : decode cX3_bringBack 46 = .ok (.return_, 1) := by decide +kernel
theorem dX4_init_0 : decode cX4_init 0 = .ok (.aload_n 0, 1) := by decide +kernel
theorem dX4_init_1 : decode cX4_init 1 = .ok (.invokespecial 3, 3) := by decide +kernel
theorem dX4_init_4 : decode cX4_init 4 = .ok (.aload_n 0, 1) := by decide +kernel
theorem dX4_init_5 : decode cX4_init 5 = .ok (.bipush 24, 2) := by decide +kernel
theorem dX4_init_7 : decode cX4_init 7 = .ok (.newarray .int, 2) := by decide +kernel
theorem dX4_init_9 : decode cX4_init 9 = .ok (.putfield 9, 3) := by decide +kernel
theorem dX4_init_12 : decode cX4_init 12 = .ok (.aload_n 0, 1) := by decide +kernel
theorem dX4_init_13 : decode cX4_init 13 = .ok (.iconst 0, 1) := by decide +kernel
theorem dX4_init_14 : decode cX4_init 14 = .ok (.putfield 15, 3) := by decide +kernel
theorem dX4_init_17 : decode cX4_init 17 = .ok (.aload_n 0, 1) := by decide +kernel
theorem dX4_init_18 : decode cX4_init 18 = .ok (.iconst 0, 1) := by decide +kernel
theorem dX4_init_19 : decode cX4_init 19 = .ok (.putfield 19, 3) := by decide +kernel
theorem dX4_init_22 : decode cX4_init 22 = .ok (.aload_n 0, 1) := by decide +kernel
theorem dX4_init_23 : decode cX4_init 23 = .ok (.iconst 0, 1) := by decide +kernel
theorem dX4_init_24 : decode cX4_init 24 = .ok (.putfield 22, 3) := by decide +kernel
theorem dX4_init_27 : decode cX4_init 27 = .ok (.return_, 1) := by decide +kernel
theorem dX4_begin_0 : decode cX4_begin 0 = .ok (.aload_n 1, 1) := by decide +kernel
theorem dX4_begin_1 : decode cX4_begin 1 = .ok (.getfield 25, 3) := by decide +kernel
theorem dX4_begin_4 : decode cX4_begin 4 = .ok (.iconst 0, 1) := by decide +kernel
theorem dX4_begin_5 : decode cX4_begin 5 = .ok (.aload_n 0, 1) := by decide +kernel
theorem dX4_begin_6 : decode cX4_begin 6 = .ok (.getfield 9, 3) := by decide +kernel
theorem dX4_begin_9 : decode cX4_begin 9 = .ok (.iconst 0, 1) := by decide +kernel
theorem dX4_begin_10 : decode cX4_begin 10 = .ok (.bipush 24, 2) := by decide +kernel
theorem dX4_begin_12 : decode cX4_begin 12 = .ok (.invokestatic 28, 3) := by decide +kernel
theorem dX4_begin_15 : decode cX4_begin 15 = .ok (.aload_n 0, 1) := by decide +kernel
theorem dX4_begin_16 : decode cX4_begin 16 = .ok (.iconst 0, 1) := by decide +kernel
theorem dX4_begin_17 : decode cX4_begin 17 = .ok (.putfield 15, 3) := by decide +kernel
theorem dX4_begin_20 : decode cX4_begin 20 = .ok (.aload_n 0, 1) := by decide +kernel
theorem dX4_begin_21 : decode cX4_begin 21 = .ok (.iconst 0, 1) := by decide +kernel
theorem dX4_begin_22 : decode cX4_begin 22 = .ok (.putfield 19, 3) := by decide +kernel
theorem dX4_begin_25 : decode cX4_begin 25 = .ok (.return_, 1) := by decide +kernel
theorem dX4_takeDone_0 : decode cX4_takeDone 0 = .ok (.aload_n 1, 1) := by decide +kernel
theorem dX4_takeDone_1 : decode cX4_takeDone 1 = .ok (.getfield 9, 3) := by decide +kernel
theorem dX4_takeDone_4 : decode cX4_takeDone 4 = .ok (.iconst 0, 1) := by decide +kernel
theorem dX4_takeDone_5 : decode cX4_takeDone 5 = .ok (.aload_n 0, 1) := by decide +kernel
theorem dX4_takeDone_6 : decode cX4_takeDone 6 = .ok (.getfield 9, 3) := by decide +kernel
theorem dX4_takeDone_9 : decode cX4_takeDone 9 = .ok (.iconst 0, 1) := by decide +kernel
theorem dX4_takeDone_10 : decode cX4_takeDone 10 = .ok (.bipush 24, 2) := by decide +kernel
theorem dX4_takeDone_12 : decode cX4_takeDone 12 = .ok (.invokestatic 28, 3) := by decide +kernel
theorem dX4_takeDone_15 : decode cX4_takeDone 15 = .ok (.aload_n 0, 1) := by decide +kernel
theorem dX4_takeDone_16 : decode cX4_takeDone 16 = .ok (.aload_n 1, 1) := by decide +kernel
theorem dX4_takeDone_17 : decode cX4_takeDone 17 = .ok (.getfield 15, 3) := by decide +kernel
theorem dX4_takeDone_20 : decode cX4_takeDone 20 = .ok (.putfield 15, 3) := by decide +kernel
theorem dX4_takeDone_23 : decode cX4_takeDone 23 = .ok (.aload_n 0, 1) := by decide +kernel
theorem dX4_takeDone_24 : decode cX4_takeDone 24 = .ok (.aload_n 1, 1) := by decide +kernel
theorem dX4_takeDone_25 : decode cX4_takeDone 25 = .ok (.getfield 19, 3) := by decide +kernel
theorem dX4_takeDone_28 : decode cX4_takeDone 28 = .ok (.putfield 19, 3) := by decide +kernel
theorem dX4_takeDone_31 : decode cX4_takeDone 31 = .ok (.return_, 1) := by decide +kernel
theorem dX4_takeAll_0 : decode cX4_takeAll 0 = .ok (.aload_n 0, 1) := by decide +kernel
theorem dX4_takeAll_1 : decode cX4_takeAll 1 = .ok (.aload_n 1, 1) := by decide +kernel
theorem dX4_takeAll_2 : decode cX4_takeAll 2 = .ok (.invokevirtual 34, 3) := by decide +kernel
theorem dX4_takeAll_5 : decode cX4_takeAll 5 = .ok (.aload_n 0, 1) := by decide +kernel
theorem dX4_takeAll_6 : decode cX4_takeAll 6 = .ok (.aload_n 1, 1) := by decide +kernel
theorem dX4_takeAll_7 : decode cX4_takeAll 7 = .ok (.getfield 22, 3) := by decide +kernel
theorem dX4_takeAll_10 : decode cX4_takeAll 10 = .ok (.putfield 22, 3) := by decide +kernel
theorem dX4_takeAll_13 : decode cX4_takeAll 13 = .ok (.return_, 1) := by decide +kernel
theorem dX4_isLost_0 : decode cX4_isLost 0 = .ok (.aload_n 0, 1) := by decide +kernel
theorem dX4_isLost_1 : decode cX4_isLost 1 = .ok (.getfield 15, 3) := by decide +kernel
theorem dX4_isLost_4 : decode cX4_isLost 4 = .ok (.iload_n 1, 1) := by decide +kernel
theorem dX4_isLost_5 : decode cX4_isLost 5 = .ok (.ishr, 1) := by decide +kernel
theorem dX4_isLost_6 : decode cX4_isLost 6 = .ok (.iconst 1, 1) := by decide +kernel
theorem dX4_isLost_7 : decode cX4_isLost 7 = .ok (.iand, 1) := by decide +kernel
theorem dX4_isLost_8 : decode cX4_isLost 8 = .ok (.iconst 1, 1) := by decide +kernel
theorem dX4_isLost_9 : decode cX4_isLost 9 = .ok (.if_icmp .ne 7, 3) := by decide +kernel
theorem dX4_isLost_12 : decode cX4_isLost 12 = .ok (.iconst 1, 1) := by decide +kernel
theorem dX4_isLost_13 : decode cX4_isLost 13 = .ok (.goto 4, 3) := by decide +kernel
theorem dX4_isLost_16 : decode cX4_isLost 16 = .ok (.iconst 0, 1) := by decide +kernel
theorem dX4_isLost_17 : decode cX4_isLost 17 = .ok (.ireturn, 1) := by decide +kernel
theorem dX4_putOn_0 : decode cX4_putOn 0 = .ok (.aload_n 1, 1) := by decide +kernel
theorem dX4_putOn_1 : decode cX4_putOn 1 = .ok (.iload_n 2, 1) := by decide +kernel
theorem dX4_putOn_2 : decode cX4_putOn 2 = .ok (.iload_n 3, 1) := by decide +kernel
theorem dX4_putOn_3 : decode cX4_putOn 3 = .ok (.invokevirtual 38, 3) := by decide +kernel
theorem dX4_putOn_6 : decode cX4_putOn 6 = .ok (.ifCond .eq 39, 3) := by decide +kernel
theorem dX4_putOn_9 : decode cX4_putOn 9 = .ok (.iload 4, 2) := by decide +kernel
theorem dX4_putOn_11 : decode cX4_putOn 11 = .ok (.invokestatic 42, 3) := by decide +kernel
theorem dX4_putOn_14 : decode cX4_putOn 14 = .ok (.ifCond .eq 31, 3) := by decide +kernel
theorem dX4_putOn_17 : decode cX4_putOn 17 = .ok (.aload_n 0, 1) := by decide +kernel
theorem dX4_putOn_18 : decode cX4_putOn 18 = .ok (.getfield 9, 3) := by decide +kernel
theorem dX4_putOn_21 : decode cX4_putOn 21 = .ok (.iload_n 2, 1) := by decide +kernel
theorem dX4_putOn_22 : decode cX4_putOn 22 = .ok (.iload_n 3, 1) := by decide +kernel
theorem dX4_putOn_23 : decode cX4_putOn 23 = .ok (.invokestatic 46, 3) := by decide +kernel
theorem dX4_putOn_26 : decode cX4_putOn 26 = .ok (.iload 4, 2) := by decide +kernel
theorem dX4_putOn_28 : decode cX4_putOn 28 = .ok (.iastore, 1) := by decide +kernel
theorem dX4_putOn_29 : decode cX4_putOn 29 = .ok (.aload_n 0, 1) := by decide +kernel
theorem dX4_putOn_30 : decode cX4_putOn 30 = .ok (.dup, 1) := by decide +kernel
theorem dX4_putOn_31 : decode cX4_putOn 31 = .ok (.getfield 19, 3) := by decide +kernel
theorem dX4_putOn_34 : decode cX4_putOn 34 = .ok (.aload_n 1, 1) := by decide +kernel
theorem dX4_putOn_35 : decode cX4_putOn 35 = .ok (.getfield 50, 3) := by decide +kernel
theorem dX4_putOn_38 : decode cX4_putOn 38 = .ok (.iload 4, 2) := by decide +kernel
theorem dX4_putOn_40 : decode cX4_putOn 40 = .ok (.iaload, 1) := by decide +kernel
theorem dX4_putOn_41 : decode cX4_putOn 41 = .ok (.iadd, 1) := by decide +kernel
theorem dX4_putOn_42 : decode cX4_putOn 42 = .ok (.putfield 19, 3) := by decide +kernel
theorem dX4_putOn_45 : decode cX4_putOn 45 = .ok (.return_, 1) := by decide +kernel
theorem dX4_draw_0 : decode cX4_draw 0 = .ok (.aload_n 0, 1) := by decide +kernel
theorem dX4_draw_1 : decode cX4_draw 1 = .ok (.aload_n 0, 1) := by decide +kernel
theorem dX4_draw_2 : decode cX4_draw 2 = .ok (.getfield 22, 3) := by decide +kernel
theorem dX4_draw_5 : decode cX4_draw 5 = .ok (.i2l, 1) := by decide +kernel
theorem dX4_draw_6 : decode cX4_draw 6 = .ok (.ldc2_w 53, 3) := by decide +kernel
theorem dX4_draw_9 : decode cX4_draw 9 = .ok (.lmul, 1) := by decide +kernel
theorem dX4_draw_10 : decode cX4_draw 10 = .ok (.ldc2_w 55, 3) := by decide +kernel
theorem dX4_draw_13 : decode cX4_draw 13 = .ok (.ladd, 1) := by decide +kernel
theorem dX4_draw_14 : decode cX4_draw 14 = .ok (.ldc2_w 57, 3) := by decide +kernel
theorem dX4_draw_17 : decode cX4_draw 17 = .ok (.land, 1) := by decide +kernel
theorem dX4_draw_18 : decode cX4_draw 18 = .ok (.l2i, 1) := by decide +kernel
theorem dX4_draw_19 : decode cX4_draw 19 = .ok (.putfield 22, 3) := by decide +kernel
theorem dX4_draw_22 : decode cX4_draw 22 = .ok (.iload_n 1, 1) := by decide +kernel
theorem dX4_draw_23 : decode cX4_draw 23 = .ok (.ifCond .le 15, 3) := by decide +kernel
theorem dX4_draw_26 : decode cX4_draw 26 = .ok (.aload_n 0, 1) := by decide +kernel
theorem dX4_draw_27 : decode cX4_draw 27 = .ok (.getfield 22, 3) := by decide +kernel
theorem dX4_draw_30 : decode cX4_draw 30 = .ok (.ldc 59, 2) := by decide +kernel
theorem dX4_draw_32 : decode cX4_draw 32 = .ok (.idiv, 1) := by decide +kernel
theorem dX4_draw_33 : decode cX4_draw 33 = .ok (.iload_n 1, 1) := by decide +kernel
theorem dX4_draw_34 : decode cX4_draw 34 = .ok (.irem, 1) := by decide +kernel
theorem dX4_draw_35 : decode cX4_draw 35 = .ok (.goto 4, 3) := by decide +kernel
theorem dX4_draw_38 : decode cX4_draw 38 = .ok (.iconst 0, 1) := by decide +kernel
theorem dX4_draw_39 : decode cX4_draw 39 = .ok (.ireturn, 1) := by decide +kernel
theorem dX4_figuresSeen_0 : decode cX4_figuresSeen 0 = .ok (.iconst 0, 1) := by decide +kernel
theorem dX4_figuresSeen_1 : decode cX4_figuresSeen 1 = .ok (.istore 4, 2) := by decide +kernel
theorem dX4_figuresSeen_3 : decode cX4_figuresSeen 3 = .ok (.iconst 0, 1) := by decide +kernel
theorem dX4_figuresSeen_4 : decode cX4_figuresSeen 4 = .ok (.istore 5, 2) := by decide +kernel
theorem dX4_figuresSeen_6 : decode cX4_figuresSeen 6 = .ok (.iload 5, 2) := by decide +kernel
theorem dX4_figuresSeen_8 : decode cX4_figuresSeen 8 = .ok (.aload_n 1, 1) := by decide +kernel
theorem dX4_figuresSeen_9 : decode cX4_figuresSeen 9 = .ok (.getfield 60, 3) := by decide +kernel
theorem dX4_figuresSeen_12 : decode cX4_figuresSeen 12 = .ok (.iload_n 2, 1) := by decide +kernel
theorem dX4_figuresSeen_13 : decode cX4_figuresSeen 13 = .ok (.iaload, 1) := by decide +kernel
theorem dX4_figuresSeen_14 : decode cX4_figuresSeen 14 = .ok (.if_icmp .ge 35, 3) := by decide +kernel
theorem dX4_figuresSeen_17 : decode cX4_figuresSeen 17 = .ok (.iload 5, 2) := by decide +kernel
theorem dX4_figuresSeen_19 : decode cX4_figuresSeen 19 = .ok (.iload_n 3, 1) := by decide +kernel
theorem dX4_figuresSeen_20 : decode cX4_figuresSeen 20 = .ok (.if_icmp .eq 23, 3) := by decide +kernel
theorem dX4_figuresSeen_23 : decode cX4_figuresSeen 23 = .ok (.iload 4, 2) := by decide +kernel
theorem dX4_figuresSeen_25 : decode cX4_figuresSeen 25 = .ok (.aload_n 1, 1) := by decide +kernel
theorem dX4_figuresSeen_26 : decode cX4_figuresSeen 26 = .ok (.aload_n 0, 1) := by decide +kernel
theorem dX4_figuresSeen_27 : decode cX4_figuresSeen 27 = .ok (.getfield 9, 3) := by decide +kernel
theorem dX4_figuresSeen_30 : decode cX4_figuresSeen 30 = .ok (.iload_n 2, 1) := by decide +kernel
theorem dX4_figuresSeen_31 : decode cX4_figuresSeen 31 = .ok (.iload 5, 2) := by decide +kernel
theorem dX4_figuresSeen_33 : decode cX4_figuresSeen 33 = .ok (.invokestatic 46, 3) := by decide +kernel
theorem dX4_figuresSeen_36 : decode cX4_figuresSeen 36 = .ok (.iaload, 1) := by decide +kernel
theorem dX4_figuresSeen_37 : decode cX4_figuresSeen 37 = .ok (.invokevirtual 63, 3) := by decide +kernel
theorem dX4_figuresSeen_40 : decode cX4_figuresSeen 40 = .ok (.ior, 1) := by decide +kernel
theorem dX4_figuresSeen_41 : decode cX4_figuresSeen 41 = .ok (.istore 4, 2) := by decide +kernel
theorem dX4_figuresSeen_43 : decode cX4_figuresSeen 43 = .ok (.iinc 5 1, 3) := by decide +kernel
theorem dX4_figuresSeen_46 : decode cX4_figuresSeen 46 = .ok (.goto (-40), 3) := by decide +kernel
theorem dX4_figuresSeen_49 : decode cX4_figuresSeen 49 = .ok (.iload 4, 2) := by decide +kernel
theorem dX4_figuresSeen_51 : decode cX4_figuresSeen 51 = .ok (.ireturn, 1) := by decide +kernel
theorem dX5_init_0 : decode cX5_init 0 = .ok (.aload_n 0, 1) := by decide +kernel
theorem dX5_init_1 : decode cX5_init 1 = .ok (.invokespecial 3, 3) := by decide +kernel
theorem dX5_init_4 : decode cX5_init 4 = .ok (.aload_n 0, 1) := by decide +kernel
theorem dX5_init_5 : decode cX5_init 5 = .ok (.sipush 220, 3) := by decide +kernel
theorem dX5_init_8 : decode cX5_init 8 = .ok (.newarray .char, 2) := by decide +kernel
theorem dX5_init_10 : decode cX5_init 10 = .ok (.putfield 9, 3) := by decide +kernel
theorem dX5_init_13 : decode cX5_init 13 = .ok (.aload_n 0, 1) := by decide +kernel
theorem dX5_init_14 : decode cX5_init 14 = .ok (.iconst 0, 1) := by decide +kernel
theorem dX5_init_15 : decode cX5_init 15 = .ok (.putfield 15, 3) := by decide +kernel
theorem dX5_init_18 : decode cX5_init 18 = .ok (.aload_n 0, 1) := by decide +kernel
theorem dX5_init_19 : decode cX5_init 19 = .ok (.iconst (-1), 1) := by decide +kernel
theorem dX5_init_20 : decode cX5_init 20 = .ok (.putfield 19, 3) := by decide +kernel
theorem dX5_init_23 : decode cX5_init 23 = .ok (.aload_n 0, 1) := by decide +kernel
theorem dX5_init_24 : decode cX5_init 24 = .ok (.iconst 0, 1) := by decide +kernel
theorem dX5_init_25 : decode cX5_init 25 = .ok (.putfield 22, 3) := by decide +kernel
theorem dX5_init_28 : decode cX5_init 28 = .ok (.aload_n 0, 1) := by decide +kernel
theorem dX5_init_29 : decode cX5_init 29 = .ok (.iconst 0, 1) := by decide +kernel
theorem dX5_init_30 : decode cX5_init 30 = .ok (.putfield 25, 3) := by decide +kernel
theorem dX5_init_33 : decode cX5_init 33 = .ok (.aload_n 0, 1) := by decide +kernel
theorem dX5_init_34 : decode cX5_init 34 = .ok (.iconst 0, 1) := by decide +kernel
theorem dX5_init_35 : decode cX5_init 35 = .ok (.putfield 28, 3) := by decide +kernel
theorem dX5_init_38 : decode cX5_init 38 = .ok (.aload_n 0, 1) := by decide +kernel
theorem dX5_init_39 : decode cX5_init 39 = .ok (.iconst 0, 1) := by decide +kernel
theorem dX5_init_40 : decode cX5_init 40 = .ok (.putfield 31, 3) := by decide +kernel
theorem dX5_init_43 : decode cX5_init 43 = .ok (.aload_n 0, 1) := by decide +kernel
theorem dX5_init_44 : decode cX5_init 44 = .ok (.iconst 0, 1) := by decide +kernel
theorem dX5_init_45 : decode cX5_init 45 = .ok (.putfield 34, 3) := by decide +kernel
theorem dX5_init_48 : decode cX5_init 48 = .ok (.return_, 1) := by decide +kernel
theorem dX5_isFull_0 : decode cX5_isFull 0 = .ok (.aload_n 0, 1) := by decide +kernel
theorem dX5_isFull_1 : decode cX5_isFull 1 = .ok (.getfield 15, 3) := by decide +kernel
theorem dX5_isFull_4 : decode cX5_isFull 4 = .ok (.sipush 220, 3) := by decide +kernel
theorem dX5_isFull_7 : decode cX5_isFull 7 = .ok (.if_icmp .lt 7, 3) := by decide +kernel
theorem dX5_isFull_10 : decode cX5_isFull 10 = .ok (.iconst 1, 1) := by decide +kernel
theorem dX5_isFull_11 : decode cX5_isFull 11 = .ok (.goto 4, 3) := by decide +kernel
theorem dX5_isFull_14 : decode cX5_isFull 14 = .ok (.iconst 0, 1) := by decide +kernel
theorem dX5_isFull_15 : decode cX5_isFull 15 = .ok (.ireturn, 1) := by decide +kernel
theorem dX5_add_0 : decode cX5_add 0 = .ok (.aload_n 0, 1) := by decide +kernel
theorem dX5_add_1 : decode cX5_add 1 = .ok (.invokevirtual 37, 3) := by decide +kernel
theorem dX5_add_4 : decode cX5_add 4 = .ok (.ifCond .ne 23, 3) := by decide +kernel
theorem dX5_add_7 : decode cX5_add 7 = .ok (.aload_n 0, 1) := by decide +kernel
theorem dX5_add_8 : decode cX5_add 8 = .ok (.getfield 9, 3) := by decide +kernel
theorem dX5_add_11 : decode cX5_add 11 = .ok (.aload_n 0, 1) := by decide +kernel
theorem dX5_add_12 : decode cX5_add 12 = .ok (.getfield 15, 3) := by decide +kernel
theorem dX5_add_15 : decode cX5_add 15 = .ok (.iload_n 1, 1) := by decide +kernel
theorem dX5_add_16 : decode cX5_add 16 = .ok (.castore, 1) := by decide +kernel
theorem dX5_add_17 : decode cX5_add 17 = .ok (.aload_n 0, 1) := by decide +kernel
theorem dX5_add_18 : decode cX5_add 18 = .ok (.dup, 1) := by decide +kernel
theorem dX5_add_19 : decode cX5_add 19 = .ok (.getfield 15, 3) := by decide +kernel
theorem dX5_add_22 : decode cX5_add 22 = .ok (.iconst 1, 1) := by decide +kernel
theorem dX5_add_23 : decode cX5_add 23 = .ok (.iadd, 1) := by decide +kernel
theorem dX5_add_24 : decode cX5_add 24 = .ok (.putfield 15, 3) := by decide +kernel
theorem dX5_add_27 : decode cX5_add 27 = .ok (.return_, 1) := by decide +kernel
theorem dX5_readInto_0 : decode cX5_readInto 0 = .ok (.aload_n 1, 1) := by decide +kernel
theorem dX5_readInto_1 : decode cX5_readInto 1 = .ok (.invokevirtual 41, 3) := by decide +kernel
theorem dX5_readInto_4 : decode cX5_readInto 4 = .ok (.aload_n 0, 1) := by decide +kernel
theorem dX5_readInto_5 : decode cX5_readInto 5 = .ok (.iconst 0, 1) := by decide +kernel
theorem dX5_readInto_6 : decode cX5_readInto 6 = .ok (.putfield 25, 3) := by decide +kernel
theorem dX5_readInto_9 : decode cX5_readInto 9 = .ok (.aload_n 0, 1) := by decide +kernel
theorem dX5_readInto_10 : decode cX5_readInto 10 = .ok (.iconst 0, 1) := by decide +kernel
theorem dX5_readInto_11 : decode cX5_readInto 11 = .ok (.putfield 31, 3) := by decide +kernel
theorem dX5_readInto_14 : decode cX5_readInto 14 = .ok (.aload_n 0, 1) := by decide +kernel
theorem dX5_readInto_15 : decode cX5_readInto 15 = .ok (.iconst 0, 1) := by decide +kernel
theorem dX5_readInto_16 : decode cX5_readInto 16 = .ok (.putfield 34, 3) := by decide +kernel
theorem dX5_readInto_19 : decode cX5_readInto 19 = .ok (.aload_n 0, 1) := by decide +kernel
theorem dX5_readInto_20 : decode cX5_readInto 20 = .ok (.iconst 0, 1) := by decide +kernel
theorem dX5_readInto_21 : decode cX5_readInto 21 = .ok (.putfield 22, 3) := by decide +kernel
theorem dX5_readInto_24 : decode cX5_readInto 24 = .ok (.aload_n 0, 1) := by decide +kernel
theorem dX5_readInto_25 : decode cX5_readInto 25 = .ok (.iconst (-1), 1) := by decide +kernel
theorem dX5_readInto_26 : decode cX5_readInto 26 = .ok (.putfield 19, 3) := by decide +kernel
theorem dX5_readInto_29 : decode cX5_readInto 29 = .ok (.iconst 0, 1) := by decide +kernel
theorem dX5_readInto_30 : decode cX5_readInto 30 = .ok (.istore_n 2, 1) := by decide +kernel
theorem dX5_readInto_31 : decode cX5_readInto 31 = .ok (.iload_n 2, 1) := by decide +kernel
theorem dX5_readInto_32 : decode cX5_readInto 32 = .ok (.sipush 220, 3) := by decide +kernel
theorem dX5_readInto_35 : decode cX5_readInto 35 = .ok (.if_icmp .ge 21, 3) := by decide +kernel
theorem dX5_readInto_38 : decode cX5_readInto 38 = .ok (.aload_n 0, 1) := by decide +kernel
theorem dX5_readInto_39 : decode cX5_readInto 39 = .ok (.invokevirtual 46, 3) := by decide +kernel
theorem dX5_readInto_42 : decode cX5_readInto 42 = .ok (.ifCond .eq 14, 3) := by decide +kernel
theorem dX5_readInto_45 : decode cX5_readInto 45 = .ok (.aload_n 0, 1) := by decide +kernel
theorem dX5_readInto_46 : decode cX5_readInto 46 = .ok (.aload_n 1, 1) := by decide +kernel
theorem dX5_readInto_47 : decode cX5_readInto 47 = .ok (.invokevirtual 49, 3) := by decide +kernel
theorem dX5_readInto_50 : decode cX5_readInto 50 = .ok (.iinc 2 1, 3) := by decide +kernel
theorem dX5_readInto_53 : decode cX5_readInto 53 = .ok (.goto (-22), 3) := by decide +kernel
theorem dX5_readInto_56 : decode cX5_readInto 56 = .ok (.aload_n 0, 1) := by decide +kernel
theorem dX5_readInto_57 : decode cX5_readInto 57 = .ok (.iconst 0, 1) := by decide +kernel
theorem dX5_readInto_58 : decode cX5_readInto 58 = .ok (.putfield 15, 3) := by decide +kernel
theorem dX5_readInto_61 : decode cX5_readInto 61 = .ok (.aload_n 0, 1) := by decide +kernel
theorem dX5_readInto_62 : decode cX5_readInto 62 = .ok (.getfield 22, 3) := by decide +kernel
theorem dX5_readInto_65 : decode cX5_readInto 65 = .ok (.ireturn, 1) := by decide +kernel
theorem dX5_hasMore_0 : decode cX5_hasMore 0 = .ok (.aload_n 0, 1) := by decide +kernel
theorem dX5_hasMore_1 : decode cX5_hasMore 1 = .ok (.invokevirtual 53, 3) := by decide +kernel
theorem dX5_hasMore_4 : decode cX5_hasMore 4 = .ok (.aload_n 0, 1) := by decide +kernel
theorem dX5_hasMore_5 : decode cX5_hasMore 5 = .ok (.getfield 22, 3) := by decide +kernel
theorem dX5_hasMore_8 : decode cX5_hasMore 8 = .ok (.ifCond .ne 18, 3) := by decide +kernel
theorem dX5_hasMore_11 : decode cX5_hasMore 11 = .ok (.aload_n 0, 1) := by decide +kernel
theorem dX5_hasMore_12 : decode cX5_hasMore 12 = .ok (.getfield 25, 3) := by decide +kernel
theorem dX5_hasMore_15 : decode cX5_hasMore 15 = .ok (.aload_n 0, 1) := by decide +kernel
theorem dX5_hasMore_16 : decode cX5_hasMore 16 = .ok (.getfield 15, 3) := by decide +kernel
theorem dX5_hasMore_19 : decode cX5_hasMore 19 = .ok (.if_icmp .ge 7, 3) := by decide +kernel
theorem dX5_hasMore_22 : decode cX5_hasMore 22 = .ok (.iconst 1, 1) := by decide +kernel
theorem dX5_hasMore_23 : decode cX5_hasMore 23 = .ok (.goto 4, 3) := by decide +kernel
theorem dX5_hasMore_26 : decode cX5_hasMore 26 = .ok (.iconst 0, 1) := by decide +kernel
theorem dX5_hasMore_27 : decode cX5_hasMore 27 = .ok (.ireturn, 1) := by decide +kernel
theorem dX5_skipBlanks_0 : decode cX5_skipBlanks 0 = .ok (.aload_n 0, 1) := by decide +kernel
theorem dX5_skipBlanks_1 : decode cX5_skipBlanks 1 = .ok (.getfield 25, 3) := by decide +kernel
theorem dX5_skipBlanks_4 : decode cX5_skipBlanks 4 = .ok (.aload_n 0, 1) := by decide +kernel
theorem dX5_skipBlanks_5 : decode cX5_skipBlanks 5 = .ok (.getfield 15, 3) := by decide +kernel
theorem dX5_skipBlanks_8 : decode cX5_skipBlanks 8 = .ok (.if_icmp .ge 30, 3) := by decide +kernel
theorem dX5_skipBlanks_11 : decode cX5_skipBlanks 11 = .ok (.aload_n 0, 1) := by decide +kernel
theorem dX5_skipBlanks_12 : decode cX5_skipBlanks 12 = .ok (.getfield 9, 3) := by decide +kernel
theorem dX5_skipBlanks_15 : decode cX5_skipBlanks 15 = .ok (.aload_n 0, 1) := by decide +kernel
theorem dX5_skipBlanks_16 : decode cX5_skipBlanks 16 = .ok (.getfield 25, 3) := by decide +kernel
theorem dX5_skipBlanks_19 : decode cX5_skipBlanks 19 = .ok (.caload, 1) := by decide +kernel
theorem dX5_skipBlanks_20 : decode cX5_skipBlanks 20 = .ok (.bipush 32, 2) := by decide +kernel
theorem dX5_skipBlanks_22 : decode cX5_skipBlanks 22 = .ok (.if_icmp .ne 16, 3) := by decide +kernel
theorem dX5_skipBlanks_25 : decode cX5_skipBlanks 25 = .ok (.aload_n 0, 1) := by decide +kernel
theorem dX5_skipBlanks_26 : decode cX5_skipBlanks 26 = .ok (.dup, 1) := by decide +kernel
theorem dX5_skipBlanks_27 : decode cX5_skipBlanks 27 = .ok (.getfield 25, 3) := by decide +kernel
theorem dX5_skipBlanks_30 : decode cX5_skipBlanks 30 = .ok (.iconst 1, 1) := by decide +kernel
theorem dX5_skipBlanks_31 : decode cX5_skipBlanks 31 = .ok (.iadd, 1) := by decide +kernel
theorem dX5_skipBlanks_32 : decode cX5_skipBlanks 32 = .ok (.putfield 25, 3) := by decide +kernel
theorem dX5_skipBlanks_35 : decode cX5_skipBlanks 35 = .ok (.goto (-35), 3) := by decide +kernel
theorem dX5_skipBlanks_38 : decode cX5_skipBlanks 38 = .ok (.return_, 1) := by decide +kernel
theorem dX5_isNext_0 : decode cX5_isNext 0 = .ok (.aload_n 0, 1) := by decide +kernel
theorem dX5_isNext_1 : decode cX5_isNext 1 = .ok (.invokevirtual 53, 3) := by decide +kernel
theorem dX5_isNext_4 : decode cX5_isNext 4 = .ok (.aload_n 0, 1) := by decide +kernel
theorem dX5_isNext_5 : decode cX5_isNext 5 = .ok (.getfield 25, 3) := by decide +kernel
theorem dX5_isNext_8 : decode cX5_isNext 8 = .ok (.aload_n 0, 1) := by decide +kernel
theorem dX5_isNext_9 : decode cX5_isNext 9 = .ok (.getfield 15, 3) := by decide +kernel
theorem dX5_isNext_12 : decode cX5_isNext 12 = .ok (.if_icmp .ge 20, 3) := by decide +kernel
theorem dX5_isNext_15 : decode cX5_isNext 15 = .ok (.aload_n 0, 1) := by decide +kernel
theorem dX5_isNext_16 : decode cX5_isNext 16 = .ok (.getfield 9, 3) := by decide +kernel
theorem dX5_isNext_19 : decode cX5_isNext 19 = .ok (.aload_n 0, 1) := by decide +kernel
theorem dX5_isNext_20 : decode cX5_isNext 20 = .ok (.getfield 25, 3) := by decide +kernel
theorem dX5_isNext_23 : decode cX5_isNext 23 = .ok (.caload, 1) := by decide +kernel
theorem dX5_isNext_24 : decode cX5_isNext 24 = .ok (.iload_n 1, 1) := by decide +kernel
theorem dX5_isNext_25 : decode cX5_isNext 25 = .ok (.if_icmp .ne 7, 3) := by decide +kernel
theorem dX5_isNext_28 : decode cX5_isNext 28 = .ok (.iconst 1, 1) := by decide +kernel
theorem dX5_isNext_29 : decode cX5_isNext 29 = .ok (.goto 4, 3) := by decide +kernel
theorem dX5_isNext_32 : decode cX5_isNext 32 = .ok (.iconst 0, 1) := by decide +kernel
theorem dX5_isNext_33 : decode cX5_isNext 33 = .ok (.ireturn, 1) := by decide +kernel
theorem dX5_blame_0 : decode cX5_blame 0 = .ok (.aload_n 0, 1) := by decide +kernel
theorem dX5_blame_1 : decode cX5_blame 1 = .ok (.getfield 22, 3) := by decide +kernel
theorem dX5_blame_4 : decode cX5_blame 4 = .ok (.ifCond .ne 13, 3) := by decide +kernel
theorem dX5_blame_7 : decode cX5_blame 7 = .ok (.aload_n 0, 1) := by decide +kernel
theorem dX5_blame_8 : decode cX5_blame 8 = .ok (.iload_n 1, 1) := by decide +kernel
theorem dX5_blame_9 : decode cX5_blame 9 = .ok (.putfield 22, 3) := by decide +kernel
theorem dX5_blame_12 : decode cX5_blame 12 = .ok (.aload_n 0, 1) := by decide +kernel
theorem dX5_blame_13 : decode cX5_blame 13 = .ok (.iload_n 2, 1) := by decide +kernel
theorem dX5_blame_14 : decode cX5_blame 14 = .ok (.putfield 19, 3) := by decide +kernel
theorem dX5_blame_17 : decode cX5_blame 17 = .ok (.return_, 1) := by decide +kernel
theorem dX5_readClause_0 : decode cX5_readClause 0 = .ok (.aload_n 0, 1) := by decide +kernel
theorem dX5_readClause_1 : decode cX5_readClause 1 = .ok (.bipush 100, 2) := by decide +kernel
theorem dX5_readClause_3 : decode cX5_readClause 3 = .ok (.invokevirtual 56, 3) := by decide +kernel
theorem dX5_readClause_6 : decode cX5_readClause 6 = .ok (.ifCond .eq 11, 3) := by decide +kernel
theorem dX5_readClause_9 : decode cX5_readClause 9 = .ok (.aload_n 0, 1) := by decide +kernel
theorem dX5_readClause_10 : decode cX5_readClause 10 = .ok (.aload_n 1, 1) := by decide +kernel
theorem dX5_readClause_11 : decode cX5_readClause 11 = .ok (.invokevirtual 60, 3) := by decide +kernel
theorem dX5_readClause_14 : decode cX5_readClause 14 = .ok (.goto 82, 3) := by decide +kernel
theorem dX5_readClause_17 : decode cX5_readClause 17 = .ok (.aload_n 1, 1) := by decide +kernel
theorem dX5_readClause_18 : decode cX5_readClause 18 = .ok (.getfield 63, 3) := by decide +kernel
theorem dX5_readClause_21 : decode cX5_readClause 21 = .ok (.ifCond .ne 15, 3) := by decide +kernel
theorem dX5_readClause_24 : decode cX5_readClause 24 = .ok (.aload_n 0, 1) := by decide +kernel
theorem dX5_readClause_25 : decode cX5_readClause 25 = .ok (.iconst 1, 1) := by decide +kernel
theorem dX5_readClause_26 : decode cX5_readClause 26 = .ok (.aload_n 0, 1) := by decide +kernel
theorem dX5_readClause_27 : decode cX5_readClause 27 = .ok (.getfield 25, 3) := by decide +kernel
theorem dX5_readClause_30 : decode cX5_readClause 30 = .ok (.invokevirtual 67, 3) := by decide +kernel
theorem dX5_readClause_33 : decode cX5_readClause 33 = .ok (.goto 63, 3) := by decide +kernel
theorem dX5_readClause_36 : decode cX5_readClause 36 = .ok (.aload_n 0, 1) := by decide +kernel
theorem dX5_readClause_37 : decode cX5_readClause 37 = .ok (.bipush 99, 2) := by decide +kernel
theorem dX5_readClause_39 : decode cX5_readClause 39 = .ok (.invokevirtual 56, 3) := by decide +kernel
theorem dX5_readClause_42 : decode cX5_readClause 42 = .ok (.ifCond .eq 11, 3) := by decide +kernel
theorem dX5_readClause_45 : decode cX5_readClause 45 = .ok (.aload_n 0, 1) := by decide +kernel
theorem dX5_readClause_46 : decode cX5_readClause 46 = .ok (.aload_n 1, 1) := by decide +kernel
theorem dX5_readClause_47 : decode cX5_readClause 47 = .ok (.invokevirtual 71, 3) := by decide +kernel
theorem dX5_readClause_50 : decode cX5_readClause 50 = .ok (.goto 46, 3) := by decide +kernel
theorem dX5_readClause_53 : decode cX5_readClause 53 = .ok (.aload_n 0, 1) := by decide +kernel
theorem dX5_readClause_54 : decode cX5_readClause 54 = .ok (.bipush 116, 2) := by decide +kernel
theorem dX5_readClause_56 : decode cX5_readClause 56 = .ok (.invokevirtual 56, 3) := by decide +kernel
theorem dX5_readClause_59 : decode cX5_readClause 59 = .ok (.ifCond .eq 11, 3) := by decide +kernel
theorem dX5_readClause_62 : decode cX5_readClause 62 = .ok (.aload_n 0, 1) := by decide +kernel
theorem dX5_readClause_63 : decode cX5_readClause 63 = .ok (.aload_n 1, 1) := by decide +kernel
theorem dX5_readClause_64 : decode cX5_readClause 64 = .ok (.invokevirtual 74, 3) := by decide +kernel
theorem dX5_readClause_67 : decode cX5_readClause 67 = .ok (.goto 29, 3) := by decide +kernel
theorem dX5_readClause_70 : decode cX5_readClause 70 = .ok (.aload_n 0, 1) := by decide +kernel
theorem dX5_readClause_71 : decode cX5_readClause 71 = .ok (.bipush 112, 2) := by decide +kernel
theorem dX5_readClause_73 : decode cX5_readClause 73 = .ok (.invokevirtual 56, 3) := by decide +kernel
theorem dX5_readClause_76 : decode cX5_readClause 76 = .ok (.ifCond .eq 11, 3) := by decide +kernel
theorem dX5_readClause_79 : decode cX5_readClause 79 = .ok (.aload_n 0, 1) := by decide +kernel
theorem dX5_readClause_80 : decode cX5_readClause 80 = .ok (.aload_n 1, 1) := by decide +kernel
theorem dX5_readClause_81 : decode cX5_readClause 81 = .ok (.invokevirtual 77, 3) := by decide +kernel
theorem dX5_readClause_84 : decode cX5_readClause 84 = .ok (.goto 12, 3) := by decide +kernel
theorem dX5_readClause_87 : decode cX5_readClause 87 = .ok (.aload_n 0, 1) := by decide +kernel
theorem dX5_readClause_88 : decode cX5_readClause 88 = .ok (.iconst 1, 1) := by decide +kernel
theorem dX5_readClause_89 : decode cX5_readClause 89 = .ok (.aload_n 0, 1) := by decide +kernel
theorem dX5_readClause_90 : decode cX5_readClause 90 = .ok (.getfield 25, 3) := by decide +kernel
theorem dX5_readClause_93 : decode cX5_readClause 93 = .ok (.invokevirtual 67, 3) := by decide +kernel
theorem dX5_readClause_96 : decode cX5_readClause 96 = .ok (.return_, 1) := by decide +kernel
theorem dX5_readWord_0 : decode cX5_readWord 0 = .ok (.iload_n 1, 1) := by decide +kernel
theorem dX5_readWord_1 : decode cX5_readWord 1 = .ok (.ifCond .eq 15, 3) := by decide +kernel
theorem dX5_readWord_4 : decode cX5_readWord 4 = .ok (.aload_n 0, 1) := by decide +kernel
theorem dX5_readWord_5 : decode cX5_readWord 5 = .ok (.iconst 3, 1) := by decide +kernel
theorem dX5_readWord_6 : decode cX5_readWord 6 = .ok (.aload_n 0, 1) := by decide +kernel
theorem dX5_readWord_7 : decode cX5_readWord 7 = .ok (.getfield 25, 3) := by decide +kernel
theorem dX5_readWord_10 : decode cX5_readWord 10 = .ok (.invokevirtual 67, 3) := by decide +kernel
theorem dX5_readWord_13 : decode cX5_readWord 13 = .ok (.goto 13, 3) := by decide +kernel
theorem dX5_readWord_16 : decode cX5_readWord 16 = .ok (.aload_n 0, 1) := by decide +kernel
theorem dX5_readWord_17 : decode cX5_readWord 17 = .ok (.dup, 1) := by decide +kernel
theorem dX5_readWord_18 : decode cX5_readWord 18 = .ok (.getfield 25, 3) := by decide +kernel
theorem dX5_readWord_21 : decode cX5_readWord 21 = .ok (.iconst 1, 1) := by decide +kernel
theorem dX5_readWord_22 : decode cX5_readWord 22 = .ok (.iadd, 1) := by decide +kernel
theorem dX5_readWord_23 : decode cX5_readWord 23 = .ok (.putfield 25, 3) := by decide +kernel
theorem dX5_readWord_26 : decode cX5_readWord 26 = .ok (.return_, 1) := by decide +kernel
theorem dX5_readNumber_0 : decode cX5_readNumber 0 = .ok (.aload_n 0, 1) := by decide +kernel
theorem dX5_readNumber_1 : decode cX5_readNumber 1 = .ok (.getfield 22, 3) := by decide +kernel
theorem dX5_readNumber_4 : decode cX5_readNumber 4 = .ok (.ifCond .eq 5, 3) := by decide +kernel
theorem dX5_readNumber_7 : decode cX5_readNumber 7 = .ok (.iconst 0, 1) := by decide +kernel
theorem dX5_readNumber_8 : decode cX5_readNumber 8 = .ok (.ireturn, 1) := by decide +kernel
theorem dX5_readNumber_9 : decode cX5_readNumber 9 = .ok (.aload_n 0, 1) := by decide +kernel
theorem dX5_readNumber_10 : decode cX5_readNumber 10 = .ok (.invokevirtual 53, 3) := by decide +kernel
theorem dX5_readNumber_13 : decode cX5_readNumber 13 = .ok (.aload_n 0, 1) := by decide +kernel
theorem dX5_readNumber_14 : decode cX5_readNumber 14 = .ok (.aload_n 0, 1) := by decide +kernel
theorem dX5_readNumber_15 : decode cX5_readNumber 15 = .ok (.getfield 25, 3) := by decide +kernel
theorem dX5_readNumber_18 : decode cX5_readNumber 18 = .ok (.putfield 28, 3) := by decide +kernel
theorem dX5_readNumber_21 : decode cX5_readNumber 21 = .ok (.iconst 0, 1) := by decide +kernel
theorem dX5_readNumber_22 : decode cX5_readNumber 22 = .ok (.istore_n 2, 1) := by decide +kernel
theorem dX5_readNumber_23 : decode cX5_readNumber 23 = .ok (.aload_n 0, 1) := by decide +kernel
theorem dX5_readNumber_24 : decode cX5_readNumber 24 = .ok (.getfield 25, 3) := by decide +kernel
theorem dX5_readNumber_27 : decode cX5_readNumber 27 = .ok (.aload_n 0, 1) := by decide +kernel
theorem dX5_readNumber_28 : decode cX5_readNumber 28 = .ok (.getfield 15, 3) := by decide +kernel
theorem dX5_readNumber_31 : decode cX5_readNumber 31 = .ok (.if_icmp .ge 75, 3) := by decide +kernel
theorem dX5_readNumber_34 : decode cX5_readNumber 34 = .ok (.aload_n 0, 1) := by decide +kernel
theorem dX5_readNumber_35 : decode cX5_readNumber 35 = .ok (.getfield 9, 3) := by decide +kernel
theorem dX5_readNumber_38 : decode cX5_readNumber 38 = .ok (.aload_n 0, 1) := by decide +kernel
theorem dX5_readNumber_39 : decode cX5_readNumber 39 = .ok (.getfield 25, 3) := by decide +kernel
theorem dX5_readNumber_42 : decode cX5_readNumber 42 = .ok (.caload, 1) := by decide +kernel
theorem dX5_readNumber_43 : decode cX5_readNumber 43 = .ok (.bipush 48, 2) := by decide +kernel
theorem dX5_readNumber_45 : decode cX5_readNumber 45 = .ok (.if_icmp .lt 61, 3) := by decide +kernel
theorem dX5_readNumber_48 : decode cX5_readNumber 48 = .ok (.aload_n 0, 1) := by decide +kernel
theorem dX5_readNumber_49 : decode cX5_readNumber 49 = .ok (.getfield 9, 3) := by decide +kernel
theorem dX5_readNumber_52 : decode cX5_readNumber 52 = .ok (.aload_n 0, 1) := by decide +kernel
theorem dX5_readNumber_53 : decode cX5_readNumber 53 = .ok (.getfield 25, 3) := by decide +kernel
theorem dX5_readNumber_56 : decode cX5_readNumber 56 = .ok (.caload, 1) := by decide +kernel
theorem dX5_readNumber_57 : decode cX5_readNumber 57 = .ok (.bipush 57, 2) := by decide +kernel
theorem dX5_readNumber_59 : decode cX5_readNumber 59 = .ok (.if_icmp .gt 47, 3) := by decide +kernel
theorem dX5_readNumber_62 : decode cX5_readNumber 62 = .ok (.aload_n 0, 1) := by decide +kernel
theorem dX5_readNumber_63 : decode cX5_readNumber 63 = .ok (.getfield 25, 3) := by decide +kernel
theorem dX5_readNumber_66 : decode cX5_readNumber 66 = .ok (.aload_n 0, 1) := by decide +kernel
theorem dX5_readNumber_67 : decode cX5_readNumber 67 = .ok (.getfield 28, 3) := by decide +kernel
theorem dX5_readNumber_70 : decode cX5_readNumber 70 = .ok (.isub, 1) := by decide +kernel
theorem dX5_readNumber_71 : decode cX5_readNumber 71 = .ok (.iconst 3, 1) := by decide +kernel
theorem dX5_readNumber_72 : decode cX5_readNumber 72 = .ok (.if_icmp .ge 21, 3) := by decide +kernel
theorem dX5_readNumber_75 : decode cX5_readNumber 75 = .ok (.bipush 10, 2) := by decide +kernel
theorem dX5_readNumber_77 : decode cX5_readNumber 77 = .ok (.iload_n 2, 1) := by decide +kernel
theorem dX5_readNumber_78 : decode cX5_readNumber 78 = .ok (.imul, 1) := by decide +kernel
theorem dX5_readNumber_79 : decode cX5_readNumber 79 = .ok (.aload_n 0, 1) := by decide +kernel
theorem dX5_readNumber_80 : decode cX5_readNumber 80 = .ok (.getfield 9, 3) := by decide +kernel
theorem dX5_readNumber_83 : decode cX5_readNumber 83 = .ok (.aload_n 0, 1) := by decide +kernel
theorem dX5_readNumber_84 : decode cX5_readNumber 84 = .ok (.getfield 25, 3) := by decide +kernel
theorem dX5_readNumber_87 : decode cX5_readNumber 87 = .ok (.caload, 1) := by decide +kernel
theorem dX5_readNumber_88 : decode cX5_readNumber 88 = .ok (.iadd, 1) := by decide +kernel
theorem dX5_readNumber_89 : decode cX5_readNumber 89 = .ok (.bipush 48, 2) := by decide +kernel
theorem dX5_readNumber_91 : decode cX5_readNumber 91 = .ok (.isub, 1) := by decide +kernel
theorem dX5_readNumber_92 : decode cX5_readNumber 92 = .ok (.istore_n 2, 1) := by decide +kernel
theorem dX5_readNumber_93 : decode cX5_readNumber 93 = .ok (.aload_n 0, 1) := by decide +kernel
theorem dX5_readNumber_94 : decode cX5_readNumber 94 = .ok (.dup, 1) := by decide +kernel
theorem dX5_readNumber_95 : decode cX5_readNumber 95 = .ok (.getfield 25, 3) := by decide +kernel
theorem dX5_readNumber_98 : decode cX5_readNumber 98 = .ok (.iconst 1, 1) := by decide +kernel
theorem dX5_readNumber_99 : decode cX5_readNumber 99 = .ok (.iadd, 1) := by decide +kernel
theorem dX5_readNumber_100 : decode cX5_readNumber 100 = .ok (.putfield 25, 3) := by decide +kernel
theorem dX5_readNumber_103 : decode cX5_readNumber 103 = .ok (.goto (-80), 3) := by decide +kernel
theorem dX5_readNumber_106 : decode cX5_readNumber 106 = .ok (.aload_n 0, 1) := by decide +kernel
theorem dX5_readNumber_107 : decode cX5_readNumber 107 = .ok (.getfield 25, 3) := by decide +kernel
theorem dX5_readNumber_110 : decode cX5_readNumber 110 = .ok (.aload_n 0, 1) := by decide +kernel
theorem dX5_readNumber_111 : decode cX5_readNumber 111 = .ok (.getfield 28, 3) := by decide +kernel
theorem dX5_readNumber_114 : decode cX5_readNumber 114 = .ok (.if_icmp .ne 15, 3) := by decide +kernel
theorem dX5_readNumber_117 : decode cX5_readNumber 117 = .ok (.aload_n 0, 1) := by decide +kernel
theorem dX5_readNumber_118 : decode cX5_readNumber 118 = .ok (.iconst 1, 1) := by decide +kernel
theorem dX5_readNumber_119 : decode cX5_readNumber 119 = .ok (.aload_n 0, 1) := by decide +kernel
theorem dX5_readNumber_120 : decode cX5_readNumber 120 = .ok (.getfield 25, 3) := by decide +kernel
theorem dX5_readNumber_123 : decode cX5_readNumber 123 = .ok (.invokevirtual 67, 3) := by decide +kernel
theorem dX5_readNumber_126 : decode cX5_readNumber 126 = .ok (.goto 30, 3) := by decide +kernel
theorem dX5_readNumber_129 : decode cX5_readNumber 129 = .ok (.aload_n 0, 1) := by decide +kernel
theorem dX5_readNumber_130 : decode cX5_readNumber 130 = .ok (.getfield 25, 3) := by decide +kernel
theorem dX5_readNumber_133 : decode cX5_readNumber 133 = .ok (.aload_n 0, 1) := by decide +kernel
theorem dX5_readNumber_134 : decode cX5_readNumber 134 = .ok (.getfield 28, 3) := by decide +kernel
theorem dX5_readNumber_137 : decode cX5_readNumber 137 = .ok (.isub, 1) := by decide +kernel
theorem dX5_readNumber_138 : decode cX5_readNumber 138 = .ok (.iconst 3, 1) := by decide +kernel
theorem dX5_readNumber_139 : decode cX5_readNumber 139 = .ok (.if_icmp .gt 8, 3) := by decide +kernel
theorem dX5_readNumber_142 : decode cX5_readNumber 142 = .ok (.iload_n 2, 1) := by decide +kernel
theorem dX5_readNumber_143 : decode cX5_readNumber 143 = .ok (.iload_n 1, 1) := by decide +kernel
theorem dX5_readNumber_144 : decode cX5_readNumber 144 = .ok (.if_icmp .le 12, 3) := by decide +kernel
theorem dX5_readNumber_147 : decode cX5_readNumber 147 = .ok (.aload_n 0, 1) := by decide +kernel
theorem dX5_readNumber_148 : decode cX5_readNumber 148 = .ok (.iconst 2, 1) := by decide +kernel
theorem dX5_readNumber_149 : decode cX5_readNumber 149 = .ok (.aload_n 0, 1) := by decide +kernel
theorem dX5_readNumber_150 : decode cX5_readNumber 150 = .ok (.getfield 28, 3) := by decide +kernel
theorem dX5_readNumber_153 : decode cX5_readNumber 153 = .ok (.invokevirtual 67, 3) := by decide +kernel
theorem dX5_readNumber_156 : decode cX5_readNumber 156 = .ok (.aload_n 0, 1) := by decide +kernel
theorem dX5_readNumber_157 : decode cX5_readNumber 157 = .ok (.getfield 22, 3) := by decide +kernel
theorem dX5_readNumber_160 : decode cX5_readNumber 160 = .ok (.ifCond .ne 7, 3) := by decide +kernel
theorem dX5_readNumber_163 : decode cX5_readNumber 163 = .ok (.iload_n 2, 1) := by decide +kernel
theorem dX5_readNumber_164 : decode cX5_readNumber 164 = .ok (.goto 4, 3) := by decide +kernel
theorem dX5_readNumber_167 : decode cX5_readNumber 167 = .ok (.iconst 0, 1) := by decide +kernel
theorem dX5_readNumber_168 : decode cX5_readNumber 168 = .ok (.ireturn, 1) := by decide +kernel
theorem dX5_readEnd_0 : decode cX5_readEnd 0 = .ok (.aload_n 0, 1) := by decide +kernel
theorem dX5_readEnd_1 : decode cX5_readEnd 1 = .ok (.bipush 59, 2) := by decide +kernel
theorem dX5_readEnd_3 : decode cX5_readEnd 3 = .ok (.invokevirtual 56, 3) := by decide +kernel
theorem dX5_readEnd_6 : decode cX5_readEnd 6 = .ok (.ifCond .eq 16, 3) := by decide +kernel
theorem dX5_readEnd_9 : decode cX5_readEnd 9 = .ok (.aload_n 0, 1) := by decide +kernel
theorem dX5_readEnd_10 : decode cX5_readEnd 10 = .ok (.dup, 1) := by decide +kernel
theorem dX5_readEnd_11 : decode cX5_readEnd 11 = .ok (.getfield 25, 3) := by decide +kernel
theorem dX5_readEnd_14 : decode cX5_readEnd 14 = .ok (.iconst 1, 1) := by decide +kernel
theorem dX5_readEnd_15 : decode cX5_readEnd 15 = .ok (.iadd, 1) := by decide +kernel
theorem dX5_readEnd_16 : decode cX5_readEnd 16 = .ok (.putfield 25, 3) := by decide +kernel
theorem dX5_readEnd_19 : decode cX5_readEnd 19 = .ok (.goto 12, 3) := by decide +kernel
theorem dX5_readEnd_22 : decode cX5_readEnd 22 = .ok (.aload_n 0, 1) := by decide +kernel
theorem dX5_readEnd_23 : decode cX5_readEnd 23 = .ok (.iconst 1, 1) := by decide +kernel
theorem dX5_readEnd_24 : decode cX5_readEnd 24 = .ok (.aload_n 0, 1) := by decide +kernel
theorem dX5_readEnd_25 : decode cX5_readEnd 25 = .ok (.getfield 25, 3) := by decide +kernel
theorem dX5_readEnd_28 : decode cX5_readEnd 28 = .ok (.invokevirtual 67, 3) := by decide +kernel
theorem dX5_readEnd_31 : decode cX5_readEnd 31 = .ok (.return_, 1) := by decide +kernel
theorem dX5_readDays_0 : decode cX5_readDays 0 = .ok (.aload_n 0, 1) := by decide +kernel
theorem dX5_readDays_1 : decode cX5_readDays 1 = .ok (.aload_n 1, 1) := by decide +kernel
theorem dX5_readDays_2 : decode cX5_readDays 2 = .ok (.getfield 63, 3) := by decide +kernel
theorem dX5_readDays_5 : decode cX5_readDays 5 = .ok (.invokevirtual 80, 3) := by decide +kernel
theorem dX5_readDays_8 : decode cX5_readDays 8 = .ok (.aload_n 0, 1) := by decide +kernel
theorem dX5_readDays_9 : decode cX5_readDays 9 = .ok (.bipush 99, 2) := by decide +kernel
theorem dX5_readDays_11 : decode cX5_readDays 11 = .ok (.invokevirtual 84, 3) := by decide +kernel
theorem dX5_readDays_14 : decode cX5_readDays 14 = .ok (.istore_n 2, 1) := by decide +kernel
theorem dX5_readDays_15 : decode cX5_readDays 15 = .ok (.aload_n 0, 1) := by decide +kernel
theorem dX5_readDays_16 : decode cX5_readDays 16 = .ok (.bipush 99, 2) := by decide +kernel
theorem dX5_readDays_18 : decode cX5_readDays 18 = .ok (.invokevirtual 84, 3) := by decide +kernel
theorem dX5_readDays_21 : decode cX5_readDays 21 = .ok (.istore_n 3, 1) := by decide +kernel
theorem dX5_readDays_22 : decode cX5_readDays 22 = .ok (.iload_n 3, 1) := by decide +kernel
theorem dX5_readDays_23 : decode cX5_readDays 23 = .ok (.iload_n 2, 1) := by decide +kernel
theorem dX5_readDays_24 : decode cX5_readDays 24 = .ok (.if_icmp .ge 12, 3) := by decide +kernel
theorem dX5_readDays_27 : decode cX5_readDays 27 = .ok (.aload_n 0, 1) := by decide +kernel
theorem dX5_readDays_28 : decode cX5_readDays 28 = .ok (.iconst 4, 1) := by decide +kernel
theorem dX5_readDays_29 : decode cX5_readDays 29 = .ok (.aload_n 0, 1) := by decide +kernel
theorem dX5_readDays_30 : decode cX5_readDays 30 = .ok (.getfield 28, 3) := by decide +kernel
theorem dX5_readDays_33 : decode cX5_readDays 33 = .ok (.invokevirtual 67, 3) := by decide +kernel
theorem dX5_readDays_36 : decode cX5_readDays 36 = .ok (.aload_n 0, 1) := by decide +kernel
theorem dX5_readDays_37 : decode cX5_readDays 37 = .ok (.iconst 1, 1) := by decide +kernel
theorem dX5_readDays_38 : decode cX5_readDays 38 = .ok (.invokevirtual 84, 3) := by decide +kernel
theorem dX5_readDays_41 : decode cX5_readDays 41 = .ok (.istore 4, 2) := by decide +kernel
theorem dX5_readDays_43 : decode cX5_readDays 43 = .ok (.aload_n 0, 1) := by decide +kernel
theorem dX5_readDays_44 : decode cX5_readDays 44 = .ok (.invokevirtual 88, 3) := by decide +kernel
theorem dX5_readDays_47 : decode cX5_readDays 47 = .ok (.aload_n 0, 1) := by decide +kernel
theorem dX5_readDays_48 : decode cX5_readDays 48 = .ok (.getfield 22, 3) := by decide +kernel
theorem dX5_readDays_51 : decode cX5_readDays 51 = .ok (.ifCond .ne 33, 3) := by decide +kernel
theorem dX5_readDays_54 : decode cX5_readDays 54 = .ok (.aload_n 1, 1) := by decide +kernel
theorem dX5_readDays_55 : decode cX5_readDays 55 = .ok (.iconst 1, 1) := by decide +kernel
theorem dX5_readDays_56 : decode cX5_readDays 56 = .ok (.putfield 63, 3) := by decide +kernel
theorem dX5_readDays_59 : decode cX5_readDays 59 = .ok (.aload_n 1, 1) := by decide +kernel
theorem dX5_readDays_60 : decode cX5_readDays 60 = .ok (.iload_n 2, 1) := by decide +kernel
theorem dX5_readDays_61 : decode cX5_readDays 61 = .ok (.putfield 91, 3) := by decide +kernel
theorem dX5_readDays_64 : decode cX5_readDays 64 = .ok (.aload_n 1, 1) := by decide +kernel
