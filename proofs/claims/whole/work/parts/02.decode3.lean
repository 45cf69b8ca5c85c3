theorem dX8_stands_1 : decode cX8_stands 1 = .ok (.getfield 13, 3) := by decide +kernel
theorem dX8_stands_4 : decode cX8_stands 4 = .ok (.iload_n 1, 1) := by decide +kernel
theorem dX8_stands_5 : decode cX8_stands 5 = .ok (.iaload, 1) := by decide +kernel
theorem dX8_stands_6 : decode cX8_stands 6 = .ok (.iload_n 1, 1) := by decide +kernel
theorem dX8_stands_7 : decode cX8_stands 7 = .ok (.if_icmp .ge 12, 3) := by decide +kernel
theorem dX8_stands_10 : decode cX8_stands 10 = .ok (.aload_n 0, 1) := by decide +kernel
theorem dX8_stands_11 : decode cX8_stands 11 = .ok (.getfield 13, 3) := by decide +kernel
theorem dX8_stands_14 : decode cX8_stands 14 = .ok (.iload_n 1, 1) := by decide +kernel
theorem dX8_stands_15 : decode cX8_stands 15 = .ok (.iaload, 1) := by decide +kernel
theorem dX8_stands_16 : decode cX8_stands 16 = .ok (.goto 4, 3) := by decide +kernel
theorem dX8_stands_19 : decode cX8_stands 19 = .ok (.iload_n 1, 1) := by decide +kernel
theorem dX8_stands_20 : decode cX8_stands 20 = .ok (.ireturn, 1) := by decide +kernel
theorem dX8_findPlaces_0 : decode cX8_findPlaces 0 = .ok (.iconst 0, 1) := by decide +kernel
theorem dX8_findPlaces_1 : decode cX8_findPlaces 1 = .ok (.istore_n 1, 1) := by decide +kernel
theorem dX8_findPlaces_2 : decode cX8_findPlaces 2 = .ok (.iload_n 1, 1) := by decide +kernel
theorem dX8_findPlaces_3 : decode cX8_findPlaces 3 = .ok (.bipush 100, 2) := by decide +kernel
theorem dX8_findPlaces_5 : decode cX8_findPlaces 5 = .ok (.if_icmp .ge 74, 3) := by decide +kernel
theorem dX8_findPlaces_8 : decode cX8_findPlaces 8 = .ok (.iload_n 1, 1) := by decide +kernel
theorem dX8_findPlaces_9 : decode cX8_findPlaces 9 = .ok (.bipush 9, 2) := by decide +kernel
theorem dX8_findPlaces_11 : decode cX8_findPlaces 11 = .ok (.if_icmp .gt 20, 3) := by decide +kernel
theorem dX8_findPlaces_14 : decode cX8_findPlaces 14 = .ok (.aload_n 0, 1) := by decide +kernel
theorem dX8_findPlaces_15 : decode cX8_findPlaces 15 = .ok (.getfield 172, 3) := by decide +kernel
theorem dX8_findPlaces_18 : decode cX8_findPlaces 18 = .ok (.iconst 1, 1) := by decide +kernel
theorem dX8_findPlaces_19 : decode cX8_findPlaces 19 = .ok (.if_icmp .ne 16, 3) := by decide +kernel
theorem dX8_findPlaces_22 : decode cX8_findPlaces 22 = .ok (.aload_n 0, 1) := by decide +kernel
theorem dX8_findPlaces_23 : decode cX8_findPlaces 23 = .ok (.getfield 110, 3) := by decide +kernel
theorem dX8_findPlaces_26 : decode cX8_findPlaces 26 = .ok (.bipush 9, 2) := by decide +kernel
theorem dX8_findPlaces_28 : decode cX8_findPlaces 28 = .ok (.if_icmp .le 7, 3) := by decide +kernel
theorem dX8_findPlaces_31 : decode cX8_findPlaces 31 = .ok (.iconst 1, 1) := by decide +kernel
theorem dX8_findPlaces_32 : decode cX8_findPlaces 32 = .ok (.goto 4, 3) := by decide +kernel
theorem dX8_findPlaces_35 : decode cX8_findPlaces 35 = .ok (.iconst 0, 1) := by decide +kernel
theorem dX8_findPlaces_36 : decode cX8_findPlaces 36 = .ok (.istore_n 2, 1) := by decide +kernel
theorem dX8_findPlaces_37 : decode cX8_findPlaces 37 = .ok (.aload_n 0, 1) := by decide +kernel
theorem dX8_findPlaces_38 : decode cX8_findPlaces 38 = .ok (.getfield 44, 3) := by decide +kernel
theorem dX8_findPlaces_41 : decode cX8_findPlaces 41 = .ok (.iload_n 1, 1) := by decide +kernel
theorem dX8_findPlaces_42 : decode cX8_findPlaces 42 = .ok (.iload_n 2, 1) := by decide +kernel
theorem dX8_findPlaces_43 : decode cX8_findPlaces 43 = .ok (.ifCond .eq 10, 3) := by decide +kernel
theorem dX8_findPlaces_46 : decode cX8_findPlaces 46 = .ok (.iload_n 1, 1) := by decide +kernel
theorem dX8_findPlaces_47 : decode cX8_findPlaces 47 = .ok (.bipush 10, 2) := by decide +kernel
theorem dX8_findPlaces_49 : decode cX8_findPlaces 49 = .ok (.idiv, 1) := by decide +kernel
theorem dX8_findPlaces_50 : decode cX8_findPlaces 50 = .ok (.goto 4, 3) := by decide +kernel
theorem dX8_findPlaces_53 : decode cX8_findPlaces 53 = .ok (.iload_n 1, 1) := by decide +kernel
theorem dX8_findPlaces_54 : decode cX8_findPlaces 54 = .ok (.iastore, 1) := by decide +kernel
theorem dX8_findPlaces_55 : decode cX8_findPlaces 55 = .ok (.aload_n 0, 1) := by decide +kernel
theorem dX8_findPlaces_56 : decode cX8_findPlaces 56 = .ok (.getfield 47, 3) := by decide +kernel
theorem dX8_findPlaces_59 : decode cX8_findPlaces 59 = .ok (.iload_n 1, 1) := by decide +kernel
theorem dX8_findPlaces_60 : decode cX8_findPlaces 60 = .ok (.iload_n 2, 1) := by decide +kernel
theorem dX8_findPlaces_61 : decode cX8_findPlaces 61 = .ok (.ifCond .eq 10, 3) := by decide +kernel
theorem dX8_findPlaces_64 : decode cX8_findPlaces 64 = .ok (.iload_n 1, 1) := by decide +kernel
theorem dX8_findPlaces_65 : decode cX8_findPlaces 65 = .ok (.bipush 10, 2) := by decide +kernel
theorem dX8_findPlaces_67 : decode cX8_findPlaces 67 = .ok (.irem, 1) := by decide +kernel
theorem dX8_findPlaces_68 : decode cX8_findPlaces 68 = .ok (.goto 4, 3) := by decide +kernel
theorem dX8_findPlaces_71 : decode cX8_findPlaces 71 = .ok (.iconst (-1), 1) := by decide +kernel
theorem dX8_findPlaces_72 : decode cX8_findPlaces 72 = .ok (.iastore, 1) := by decide +kernel
theorem dX8_findPlaces_73 : decode cX8_findPlaces 73 = .ok (.iinc 1 1, 3) := by decide +kernel
theorem dX8_findPlaces_76 : decode cX8_findPlaces 76 = .ok (.goto (-74), 3) := by decide +kernel
theorem dX8_findPlaces_79 : decode cX8_findPlaces 79 = .ok (.return_, 1) := by decide +kernel
theorem dX8_figuresOf_0 : decode cX8_figuresOf 0 = .ok (.iconst 0, 1) := by decide +kernel
theorem dX8_figuresOf_1 : decode cX8_figuresOf 1 = .ok (.istore_n 2, 1) := by decide +kernel
theorem dX8_figuresOf_2 : decode cX8_figuresOf 2 = .ok (.iconst 0, 1) := by decide +kernel
theorem dX8_figuresOf_3 : decode cX8_figuresOf 3 = .ok (.istore_n 3, 1) := by decide +kernel
theorem dX8_figuresOf_4 : decode cX8_figuresOf 4 = .ok (.iload_n 3, 1) := by decide +kernel
theorem dX8_figuresOf_5 : decode cX8_figuresOf 5 = .ok (.aload_n 0, 1) := by decide +kernel
theorem dX8_figuresOf_6 : decode cX8_figuresOf 6 = .ok (.getfield 7, 3) := by decide +kernel
theorem dX8_figuresOf_9 : decode cX8_figuresOf 9 = .ok (.iload_n 1, 1) := by decide +kernel
theorem dX8_figuresOf_10 : decode cX8_figuresOf 10 = .ok (.iaload, 1) := by decide +kernel
theorem dX8_figuresOf_11 : decode cX8_figuresOf 11 = .ok (.if_icmp .ge 50, 3) := by decide +kernel
theorem dX8_figuresOf_14 : decode cX8_figuresOf 14 = .ok (.aload_n 0, 1) := by decide +kernel
theorem dX8_figuresOf_15 : decode cX8_figuresOf 15 = .ok (.getfield 19, 3) := by decide +kernel
theorem dX8_figuresOf_18 : decode cX8_figuresOf 18 = .ok (.bipush 6, 2) := by decide +kernel
theorem dX8_figuresOf_20 : decode cX8_figuresOf 20 = .ok (.iload_n 1, 1) := by decide +kernel
theorem dX8_figuresOf_21 : decode cX8_figuresOf 21 = .ok (.imul, 1) := by decide +kernel
theorem dX8_figuresOf_22 : decode cX8_figuresOf 22 = .ok (.iload_n 3, 1) := by decide +kernel
theorem dX8_figuresOf_23 : decode cX8_figuresOf 23 = .ok (.iadd, 1) := by decide +kernel
theorem dX8_figuresOf_24 : decode cX8_figuresOf 24 = .ok (.iaload, 1) := by decide +kernel
theorem dX8_figuresOf_25 : decode cX8_figuresOf 25 = .ok (.istore 4, 2) := by decide +kernel
theorem dX8_figuresOf_27 : decode cX8_figuresOf 27 = .ok (.iload_n 2, 1) := by decide +kernel
theorem dX8_figuresOf_28 : decode cX8_figuresOf 28 = .ok (.iload 4, 2) := by decide +kernel
theorem dX8_figuresOf_30 : decode cX8_figuresOf 30 = .ok (.bipush 10, 2) := by decide +kernel
theorem dX8_figuresOf_32 : decode cX8_figuresOf 32 = .ok (.if_icmp .ne 7, 3) := by decide +kernel
theorem dX8_figuresOf_35 : decode cX8_figuresOf 35 = .ok (.iconst 0, 1) := by decide +kernel
theorem dX8_figuresOf_36 : decode cX8_figuresOf 36 = .ok (.goto 17, 3) := by decide +kernel
theorem dX8_figuresOf_39 : decode cX8_figuresOf 39 = .ok (.iconst 1, 1) := by decide +kernel
theorem dX8_figuresOf_40 : decode cX8_figuresOf 40 = .ok (.iload 4, 2) := by decide +kernel
theorem dX8_figuresOf_42 : decode cX8_figuresOf 42 = .ok (.ishl, 1) := by decide +kernel
theorem dX8_figuresOf_43 : decode cX8_figuresOf 43 = .ok (.iconst 1, 1) := by decide +kernel
theorem dX8_figuresOf_44 : decode cX8_figuresOf 44 = .ok (.aload_n 0, 1) := by decide +kernel
theorem dX8_figuresOf_45 : decode cX8_figuresOf 45 = .ok (.getfield 13, 3) := by decide +kernel
theorem dX8_figuresOf_48 : decode cX8_figuresOf 48 = .ok (.iload 4, 2) := by decide +kernel
theorem dX8_figuresOf_50 : decode cX8_figuresOf 50 = .ok (.iaload, 1) := by decide +kernel
theorem dX8_figuresOf_51 : decode cX8_figuresOf 51 = .ok (.ishl, 1) := by decide +kernel
theorem dX8_figuresOf_52 : decode cX8_figuresOf 52 = .ok (.ior, 1) := by decide +kernel
theorem dX8_figuresOf_53 : decode cX8_figuresOf 53 = .ok (.ior, 1) := by decide +kernel
theorem dX8_figuresOf_54 : decode cX8_figuresOf 54 = .ok (.istore_n 2, 1) := by decide +kernel
theorem dX8_figuresOf_55 : decode cX8_figuresOf 55 = .ok (.iinc 3 1, 3) := by decide +kernel
theorem dX8_figuresOf_58 : decode cX8_figuresOf 58 = .ok (.goto (-54), 3) := by decide +kernel
theorem dX8_figuresOf_61 : decode cX8_figuresOf 61 = .ok (.iload_n 2, 1) := by decide +kernel
theorem dX8_figuresOf_62 : decode cX8_figuresOf 62 = .ok (.ireturn, 1) := by decide +kernel
theorem dX8_shows_0 : decode cX8_shows 0 = .ok (.aload_n 0, 1) := by decide +kernel
theorem dX8_shows_1 : decode cX8_shows 1 = .ok (.iload_n 1, 1) := by decide +kernel
theorem dX8_shows_2 : decode cX8_shows 2 = .ok (.invokevirtual 193, 3) := by decide +kernel
theorem dX8_shows_5 : decode cX8_shows 5 = .ok (.ifCond .eq 11, 3) := by decide +kernel
theorem dX8_shows_8 : decode cX8_shows 8 = .ok (.aload_n 0, 1) := by decide +kernel
theorem dX8_shows_9 : decode cX8_shows 9 = .ok (.iload_n 1, 1) := by decide +kernel
theorem dX8_shows_10 : decode cX8_shows 10 = .ok (.invokevirtual 204, 3) := by decide +kernel
theorem dX8_shows_13 : decode cX8_shows 13 = .ok (.goto 5, 3) := by decide +kernel
theorem dX8_shows_16 : decode cX8_shows 16 = .ok (.ldc 197, 2) := by decide +kernel
theorem dX8_shows_18 : decode cX8_shows 18 = .ok (.ireturn, 1) := by decide +kernel
theorem dX8_findShown_0 : decode cX8_findShown 0 = .ok (.iconst 0, 1) := by decide +kernel
theorem dX8_findShown_1 : decode cX8_findShown 1 = .ok (.istore_n 1, 1) := by decide +kernel
theorem dX8_findShown_2 : decode cX8_findShown 2 = .ok (.iload_n 1, 1) := by decide +kernel
theorem dX8_findShown_3 : decode cX8_findShown 3 = .ok (.iconst 4, 1) := by decide +kernel
theorem dX8_findShown_4 : decode cX8_findShown 4 = .ok (.if_icmp .ge 32, 3) := by decide +kernel
theorem dX8_findShown_7 : decode cX8_findShown 7 = .ok (.aload_n 0, 1) := by decide +kernel
theorem dX8_findShown_8 : decode cX8_findShown 8 = .ok (.getfield 50, 3) := by decide +kernel
theorem dX8_findShown_11 : decode cX8_findShown 11 = .ok (.iload_n 1, 1) := by decide +kernel
theorem dX8_findShown_12 : decode cX8_findShown 12 = .ok (.aload_n 0, 1) := by decide +kernel
theorem dX8_findShown_13 : decode cX8_findShown 13 = .ok (.iload_n 1, 1) := by decide +kernel
theorem dX8_findShown_14 : decode cX8_findShown 14 = .ok (.invokevirtual 208, 3) := by decide +kernel
theorem dX8_findShown_17 : decode cX8_findShown 17 = .ok (.ifCond .eq 11, 3) := by decide +kernel
theorem dX8_findShown_20 : decode cX8_findShown 20 = .ok (.aload_n 0, 1) := by decide +kernel
theorem dX8_findShown_21 : decode cX8_findShown 21 = .ok (.iload_n 1, 1) := by decide +kernel
theorem dX8_findShown_22 : decode cX8_findShown 22 = .ok (.invokevirtual 204, 3) := by decide +kernel
theorem dX8_findShown_25 : decode cX8_findShown 25 = .ok (.goto 4, 3) := by decide +kernel
theorem dX8_findShown_28 : decode cX8_findShown 28 = .ok (.iconst 0, 1) := by decide +kernel
theorem dX8_findShown_29 : decode cX8_findShown 29 = .ok (.iastore, 1) := by decide +kernel
theorem dX8_findShown_30 : decode cX8_findShown 30 = .ok (.iinc 1 1, 3) := by decide +kernel
theorem dX8_findShown_33 : decode cX8_findShown 33 = .ok (.goto (-31), 3) := by decide +kernel
theorem dX8_findShown_36 : decode cX8_findShown 36 = .ok (.return_, 1) := by decide +kernel
theorem dX8_howShown_0 : decode cX8_howShown 0 = .ok (.iconst 0, 1) := by decide +kernel
theorem dX8_howShown_1 : decode cX8_howShown 1 = .ok (.istore_n 2, 1) := by decide +kernel
theorem dX8_howShown_2 : decode cX8_howShown 2 = .ok (.iload_n 2, 1) := by decide +kernel
theorem dX8_howShown_3 : decode cX8_howShown 3 = .ok (.bipush 16, 2) := by decide +kernel
theorem dX8_howShown_5 : decode cX8_howShown 5 = .ok (.if_icmp .ge 128, 3) := by decide +kernel
theorem dX8_howShown_8 : decode cX8_howShown 8 = .ok (.iload_n 2, 1) := by decide +kernel
theorem dX8_howShown_9 : decode cX8_howShown 9 = .ok (.iconst 4, 1) := by decide +kernel
theorem dX8_howShown_10 : decode cX8_howShown 10 = .ok (.idiv, 1) := by decide +kernel
theorem dX8_howShown_11 : decode cX8_howShown 11 = .ok (.istore_n 3, 1) := by decide +kernel
theorem dX8_howShown_12 : decode cX8_howShown 12 = .ok (.iload_n 2, 1) := by decide +kernel
theorem dX8_howShown_13 : decode cX8_howShown 13 = .ok (.iconst 4, 1) := by decide +kernel
theorem dX8_howShown_14 : decode cX8_howShown 14 = .ok (.irem, 1) := by decide +kernel
theorem dX8_howShown_15 : decode cX8_howShown 15 = .ok (.istore 4, 2) := by decide +kernel
theorem dX8_howShown_17 : decode cX8_howShown 17 = .ok (.aload_n 0, 1) := by decide +kernel
theorem dX8_howShown_18 : decode cX8_howShown 18 = .ok (.getfield 47, 3) := by decide +kernel
theorem dX8_howShown_21 : decode cX8_howShown 21 = .ok (.iload_n 1, 1) := by decide +kernel
theorem dX8_howShown_22 : decode cX8_howShown 22 = .ok (.iaload, 1) := by decide +kernel
theorem dX8_howShown_23 : decode cX8_howShown 23 = .ok (.ifCond .ge 30, 3) := by decide +kernel
theorem dX8_howShown_26 : decode cX8_howShown 26 = .ok (.iload 4, 2) := by decide +kernel
theorem dX8_howShown_28 : decode cX8_howShown 28 = .ok (.ifCond .ne 25, 3) := by decide +kernel
theorem dX8_howShown_31 : decode cX8_howShown 31 = .ok (.aload_n 0, 1) := by decide +kernel
theorem dX8_howShown_32 : decode cX8_howShown 32 = .ok (.getfield 50, 3) := by decide +kernel
theorem dX8_howShown_35 : decode cX8_howShown 35 = .ok (.iload_n 3, 1) := by decide +kernel
theorem dX8_howShown_36 : decode cX8_howShown 36 = .ok (.iaload, 1) := by decide +kernel
theorem dX8_howShown_37 : decode cX8_howShown 37 = .ok (.aload_n 0, 1) := by decide +kernel
theorem dX8_howShown_38 : decode cX8_howShown 38 = .ok (.getfield 44, 3) := by decide +kernel
theorem dX8_howShown_41 : decode cX8_howShown 41 = .ok (.iload_n 1, 1) := by decide +kernel
theorem dX8_howShown_42 : decode cX8_howShown 42 = .ok (.iaload, 1) := by decide +kernel
theorem dX8_howShown_43 : decode cX8_howShown 43 = .ok (.invokestatic 97, 3) := by decide +kernel
theorem dX8_howShown_46 : decode cX8_howShown 46 = .ok (.ifCond .eq 7, 3) := by decide +kernel
theorem dX8_howShown_49 : decode cX8_howShown 49 = .ok (.iconst 1, 1) := by decide +kernel
theorem dX8_howShown_50 : decode cX8_howShown 50 = .ok (.goto 4, 3) := by decide +kernel
theorem dX8_howShown_53 : decode cX8_howShown 53 = .ok (.iconst 0, 1) := by decide +kernel
theorem dX8_howShown_54 : decode cX8_howShown 54 = .ok (.istore 5, 2) := by decide +kernel
theorem dX8_howShown_56 : decode cX8_howShown 56 = .ok (.aload_n 0, 1) := by decide +kernel
theorem dX8_howShown_57 : decode cX8_howShown 57 = .ok (.getfield 47, 3) := by decide +kernel
theorem dX8_howShown_60 : decode cX8_howShown 60 = .ok (.iload_n 1, 1) := by decide +kernel
theorem dX8_howShown_61 : decode cX8_howShown 61 = .ok (.iaload, 1) := by decide +kernel
theorem dX8_howShown_62 : decode cX8_howShown 62 = .ok (.ifCond .lt 50, 3) := by decide +kernel
theorem dX8_howShown_65 : decode cX8_howShown 65 = .ok (.iload_n 3, 1) := by decide +kernel
theorem dX8_howShown_66 : decode cX8_howShown 66 = .ok (.iload 4, 2) := by decide +kernel
theorem dX8_howShown_68 : decode cX8_howShown 68 = .ok (.if_icmp .eq 44, 3) := by decide +kernel
theorem dX8_howShown_71 : decode cX8_howShown 71 = .ok (.aload_n 0, 1) := by decide +kernel
theorem dX8_howShown_72 : decode cX8_howShown 72 = .ok (.getfield 50, 3) := by decide +kernel
theorem dX8_howShown_75 : decode cX8_howShown 75 = .ok (.iload_n 3, 1) := by decide +kernel
theorem dX8_howShown_76 : decode cX8_howShown 76 = .ok (.iaload, 1) := by decide +kernel
theorem dX8_howShown_77 : decode cX8_howShown 77 = .ok (.aload_n 0, 1) := by decide +kernel
theorem dX8_howShown_78 : decode cX8_howShown 78 = .ok (.getfield 44, 3) := by decide +kernel
theorem dX8_howShown_81 : decode cX8_howShown 81 = .ok (.iload_n 1, 1) := by decide +kernel
theorem dX8_howShown_82 : decode cX8_howShown 82 = .ok (.iaload, 1) := by decide +kernel
theorem dX8_howShown_83 : decode cX8_howShown 83 = .ok (.invokestatic 97, 3) := by decide +kernel
theorem dX8_howShown_86 : decode cX8_howShown 86 = .ok (.ifCond .eq 26, 3) := by decide +kernel
theorem dX8_howShown_89 : decode cX8_howShown 89 = .ok (.aload_n 0, 1) := by decide +kernel
theorem dX8_howShown_90 : decode cX8_howShown 90 = .ok (.getfield 50, 3) := by decide +kernel
theorem dX8_howShown_93 : decode cX8_howShown 93 = .ok (.iload 4, 2) := by decide +kernel
theorem dX8_howShown_95 : decode cX8_howShown 95 = .ok (.iaload, 1) := by decide +kernel
theorem dX8_howShown_96 : decode cX8_howShown 96 = .ok (.aload_n 0, 1) := by decide +kernel
theorem dX8_howShown_97 : decode cX8_howShown 97 = .ok (.getfield 47, 3) := by decide +kernel
theorem dX8_howShown_100 : decode cX8_howShown 100 = .ok (.iload_n 1, 1) := by decide +kernel
theorem dX8_howShown_101 : decode cX8_howShown 101 = .ok (.iaload, 1) := by decide +kernel
theorem dX8_howShown_102 : decode cX8_howShown 102 = .ok (.invokestatic 97, 3) := by decide +kernel
theorem dX8_howShown_105 : decode cX8_howShown 105 = .ok (.ifCond .eq 7, 3) := by decide +kernel
theorem dX8_howShown_108 : decode cX8_howShown 108 = .ok (.iconst 1, 1) := by decide +kernel
theorem dX8_howShown_109 : decode cX8_howShown 109 = .ok (.goto 4, 3) := by decide +kernel
theorem dX8_howShown_112 : decode cX8_howShown 112 = .ok (.iconst 0, 1) := by decide +kernel
theorem dX8_howShown_113 : decode cX8_howShown 113 = .ok (.istore 6, 2) := by decide +kernel
theorem dX8_howShown_115 : decode cX8_howShown 115 = .ok (.iload 5, 2) := by decide +kernel
theorem dX8_howShown_117 : decode cX8_howShown 117 = .ok (.ifCond .ne 8, 3) := by decide +kernel
theorem dX8_howShown_120 : decode cX8_howShown 120 = .ok (.iload 6, 2) := by decide +kernel
theorem dX8_howShown_122 : decode cX8_howShown 122 = .ok (.ifCond .eq 5, 3) := by decide +kernel
theorem dX8_howShown_125 : decode cX8_howShown 125 = .ok (.iload_n 2, 1) := by decide +kernel
theorem dX8_howShown_126 : decode cX8_howShown 126 = .ok (.ireturn, 1) := by decide +kernel
theorem dX8_howShown_127 : decode cX8_howShown 127 = .ok (.iinc 2 1, 3) := by decide +kernel
theorem dX8_howShown_130 : decode cX8_howShown 130 = .ok (.goto (-128), 3) := by decide +kernel
theorem dX8_howShown_133 : decode cX8_howShown 133 = .ok (.iconst (-1), 1) := by decide +kernel
theorem dX8_howShown_134 : decode cX8_howShown 134 = .ok (.ireturn, 1) := by decide +kernel
theorem dX8_shown_0 : decode cX8_shown 0 = .ok (.aload_n 0, 1) := by decide +kernel
theorem dX8_shown_1 : decode cX8_shown 1 = .ok (.iload_n 1, 1) := by decide +kernel
theorem dX8_shown_2 : decode cX8_shown 2 = .ok (.invokevirtual 211, 3) := by decide +kernel
theorem dX8_shown_5 : decode cX8_shown 5 = .ok (.ifCond .ne 6, 3) := by decide +kernel
theorem dX8_shown_8 : decode cX8_shown 8 = .ok (.ldc 115, 2) := by decide +kernel
theorem dX8_shown_10 : decode cX8_shown 10 = .ok (.ireturn, 1) := by decide +kernel
theorem dX8_shown_11 : decode cX8_shown 11 = .ok (.aload_n 0, 1) := by decide +kernel
theorem dX8_shown_12 : decode cX8_shown 12 = .ok (.invokevirtual 214, 3) := by decide +kernel
theorem dX8_shown_15 : decode cX8_shown 15 = .ok (.aload_n 0, 1) := by decide +kernel
theorem dX8_shown_16 : decode cX8_shown 16 = .ok (.iload_n 1, 1) := by decide +kernel
theorem dX8_shown_17 : decode cX8_shown 17 = .ok (.invokevirtual 217, 3) := by decide +kernel
theorem dX8_shown_20 : decode cX8_shown 20 = .ok (.istore_n 3, 1) := by decide +kernel
theorem dX8_shown_21 : decode cX8_shown 21 = .ok (.iload_n 2, 1) := by decide +kernel
theorem dX8_shown_22 : decode cX8_shown 22 = .ok (.iconst (-1), 1) := by decide +kernel
theorem dX8_shown_23 : decode cX8_shown 23 = .ok (.if_icmp .ne 13, 3) := by decide +kernel
theorem dX8_shown_26 : decode cX8_shown 26 = .ok (.iload_n 3, 1) := by decide +kernel
theorem dX8_shown_27 : decode cX8_shown 27 = .ok (.ifCond .ge 7, 3) := by decide +kernel
theorem dX8_shown_30 : decode cX8_shown 30 = .ok (.iconst 0, 1) := by decide +kernel
theorem dX8_shown_31 : decode cX8_shown 31 = .ok (.goto 4, 3) := by decide +kernel
theorem dX8_shown_34 : decode cX8_shown 34 = .ok (.iconst 1, 1) := by decide +kernel
theorem dX8_shown_35 : decode cX8_shown 35 = .ok (.ireturn, 1) := by decide +kernel
theorem dX8_shown_36 : decode cX8_shown 36 = .ok (.iload_n 3, 1) := by decide +kernel
theorem dX8_shown_37 : decode cX8_shown 37 = .ok (.ifCond .ge 7, 3) := by decide +kernel
theorem dX8_shown_40 : decode cX8_shown 40 = .ok (.iconst (-1), 1) := by decide +kernel
theorem dX8_shown_41 : decode cX8_shown 41 = .ok (.goto 34, 3) := by decide +kernel
theorem dX8_shown_44 : decode cX8_shown 44 = .ok (.iload_n 2, 1) := by decide +kernel
theorem dX8_shown_45 : decode cX8_shown 45 = .ok (.ifCond .ne 9, 3) := by decide +kernel
theorem dX8_shown_48 : decode cX8_shown 48 = .ok (.iload_n 3, 1) := by decide +kernel
theorem dX8_shown_49 : decode cX8_shown 49 = .ok (.iconst 4, 1) := by decide +kernel
theorem dX8_shown_50 : decode cX8_shown 50 = .ok (.idiv, 1) := by decide +kernel
theorem dX8_shown_51 : decode cX8_shown 51 = .ok (.goto 24, 3) := by decide +kernel
theorem dX8_shown_54 : decode cX8_shown 54 = .ok (.iload_n 2, 1) := by decide +kernel
theorem dX8_shown_55 : decode cX8_shown 55 = .ok (.iconst 1, 1) := by decide +kernel
theorem dX8_shown_56 : decode cX8_shown 56 = .ok (.if_icmp .ne 18, 3) := by decide +kernel
theorem dX8_shown_59 : decode cX8_shown 59 = .ok (.aload_n 0, 1) := by decide +kernel
theorem dX8_shown_60 : decode cX8_shown 60 = .ok (.getfield 47, 3) := by decide +kernel
theorem dX8_shown_63 : decode cX8_shown 63 = .ok (.iload_n 1, 1) := by decide +kernel
theorem dX8_shown_64 : decode cX8_shown 64 = .ok (.iaload, 1) := by decide +kernel
theorem dX8_shown_65 : decode cX8_shown 65 = .ok (.ifCond .lt 9, 3) := by decide +kernel
theorem dX8_shown_68 : decode cX8_shown 68 = .ok (.iload_n 3, 1) := by decide +kernel
theorem dX8_shown_69 : decode cX8_shown 69 = .ok (.iconst 4, 1) := by decide +kernel
theorem dX8_shown_70 : decode cX8_shown 70 = .ok (.irem, 1) := by decide +kernel
theorem dX8_shown_71 : decode cX8_shown 71 = .ok (.goto 4, 3) := by decide +kernel
theorem dX8_shown_74 : decode cX8_shown 74 = .ok (.iconst (-1), 1) := by decide +kernel
theorem dX8_shown_75 : decode cX8_shown 75 = .ok (.ireturn, 1) := by decide +kernel
theorem dX8_daysNow_0 : decode cX8_daysNow 0 = .ok (.aload_n 0, 1) := by decide +kernel
theorem dX8_daysNow_1 : decode cX8_daysNow 1 = .ok (.invokevirtual 214, 3) := by decide +kernel
theorem dX8_daysNow_4 : decode cX8_daysNow 4 = .ok (.iconst 0, 1) := by decide +kernel
theorem dX8_daysNow_5 : decode cX8_daysNow 5 = .ok (.istore_n 1, 1) := by decide +kernel
theorem dX8_daysNow_6 : decode cX8_daysNow 6 = .ok (.aload_n 0, 1) := by decide +kernel
theorem dX8_daysNow_7 : decode cX8_daysNow 7 = .ok (.getfield 107, 3) := by decide +kernel
theorem dX8_daysNow_10 : decode cX8_daysNow 10 = .ok (.istore_n 2, 1) := by decide +kernel
theorem dX8_daysNow_11 : decode cX8_daysNow 11 = .ok (.iload_n 2, 1) := by decide +kernel
theorem dX8_daysNow_12 : decode cX8_daysNow 12 = .ok (.aload_n 0, 1) := by decide +kernel
theorem dX8_daysNow_13 : decode cX8_daysNow 13 = .ok (.getfield 110, 3) := by decide +kernel
theorem dX8_daysNow_16 : decode cX8_daysNow 16 = .ok (.if_icmp .gt 32, 3) := by decide +kernel
theorem dX8_daysNow_19 : decode cX8_daysNow 19 = .ok (.aload_n 0, 1) := by decide +kernel
theorem dX8_daysNow_20 : decode cX8_daysNow 20 = .ok (.getfield 103, 3) := by decide +kernel
theorem dX8_daysNow_23 : decode cX8_daysNow 23 = .ok (.ifCond .eq 25, 3) := by decide +kernel
theorem dX8_daysNow_26 : decode cX8_daysNow 26 = .ok (.iload_n 1, 1) := by decide +kernel
theorem dX8_daysNow_27 : decode cX8_daysNow 27 = .ok (.aload_n 0, 1) := by decide +kernel
theorem dX8_daysNow_28 : decode cX8_daysNow 28 = .ok (.iload_n 2, 1) := by decide +kernel
theorem dX8_daysNow_29 : decode cX8_daysNow 29 = .ok (.invokevirtual 217, 3) := by decide +kernel
theorem dX8_daysNow_32 : decode cX8_daysNow 32 = .ok (.ifCond .lt 7, 3) := by decide +kernel
theorem dX8_daysNow_35 : decode cX8_daysNow 35 = .ok (.iconst 1, 1) := by decide +kernel
theorem dX8_daysNow_36 : decode cX8_daysNow 36 = .ok (.goto 4, 3) := by decide +kernel
theorem dX8_daysNow_39 : decode cX8_daysNow 39 = .ok (.iconst 0, 1) := by decide +kernel
theorem dX8_daysNow_40 : decode cX8_daysNow 40 = .ok (.iadd, 1) := by decide +kernel
theorem dX8_daysNow_41 : decode cX8_daysNow 41 = .ok (.istore_n 1, 1) := by decide +kernel
theorem dX8_daysNow_42 : decode cX8_daysNow 42 = .ok (.iinc 2 1, 3) := by decide +kernel
theorem dX8_daysNow_45 : decode cX8_daysNow 45 = .ok (.goto (-34), 3) := by decide +kernel
theorem dX8_daysNow_48 : decode cX8_daysNow 48 = .ok (.iload_n 1, 1) := by decide +kernel
theorem dX8_daysNow_49 : decode cX8_daysNow 49 = .ok (.ireturn, 1) := by decide +kernel
theorem dX8_days_0 : decode cX8_days 0 = .ok (.aload_n 0, 1) := by decide +kernel
theorem dX8_days_1 : decode cX8_days 1 = .ok (.invokevirtual 220, 3) := by decide +kernel
theorem dX8_days_4 : decode cX8_days 4 = .ok (.ireturn, 1) := by decide +kernel
theorem dX8_gapNow_0 : decode cX8_gapNow 0 = .ok (.aload_n 0, 1) := by decide +kernel
theorem dX8_gapNow_1 : decode cX8_gapNow 1 = .ok (.invokevirtual 214, 3) := by decide +kernel
theorem dX8_gapNow_4 : decode cX8_gapNow 4 = .ok (.aload_n 0, 1) := by decide +kernel
theorem dX8_gapNow_5 : decode cX8_gapNow 5 = .ok (.getfield 107, 3) := by decide +kernel
theorem dX8_gapNow_8 : decode cX8_gapNow 8 = .ok (.istore_n 1, 1) := by decide +kernel
theorem dX8_gapNow_9 : decode cX8_gapNow 9 = .ok (.iload_n 1, 1) := by decide +kernel
theorem dX8_gapNow_10 : decode cX8_gapNow 10 = .ok (.aload_n 0, 1) := by decide +kernel
theorem dX8_gapNow_11 : decode cX8_gapNow 11 = .ok (.getfield 110, 3) := by decide +kernel
theorem dX8_gapNow_14 : decode cX8_gapNow 14 = .ok (.if_icmp .gt 26, 3) := by decide +kernel
theorem dX8_gapNow_17 : decode cX8_gapNow 17 = .ok (.aload_n 0, 1) := by decide +kernel
theorem dX8_gapNow_18 : decode cX8_gapNow 18 = .ok (.getfield 103, 3) := by decide +kernel
theorem dX8_gapNow_21 : decode cX8_gapNow 21 = .ok (.ifCond .eq 19, 3) := by decide +kernel
theorem dX8_gapNow_24 : decode cX8_gapNow 24 = .ok (.aload_n 0, 1) := by decide +kernel
theorem dX8_gapNow_25 : decode cX8_gapNow 25 = .ok (.iload_n 1, 1) := by decide +kernel
theorem dX8_gapNow_26 : decode cX8_gapNow 26 = .ok (.invokevirtual 217, 3) := by decide +kernel
theorem dX8_gapNow_29 : decode cX8_gapNow 29 = .ok (.ifCond .ge 5, 3) := by decide +kernel
theorem dX8_gapNow_32 : decode cX8_gapNow 32 = .ok (.iload_n 1, 1) := by decide +kernel
theorem dX8_gapNow_33 : decode cX8_gapNow 33 = .ok (.ireturn, 1) := by decide +kernel
theorem dX8_gapNow_34 : decode cX8_gapNow 34 = .ok (.iinc 1 1, 3) := by decide +kernel
theorem dX8_gapNow_37 : decode cX8_gapNow 37 = .ok (.goto (-28), 3) := by decide +kernel
theorem dX8_gapNow_40 : decode cX8_gapNow 40 = .ok (.iconst (-1), 1) := by decide +kernel
theorem dX8_gapNow_41 : decode cX8_gapNow 41 = .ok (.ireturn, 1) := by decide +kernel
theorem dX8_gap_0 : decode cX8_gap 0 = .ok (.aload_n 0, 1) := by decide +kernel
theorem dX8_gap_1 : decode cX8_gap 1 = .ok (.invokevirtual 223, 3) := by decide +kernel
theorem dX8_gap_4 : decode cX8_gap 4 = .ok (.ireturn, 1) := by decide +kernel
theorem dX8_remember_0 : decode cX8_remember 0 = .ok (.aload_n 0, 1) := by decide +kernel
theorem dX8_remember_1 : decode cX8_remember 1 = .ok (.getfield 190, 3) := by decide +kernel
theorem dX8_remember_4 : decode cX8_remember 4 = .ok (.bipush 20, 2) := by decide +kernel
theorem dX8_remember_6 : decode cX8_remember 6 = .ok (.if_icmp .ne 44, 3) := by decide +kernel
theorem dX8_remember_9 : decode cX8_remember 9 = .ok (.bipush 26, 2) := by decide +kernel
theorem dX8_remember_11 : decode cX8_remember 11 = .ok (.istore_n 1, 1) := by decide +kernel
theorem dX8_remember_12 : decode cX8_remember 12 = .ok (.iload_n 1, 1) := by decide +kernel
theorem dX8_remember_13 : decode cX8_remember 13 = .ok (.sipush 520, 3) := by decide +kernel
theorem dX8_remember_16 : decode cX8_remember 16 = .ok (.if_icmp .ge 24, 3) := by decide +kernel
theorem dX8_remember_19 : decode cX8_remember 19 = .ok (.aload_n 0, 1) := by decide +kernel
theorem dX8_remember_20 : decode cX8_remember 20 = .ok (.getfield 53, 3) := by decide +kernel
theorem dX8_remember_23 : decode cX8_remember 23 = .ok (.iload_n 1, 1) := by decide +kernel
theorem dX8_remember_24 : decode cX8_remember 24 = .ok (.bipush 26, 2) := by decide +kernel
theorem dX8_remember_26 : decode cX8_remember 26 = .ok (.isub, 1) := by decide +kernel
theorem dX8_remember_27 : decode cX8_remember 27 = .ok (.aload_n 0, 1) := by decide +kernel
theorem dX8_remember_28 : decode cX8_remember 28 = .ok (.getfield 53, 3) := by decide +kernel
theorem dX8_remember_31 : decode cX8_remember 31 = .ok (.iload_n 1, 1) := by decide +kernel
theorem dX8_remember_32 : decode cX8_remember 32 = .ok (.iaload, 1) := by decide +kernel
theorem dX8_remember_33 : decode cX8_remember 33 = .ok (.iastore, 1) := by decide +kernel
theorem dX8_remember_34 : decode cX8_remember 34 = .ok (.iinc 1 1, 3) := by decide +kernel
theorem dX8_remember_37 : decode cX8_remember 37 = .ok (.goto (-25), 3) := by decide +kernel
theorem dX8_remember_40 : decode cX8_remember 40 = .ok (.aload_n 0, 1) := by decide +kernel
theorem dX8_remember_41 : decode cX8_remember 41 = .ok (.dup, 1) := by decide +kernel
theorem dX8_remember_42 : decode cX8_remember 42 = .ok (.getfield 190, 3) := by decide +kernel
theorem dX8_remember_45 : decode cX8_remember 45 = .ok (.iconst 1, 1) := by decide +kernel
theorem dX8_remember_46 : decode cX8_remember 46 = .ok (.isub, 1) := by decide +kernel
theorem dX8_remember_47 : decode cX8_remember 47 = .ok (.putfield 190, 3) := by decide +kernel
theorem dX8_remember_50 : decode cX8_remember 50 = .ok (.iconst 0, 1) := by decide +kernel
theorem dX8_remember_51 : decode cX8_remember 51 = .ok (.istore_n 1, 1) := by decide +kernel
theorem dX8_remember_52 : decode cX8_remember 52 = .ok (.iload_n 1, 1) := by decide +kernel
theorem dX8_remember_53 : decode cX8_remember 53 = .ok (.bipush 26, 2) := by decide +kernel
theorem dX8_remember_55 : decode cX8_remember 55 = .ok (.if_icmp .ge 29, 3) := by decide +kernel
theorem dX8_remember_58 : decode cX8_remember 58 = .ok (.aload_n 0, 1) := by decide +kernel
theorem dX8_remember_59 : decode cX8_remember 59 = .ok (.getfield 53, 3) := by decide +kernel
theorem dX8_remember_62 : decode cX8_remember 62 = .ok (.bipush 26, 2) := by decide +kernel
theorem dX8_remember_64 : decode cX8_remember 64 = .ok (.aload_n 0, 1) := by decide +kernel
theorem dX8_remember_65 : decode cX8_remember 65 = .ok (.getfield 190, 3) := by decide +kernel
theorem dX8_remember_68 : decode cX8_remember 68 = .ok (.imul, 1) := by decide +kernel
theorem dX8_remember_69 : decode cX8_remember 69 = .ok (.iload_n 1, 1) := by decide +kernel
theorem dX8_remember_70 : decode cX8_remember 70 = .ok (.iadd, 1) := by decide +kernel
theorem dX8_remember_71 : decode cX8_remember 71 = .ok (.aload_n 0, 1) := by decide +kernel
theorem dX8_remember_72 : decode cX8_remember 72 = .ok (.getfield 19, 3) := by decide +kernel
theorem dX8_remember_75 : decode cX8_remember 75 = .ok (.iload_n 1, 1) := by decide +kernel
theorem dX8_remember_76 : decode cX8_remember 76 = .ok (.iaload, 1) := by decide +kernel
theorem dX8_remember_77 : decode cX8_remember 77 = .ok (.iastore, 1) := by decide +kernel
theorem dX8_remember_78 : decode cX8_remember 78 = .ok (.iinc 1 1, 3) := by decide +kernel
theorem dX8_remember_81 : decode cX8_remember 81 = .ok (.goto (-29), 3) := by decide +kernel
theorem dX8_remember_84 : decode cX8_remember 84 = .ok (.aload_n 0, 1) := by decide +kernel
theorem dX8_remember_85 : decode cX8_remember 85 = .ok (.dup, 1) := by decide +kernel
theorem dX8_remember_86 : decode cX8_remember 86 = .ok (.getfield 190, 3) := by decide +kernel
theorem dX8_remember_89 : decode cX8_remember 89 = .ok (.iconst 1, 1) := by decide +kernel
theorem dX8_remember_90 : decode cX8_remember 90 = .ok (.iadd, 1) := by decide +kernel
theorem dX8_remember_91 : decode cX8_remember 91 = .ok (.putfield 190, 3) := by decide +kernel
theorem dX8_remember_94 : decode cX8_remember 94 = .ok (.return_, 1) := by decide +kernel
theorem dX8_paintNow_0 : decode cX8_paintNow 0 = .ok (.aload_n 0, 1) := by decide +kernel
theorem dX8_paintNow_1 : decode cX8_paintNow 1 = .ok (.getfield 19, 3) := by decide +kernel
theorem dX8_paintNow_4 : decode cX8_paintNow 4 = .ok (.bipush 6, 2) := by decide +kernel
theorem dX8_paintNow_6 : decode cX8_paintNow 6 = .ok (.iload_n 1, 1) := by decide +kernel
theorem dX8_paintNow_7 : decode cX8_paintNow 7 = .ok (.imul, 1) := by decide +kernel
theorem dX8_paintNow_8 : decode cX8_paintNow 8 = .ok (.iload_n 2, 1) := by decide +kernel
theorem dX8_paintNow_9 : decode cX8_paintNow 9 = .ok (.iadd, 1) := by decide +kernel
theorem dX8_paintNow_10 : decode cX8_paintNow 10 = .ok (.iload_n 3, 1) := by decide +kernel
theorem dX8_paintNow_11 : decode cX8_paintNow 11 = .ok (.iastore, 1) := by decide +kernel
theorem dX8_paintNow_12 : decode cX8_paintNow 12 = .ok (.aload_n 0, 1) := by decide +kernel
theorem dX8_paintNow_13 : decode cX8_paintNow 13 = .ok (.getfield 19, 3) := by decide +kernel
theorem dX8_paintNow_16 : decode cX8_paintNow 16 = .ok (.bipush 25, 2) := by decide +kernel
theorem dX8_paintNow_18 : decode cX8_paintNow 18 = .ok (.dup2, 1) := by decide +kernel
theorem dX8_paintNow_19 : decode cX8_paintNow 19 = .ok (.iaload, 1) := by decide +kernel
theorem dX8_paintNow_20 : decode cX8_paintNow 20 = .ok (.aload_n 0, 1) := by decide +kernel
theorem dX8_paintNow_21 : decode cX8_paintNow 21 = .ok (.getfield 16, 3) := by decide +kernel
theorem dX8_paintNow_24 : decode cX8_paintNow 24 = .ok (.iload_n 3, 1) := by decide +kernel
theorem dX8_paintNow_25 : decode cX8_paintNow 25 = .ok (.iaload, 1) := by decide +kernel
theorem dX8_paintNow_26 : decode cX8_paintNow 26 = .ok (.iadd, 1) := by decide +kernel
theorem dX8_paintNow_27 : decode cX8_paintNow 27 = .ok (.iastore, 1) := by decide +kernel
theorem dX8_paintNow_28 : decode cX8_paintNow 28 = .ok (.return_, 1) := by decide +kernel
theorem dX8_paint_0 : decode cX8_paint 0 = .ok (.aload_n 0, 1) := by decide +kernel
theorem dX8_paint_1 : decode cX8_paint 1 = .ok (.iload_n 1, 1) := by decide +kernel
theorem dX8_paint_2 : decode cX8_paint 2 = .ok (.invokevirtual 193, 3) := by decide +kernel
theorem dX8_paint_5 : decode cX8_paint 5 = .ok (.ifCond .eq 10, 3) := by decide +kernel
theorem dX8_paint_8 : decode cX8_paint 8 = .ok (.iload_n 3, 1) := by decide +kernel
theorem dX8_paint_9 : decode cX8_paint 9 = .ok (.invokestatic 201, 3) := by decide +kernel
theorem dX8_paint_12 : decode cX8_paint 12 = .ok (.ifCond .ne 6, 3) := by decide +kernel
theorem dX8_paint_15 : decode cX8_paint 15 = .ok (.ldc 197, 2) := by decide +kernel
theorem dX8_paint_17 : decode cX8_paint 17 = .ok (.ireturn, 1) := by decide +kernel
theorem dX8_paint_18 : decode cX8_paint 18 = .ok (.aload_n 0, 1) := by decide +kernel
theorem dX8_paint_19 : decode cX8_paint 19 = .ok (.iload_n 1, 1) := by decide +kernel
theorem dX8_paint_20 : decode cX8_paint 20 = .ok (.iload_n 2, 1) := by decide +kernel
theorem dX8_paint_21 : decode cX8_paint 21 = .ok (.invokevirtual 198, 3) := by decide +kernel
theorem dX8_paint_24 : decode cX8_paint 24 = .ok (.ifCond .ne 6, 3) := by decide +kernel
theorem dX8_paint_27 : decode cX8_paint 27 = .ok (.ldc 115, 2) := by decide +kernel
theorem dX8_paint_29 : decode cX8_paint 29 = .ok (.ireturn, 1) := by decide +kernel
theorem dX8_paint_30 : decode cX8_paint 30 = .ok (.aload_n 0, 1) := by decide +kernel
theorem dX8_paint_31 : decode cX8_paint 31 = .ok (.invokevirtual 226, 3) := by decide +kernel
theorem dX8_paint_34 : decode cX8_paint 34 = .ok (.aload_n 0, 1) := by decide +kernel
theorem dX8_paint_35 : decode cX8_paint 35 = .ok (.iload_n 1, 1) := by decide +kernel
theorem dX8_paint_36 : decode cX8_paint 36 = .ok (.iload_n 2, 1) := by decide +kernel
theorem dX8_paint_37 : decode cX8_paint 37 = .ok (.iload_n 3, 1) := by decide +kernel
theorem dX8_paint_38 : decode cX8_paint 38 = .ok (.invokevirtual 229, 3) := by decide +kernel
theorem dX8_paint_41 : decode cX8_paint 41 = .ok (.aload_n 0, 1) := by decide +kernel
theorem dX8_paint_42 : decode cX8_paint 42 = .ok (.getfield 19, 3) := by decide +kernel
theorem dX8_paint_45 : decode cX8_paint 45 = .ok (.bipush 25, 2) := by decide +kernel
theorem dX8_paint_47 : decode cX8_paint 47 = .ok (.iaload, 1) := by decide +kernel
theorem dX8_paint_48 : decode cX8_paint 48 = .ok (.ireturn, 1) := by decide +kernel
theorem dX8_lose_0 : decode cX8_lose 0 = .ok (.aload_n 0, 1) := by decide +kernel
theorem dX8_lose_1 : decode cX8_lose 1 = .ok (.iload_n 1, 1) := by decide +kernel
theorem dX8_lose_2 : decode cX8_lose 2 = .ok (.invokevirtual 193, 3) := by decide +kernel
theorem dX8_lose_5 : decode cX8_lose 5 = .ok (.ifCond .ne 6, 3) := by decide +kernel
theorem dX8_lose_8 : decode cX8_lose 8 = .ok (.ldc 197, 2) := by decide +kernel
theorem dX8_lose_10 : decode cX8_lose 10 = .ok (.ireturn, 1) := by decide +kernel
theorem dX8_lose_11 : decode cX8_lose 11 = .ok (.aload_n 0, 1) := by decide +kernel
theorem dX8_lose_12 : decode cX8_lose 12 = .ok (.invokevirtual 226, 3) := by decide +kernel
theorem dX8_lose_15 : decode cX8_lose 15 = .ok (.aload_n 0, 1) := by decide +kernel
theorem dX8_lose_16 : decode cX8_lose 16 = .ok (.getfield 19, 3) := by decide +kernel
theorem dX8_lose_19 : decode cX8_lose 19 = .ok (.bipush 24, 2) := by decide +kernel
theorem dX8_lose_21 : decode cX8_lose 21 = .ok (.iaload, 1) := by decide +kernel
theorem dX8_lose_22 : decode cX8_lose 22 = .ok (.iload_n 1, 1) := by decide +kernel
theorem dX8_lose_23 : decode cX8_lose 23 = .ok (.ishr, 1) := by decide +kernel
theorem dX8_lose_24 : decode cX8_lose 24 = .ok (.iconst 1, 1) := by decide +kernel
theorem dX8_lose_25 : decode cX8_lose 25 = .ok (.iand, 1) := by decide +kernel
theorem dX8_lose_26 : decode cX8_lose 26 = .ok (.istore_n 3, 1) := by decide +kernel
theorem dX8_lose_27 : decode cX8_lose 27 = .ok (.aload_n 0, 1) := by decide +kernel
theorem dX8_lose_28 : decode cX8_lose 28 = .ok (.getfield 19, 3) := by decide +kernel
theorem dX8_lose_31 : decode cX8_lose 31 = .ok (.bipush 24, 2) := by decide +kernel
theorem dX8_lose_33 : decode cX8_lose 33 = .ok (.iload_n 2, 1) := by decide +kernel
theorem dX8_lose_34 : decode cX8_lose 34 = .ok (.ifCond .eq 17, 3) := by decide +kernel
theorem dX8_lose_37 : decode cX8_lose 37 = .ok (.aload_n 0, 1) := by decide +kernel
theorem dX8_lose_38 : decode cX8_lose 38 = .ok (.getfield 19, 3) := by decide +kernel
theorem dX8_lose_41 : decode cX8_lose 41 = .ok (.bipush 24, 2) := by decide +kernel
theorem dX8_lose_43 : decode cX8_lose 43 = .ok (.iaload, 1) := by decide +kernel
theorem dX8_lose_44 : decode cX8_lose 44 = .ok (.iconst 1, 1) := by decide +kernel
theorem dX8_lose_45 : decode cX8_lose 45 = .ok (.iload_n 1, 1) := by decide +kernel
theorem dX8_lose_46 : decode cX8_lose 46 = .ok (.ishl, 1) := by decide +kernel
theorem dX8_lose_47 : decode cX8_lose 47 = .ok (.ior, 1) := by decide +kernel
theorem dX8_lose_48 : decode cX8_lose 48 = .ok (.goto 16, 3) := by decide +kernel
theorem dX8_lose_51 : decode cX8_lose 51 = .ok (.aload_n 0, 1) := by decide +kernel
theorem dX8_lose_52 : decode cX8_lose 52 = .ok (.getfield 19, 3) := by decide +kernel
theorem dX8_lose_55 : decode cX8_lose 55 = .ok (.bipush 24, 2) := by decide +kernel
theorem dX8_lose_57 : decode cX8_lose 57 = .ok (.iaload, 1) := by decide +kernel
theorem dX8_lose_58 : decode cX8_lose 58 = .ok (.iconst 1, 1) := by decide +kernel
theorem dX8_lose_59 : decode cX8_lose 59 = .ok (.iload_n 1, 1) := by decide +kernel
theorem dX8_lose_60 : decode cX8_lose 60 = .ok (.ishl, 1) := by decide +kernel
theorem dX8_lose_61 : decode cX8_lose 61 = .ok (.iconst (-1), 1) := by decide +kernel
theorem dX8_lose_62 : decode cX8_lose 62 = .ok (.ixor, 1) := by decide +kernel
theorem dX8_lose_63 : decode cX8_lose 63 = .ok (.iand, 1) := by decide +kernel
theorem dX8_lose_64 : decode cX8_lose 64 = .ok (.iastore, 1) := by decide +kernel
theorem dX8_lose_65 : decode cX8_lose 65 = .ok (.iload_n 3, 1) := by decide +kernel
theorem dX8_lose_66 : decode cX8_lose 66 = .ok (.ireturn, 1) := by decide +kernel
theorem dX8_draw_0 : decode cX8_draw 0 = .ok (.aload_n 0, 1) := by decide +kernel
theorem dX8_draw_1 : decode cX8_draw 1 = .ok (.aload_n 0, 1) := by decide +kernel
theorem dX8_draw_2 : decode cX8_draw 2 = .ok (.getfield 233, 3) := by decide +kernel
theorem dX8_draw_5 : decode cX8_draw 5 = .ok (.i2l, 1) := by decide +kernel
theorem dX8_draw_6 : decode cX8_draw 6 = .ok (.ldc2_w 236, 3) := by decide +kernel
theorem dX8_draw_9 : decode cX8_draw 9 = .ok (.lmul, 1) := by decide +kernel
theorem dX8_draw_10 : decode cX8_draw 10 = .ok (.ldc2_w 238, 3) := by decide +kernel
theorem dX8_draw_13 : decode cX8_draw 13 = .ok (.ladd, 1) := by decide +kernel
theorem dX8_draw_14 : decode cX8_draw 14 = .ok (.ldc2_w 240, 3) := by decide +kernel
theorem dX8_draw_17 : decode cX8_draw 17 = .ok (.lrem, 1) := by decide +kernel
theorem dX8_draw_18 : decode cX8_draw 18 = .ok (.l2i, 1) := by decide +kernel
theorem dX8_draw_19 : decode cX8_draw 19 = .ok (.putfield 233, 3) := by decide +kernel
theorem dX8_draw_22 : decode cX8_draw 22 = .ok (.aload_n 0, 1) := by decide +kernel
theorem dX8_draw_23 : decode cX8_draw 23 = .ok (.getfield 233, 3) := by decide +kernel
theorem dX8_draw_26 : decode cX8_draw 26 = .ok (.ldc 242, 2) := by decide +kernel
theorem dX8_draw_28 : decode cX8_draw 28 = .ok (.idiv, 1) := by decide +kernel
theorem dX8_draw_29 : decode cX8_draw 29 = .ok (.iload_n 1, 1) := by decide +kernel
theorem dX8_draw_30 : decode cX8_draw 30 = .ok (.irem, 1) := by decide +kernel
theorem dX8_draw_31 : decode cX8_draw 31 = .ok (.ireturn, 1) := by decide +kernel
theorem dX8_drift_0 : decode cX8_drift 0 = .ok (.iload_n 1, 1) := by decide +kernel
theorem dX8_drift_1 : decode cX8_drift 1 = .ok (.i2l, 1) := by decide +kernel
theorem dX8_drift_2 : decode cX8_drift 2 = .ok (.lconst 1, 1) := by decide +kernel
theorem dX8_drift_3 : decode cX8_drift 3 = .ok (.ldc2_w 243, 3) := by decide +kernel
theorem dX8_drift_6 : decode cX8_drift 6 = .ok (.invokestatic 93, 3) := by decide +kernel
theorem dX8_drift_9 : decode cX8_drift 9 = .ok (.ifCond .ne 6, 3) := by decide +kernel
theorem dX8_drift_12 : decode cX8_drift 12 = .ok (.ldc 115, 2) := by decide +kernel
theorem dX8_drift_14 : decode cX8_drift 14 = .ok (.ireturn, 1) := by decide +kernel
theorem dX8_drift_15 : decode cX8_drift 15 = .ok (.aload_n 0, 1) := by decide +kernel
theorem dX8_drift_16 : decode cX8_drift 16 = .ok (.getfield 90, 3) := by decide +kernel
theorem dX8_drift_19 : decode cX8_drift 19 = .ok (.ifCond .ne 6, 3) := by decide +kernel
theorem dX8_drift_22 : decode cX8_drift 22 = .ok (.ldc 245, 2) := by decide +kernel
theorem dX8_drift_24 : decode cX8_drift 24 = .ok (.ireturn, 1) := by decide +kernel
theorem dX8_drift_25 : decode cX8_drift 25 = .ok (.aload_n 0, 1) := by decide +kernel
theorem dX8_drift_26 : decode cX8_drift 26 = .ok (.getfield 19, 3) := by decide +kernel
theorem dX8_drift_29 : decode cX8_drift 29 = .ok (.bipush 25, 2) := by decide +kernel
theorem dX8_drift_31 : decode cX8_drift 31 = .ok (.iaload, 1) := by decide +kernel
theorem dX8_drift_32 : decode cX8_drift 32 = .ok (.ldc 246, 2) := by decide +kernel
theorem dX8_drift_34 : decode cX8_drift 34 = .ok (.if_icmp .le 6, 3) := by decide +kernel
theorem dX8_drift_37 : decode cX8_drift 37 = .ok (.ldc 119, 2) := by decide +kernel
theorem dX8_drift_39 : decode cX8_drift 39 = .ok (.ireturn, 1) := by decide +kernel
theorem dX8_drift_40 : decode cX8_drift 40 = .ok (.aload_n 0, 1) := by decide +kernel
theorem dX8_drift_41 : decode cX8_drift 41 = .ok (.invokevirtual 226, 3) := by decide +kernel
theorem dX8_drift_44 : decode cX8_drift 44 = .ok (.iconst 0, 1) := by decide +kernel
theorem dX8_drift_45 : decode cX8_drift 45 = .ok (.istore_n 2, 1) := by decide +kernel
theorem dX8_drift_46 : decode cX8_drift 46 = .ok (.iload_n 2, 1) := by decide +kernel
theorem dX8_drift_47 : decode cX8_drift 47 = .ok (.iload_n 1, 1) := by decide +kernel
theorem dX8_drift_48 : decode cX8_drift 48 = .ok (.if_icmp .ge 43, 3) := by decide +kernel
theorem dX8_drift_51 : decode cX8_drift 51 = .ok (.aload_n 0, 1) := by decide +kernel
theorem dX8_drift_52 : decode cX8_drift 52 = .ok (.aload_n 0, 1) := by decide +kernel
theorem dX8_drift_53 : decode cX8_drift 53 = .ok (.getfield 90, 3) := by decide +kernel
theorem dX8_drift_56 : decode cX8_drift 56 = .ok (.invokevirtual 247, 3) := by decide +kernel
theorem dX8_drift_59 : decode cX8_drift 59 = .ok (.istore_n 3, 1) := by decide +kernel
theorem dX8_drift_60 : decode cX8_drift 60 = .ok (.aload_n 0, 1) := by decide +kernel
theorem dX8_drift_61 : decode cX8_drift 61 = .ok (.aload_n 0, 1) := by decide +kernel
theorem dX8_drift_62 : decode cX8_drift 62 = .ok (.getfield 7, 3) := by decide +kernel
theorem dX8_drift_65 : decode cX8_drift 65 = .ok (.iload_n 3, 1) := by decide +kernel
theorem dX8_drift_66 : decode cX8_drift 66 = .ok (.iaload, 1) := by decide +kernel
theorem dX8_drift_67 : decode cX8_drift 67 = .ok (.invokevirtual 247, 3) := by decide +kernel
theorem dX8_drift_70 : decode cX8_drift 70 = .ok (.istore 4, 2) := by decide +kernel
theorem dX8_drift_72 : decode cX8_drift 72 = .ok (.aload_n 0, 1) := by decide +kernel
theorem dX8_drift_73 : decode cX8_drift 73 = .ok (.iload_n 3, 1) := by decide +kernel
theorem dX8_drift_74 : decode cX8_drift 74 = .ok (.iload 4, 2) := by decide +kernel
theorem dX8_drift_76 : decode cX8_drift 76 = .ok (.aload_n 0, 1) := by decide +kernel
theorem dX8_drift_77 : decode cX8_drift 77 = .ok (.bipush 10, 2) := by decide +kernel
theorem dX8_drift_79 : decode cX8_drift 79 = .ok (.invokevirtual 247, 3) := by decide +kernel
theorem dX8_drift_82 : decode cX8_drift 82 = .ok (.invokevirtual 229, 3) := by decide +kernel
theorem dX8_drift_85 : decode cX8_drift 85 = .ok (.iinc 2 1, 3) := by decide +kernel
theorem dX8_drift_88 : decode cX8_drift 88 = .ok (.goto (-42), 3) := by decide +kernel
theorem dX8_drift_91 : decode cX8_drift 91 = .ok (.aload_n 0, 1) := by decide +kernel
theorem dX8_drift_92 : decode cX8_drift 92 = .ok (.getfield 19, 3) := by decide +kernel
theorem dX8_drift_95 : decode cX8_drift 95 = .ok (.bipush 25, 2) := by decide +kernel
theorem dX8_drift_97 : decode cX8_drift 97 = .ok (.iaload, 1) := by decide +kernel
theorem dX8_drift_98 : decode cX8_drift 98 = .ok (.ireturn, 1) := by decide +kernel
theorem dX8_undo_0 : decode cX8_undo 0 = .ok (.aload_n 0, 1) := by decide +kernel
theorem dX8_undo_1 : decode cX8_undo 1 = .ok (.getfield 190, 3) := by decide +kernel
theorem dX8_undo_4 : decode cX8_undo 4 = .ok (.ifCond .ne 6, 3) := by decide +kernel
theorem dX8_undo_7 : decode cX8_undo 7 = .ok (.ldc 245, 2) := by decide +kernel
theorem dX8_undo_9 : decode cX8_undo 9 = .ok (.ireturn, 1) := by decide +kernel
theorem dX8_undo_10 : decode cX8_undo 10 = .ok (.aload_n 0, 1) := by decide +kernel
theorem dX8_undo_11 : decode cX8_undo 11 = .ok (.dup, 1) := by decide +kernel
theorem dX8_undo_12 : decode cX8_undo 12 = .ok (.getfield 190, 3) := by decide +kernel
theorem dX8_undo_15 : decode cX8_undo 15 = .ok (.iconst 1, 1) := by decide +kernel
theorem dX8_undo_16 : decode cX8_undo 16 = .ok (.isub, 1) := by decide +kernel
theorem dX8_undo_17 : decode cX8_undo 17 = .ok (.putfield 190, 3) := by decide +kernel
theorem dX8_undo_20 : decode cX8_undo 20 = .ok (.iconst 0, 1) := by decide +kernel
theorem dX8_undo_21 : decode cX8_undo 21 = .ok (.istore_n 1, 1) := by decide +kernel
theorem dX8_undo_22 : decode cX8_undo 22 = .ok (.iload_n 1, 1) := by decide +kernel
theorem dX8_undo_23 : decode cX8_undo 23 = .ok (.bipush 26, 2) := by decide +kernel
theorem dX8_undo_25 : decode cX8_undo 25 = .ok (.if_icmp .ge 29, 3) := by decide +kernel
theorem dX8_undo_28 : decode cX8_undo 28 = .ok (.aload_n 0, 1) := by decide +kernel
theorem dX8_undo_29 : decode cX8_undo 29 = .ok (.getfield 19, 3) := by decide +kernel
theorem dX8_undo_32 : decode cX8_undo 32 = .ok (.iload_n 1, 1) := by decide +kernel
theorem dX8_undo_33 : decode cX8_undo 33 = .ok (.aload_n 0, 1) := by decide +kernel
theorem dX8_undo_34 : decode cX8_undo 34 = .ok (.getfield 53, 3) := by decide +kernel
theorem dX8_undo_37 : decode cX8_undo 37 = .ok (.bipush 26, 2) := by decide +kernel
theorem dX8_undo_39 : decode cX8_undo 39 = .ok (.aload_n 0, 1) := by decide +kernel
theorem dX8_undo_40 : decode cX8_undo 40 = .ok (.getfield 190, 3) := by decide +kernel
theorem dX8_undo_43 : decode cX8_undo 43 = .ok (.imul, 1) := by decide +kernel
theorem dX8_undo_44 : decode cX8_undo 44 = .ok (.iload_n 1, 1) := by decide +kernel
theorem dX8_undo_45 : decode cX8_undo 45 = .ok (.iadd, 1) := by decide +kernel
theorem dX8_undo_46 : decode cX8_undo 46 = .ok (.iaload, 1) := by decide +kernel
theorem dX8_undo_47 : decode cX8_undo 47 = .ok (.iastore, 1) := by decide +kernel
theorem dX8_undo_48 : decode cX8_undo 48 = .ok (.iinc 1 1, 3) := by decide +kernel
theorem dX8_undo_51 : decode cX8_undo 51 = .ok (.goto (-29), 3) := by decide +kernel
theorem dX8_undo_54 : decode cX8_undo 54 = .ok (.aload_n 0, 1) := by decide +kernel
theorem dX8_undo_55 : decode cX8_undo 55 = .ok (.getfield 190, 3) := by decide +kernel
theorem dX8_undo_58 : decode cX8_undo 58 = .ok (.ireturn, 1) := by decide +kernel
theorem dX8_needed_0 : decode cX8_needed 0 = .ok (.iconst 0, 1) := by decide +kernel
theorem dX8_needed_1 : decode cX8_needed 1 = .ok (.istore_n 2, 1) := by decide +kernel
theorem dX8_needed_2 : decode cX8_needed 2 = .ok (.aload_n 0, 1) := by decide +kernel
theorem dX8_needed_3 : decode cX8_needed 3 = .ok (.getfield 107, 3) := by decide +kernel
theorem dX8_needed_6 : decode cX8_needed 6 = .ok (.istore_n 3, 1) := by decide +kernel
theorem dX8_needed_7 : decode cX8_needed 7 = .ok (.iload_n 3, 1) := by decide +kernel
theorem dX8_needed_8 : decode cX8_needed 8 = .ok (.aload_n 0, 1) := by decide +kernel
theorem dX8_needed_9 : decode cX8_needed 9 = .ok (.getfield 110, 3) := by decide +kernel
theorem dX8_needed_12 : decode cX8_needed 12 = .ok (.if_icmp .gt 91, 3) := by decide +kernel
theorem dX8_needed_15 : decode cX8_needed 15 = .ok (.aload_n 0, 1) := by decide +kernel
theorem dX8_needed_16 : decode cX8_needed 16 = .ok (.getfield 103, 3) := by decide +kernel
theorem dX8_needed_19 : decode cX8_needed 19 = .ok (.ifCond .eq 84, 3) := by decide +kernel
theorem dX8_needed_22 : decode cX8_needed 22 = .ok (.aload_n 0, 1) := by decide +kernel
theorem dX8_needed_23 : decode cX8_needed 23 = .ok (.aload_n 0, 1) := by decide +kernel
theorem dX8_needed_24 : decode cX8_needed 24 = .ok (.getfield 44, 3) := by decide +kernel
theorem dX8_needed_27 : decode cX8_needed 27 = .ok (.iload_n 3, 1) := by decide +kernel
theorem dX8_needed_28 : decode cX8_needed 28 = .ok (.iaload, 1) := by decide +kernel
theorem dX8_needed_29 : decode cX8_needed 29 = .ok (.invokevirtual 250, 3) := by decide +kernel
theorem dX8_needed_32 : decode cX8_needed 32 = .ok (.aload_n 0, 1) := by decide +kernel
theorem dX8_needed_33 : decode cX8_needed 33 = .ok (.iload_n 1, 1) := by decide +kernel
theorem dX8_needed_34 : decode cX8_needed 34 = .ok (.invokevirtual 250, 3) := by decide +kernel
theorem dX8_needed_37 : decode cX8_needed 37 = .ok (.if_icmp .ne 7, 3) := by decide +kernel
theorem dX8_needed_40 : decode cX8_needed 40 = .ok (.iconst 1, 1) := by decide +kernel
theorem dX8_needed_41 : decode cX8_needed 41 = .ok (.goto 4, 3) := by decide +kernel
theorem dX8_needed_44 : decode cX8_needed 44 = .ok (.iconst 0, 1) := by decide +kernel
theorem dX8_needed_45 : decode cX8_needed 45 = .ok (.istore 4, 2) := by decide +kernel
theorem dX8_needed_47 : decode cX8_needed 47 = .ok (.iload 4, 2) := by decide +kernel
theorem dX8_needed_49 : decode cX8_needed 49 = .ok (.aload_n 0, 1) := by decide +kernel
theorem dX8_needed_50 : decode cX8_needed 50 = .ok (.getfield 47, 3) := by decide +kernel
theorem dX8_needed_53 : decode cX8_needed 53 = .ok (.iload_n 3, 1) := by decide +kernel
theorem dX8_needed_54 : decode cX8_needed 54 = .ok (.iaload, 1) := by decide +kernel
theorem dX8_needed_55 : decode cX8_needed 55 = .ok (.ifCond .lt 25, 3) := by decide +kernel
theorem dX8_needed_58 : decode cX8_needed 58 = .ok (.aload_n 0, 1) := by decide +kernel
theorem dX8_needed_59 : decode cX8_needed 59 = .ok (.aload_n 0, 1) := by decide +kernel
theorem dX8_needed_60 : decode cX8_needed 60 = .ok (.getfield 47, 3) := by decide +kernel
theorem dX8_needed_63 : decode cX8_needed 63 = .ok (.iload_n 3, 1) := by decide +kernel
theorem dX8_needed_64 : decode cX8_needed 64 = .ok (.iaload, 1) := by decide +kernel
theorem dX8_needed_65 : decode cX8_needed 65 = .ok (.invokevirtual 250, 3) := by decide +kernel
theorem dX8_needed_68 : decode cX8_needed 68 = .ok (.aload_n 0, 1) := by decide +kernel
theorem dX8_needed_69 : decode cX8_needed 69 = .ok (.iload_n 1, 1) := by decide +kernel
theorem dX8_needed_70 : decode cX8_needed 70 = .ok (.invokevirtual 250, 3) := by decide +kernel
theorem dX8_needed_73 : decode cX8_needed 73 = .ok (.if_icmp .ne 7, 3) := by decide +kernel
theorem dX8_needed_76 : decode cX8_needed 76 = .ok (.iconst 1, 1) := by decide +kernel
theorem dX8_needed_77 : decode cX8_needed 77 = .ok (.goto 4, 3) := by decide +kernel
theorem dX8_needed_80 : decode cX8_needed 80 = .ok (.iconst 0, 1) := by decide +kernel
theorem dX8_needed_81 : decode cX8_needed 81 = .ok (.iadd, 1) := by decide +kernel
theorem dX8_needed_82 : decode cX8_needed 82 = .ok (.istore 4, 2) := by decide +kernel
theorem dX8_needed_84 : decode cX8_needed 84 = .ok (.iload 4, 2) := by decide +kernel
theorem dX8_needed_86 : decode cX8_needed 86 = .ok (.iload_n 2, 1) := by decide +kernel
theorem dX8_needed_87 : decode cX8_needed 87 = .ok (.if_icmp .le 8, 3) := by decide +kernel
theorem dX8_needed_90 : decode cX8_needed 90 = .ok (.iload 4, 2) := by decide +kernel
theorem dX8_needed_92 : decode cX8_needed 92 = .ok (.goto 4, 3) := by decide +kernel
theorem dX8_needed_95 : decode cX8_needed 95 = .ok (.iload_n 2, 1) := by decide +kernel
theorem dX8_needed_96 : decode cX8_needed 96 = .ok (.istore_n 2, 1) := by decide +kernel
theorem dX8_needed_97 : decode cX8_needed 97 = .ok (.iinc 3 1, 3) := by decide +kernel
theorem dX8_needed_100 : decode cX8_needed 100 = .ok (.goto (-93), 3) := by decide +kernel
theorem dX8_needed_103 : decode cX8_needed 103 = .ok (.iload_n 2, 1) := by decide +kernel
theorem dX8_needed_104 : decode cX8_needed 104 = .ok (.ireturn, 1) := by decide +kernel
theorem dX8_must_0 : decode cX8_must 0 = .ok (.iload_n 1, 1) := by decide +kernel
theorem dX8_must_1 : decode cX8_must 1 = .ok (.invokestatic 201, 3) := by decide +kernel
theorem dX8_must_4 : decode cX8_must 4 = .ok (.ifCond .eq 11, 3) := by decide +kernel
theorem dX8_must_7 : decode cX8_must 7 = .ok (.aload_n 0, 1) := by decide +kernel
theorem dX8_must_8 : decode cX8_must 8 = .ok (.iload_n 1, 1) := by decide +kernel
theorem dX8_must_9 : decode cX8_must 9 = .ok (.invokevirtual 253, 3) := by decide +kernel
theorem dX8_must_12 : decode cX8_must 12 = .ok (.goto 5, 3) := by decide +kernel
theorem dX8_must_15 : decode cX8_must 15 = .ok (.ldc 197, 2) := by decide +kernel
theorem dX8_must_17 : decode cX8_must 17 = .ok (.ireturn, 1) := by decide +kernel
theorem dX8_findChoices_0 : decode cX8_findChoices 0 = .ok (.iconst 0, 1) := by decide +kernel
theorem dX8_findChoices_1 : decode cX8_findChoices 1 = .ok (.istore_n 2, 1) := by decide +kernel
theorem dX8_findChoices_2 : decode cX8_findChoices 2 = .ok (.iconst 0, 1) := by decide +kernel
theorem dX8_findChoices_3 : decode cX8_findChoices 3 = .ok (.istore_n 3, 1) := by decide +kernel
theorem dX8_findChoices_4 : decode cX8_findChoices 4 = .ok (.iload_n 3, 1) := by decide +kernel
theorem dX8_findChoices_5 : decode cX8_findChoices 5 = .ok (.bipush 10, 2) := by decide +kernel
theorem dX8_findChoices_7 : decode cX8_findChoices 7 = .ok (.if_icmp .ge 19, 3) := by decide +kernel
theorem dX8_findChoices_10 : decode cX8_findChoices 10 = .ok (.iload_n 2, 1) := by decide +kernel
theorem dX8_findChoices_11 : decode cX8_findChoices 11 = .ok (.iconst 1, 1) := by decide +kernel
theorem dX8_findChoices_12 : decode cX8_findChoices 12 = .ok (.aload_n 0, 1) := by decide +kernel
theorem dX8_findChoices_13 : decode cX8_findChoices 13 = .ok (.iload_n 3, 1) := by decide +kernel
theorem dX8_findChoices_14 : decode cX8_findChoices 14 = .ok (.invokevirtual 250, 3) := by decide +kernel
theorem dX8_findChoices_17 : decode cX8_findChoices 17 = .ok (.ishl, 1) := by decide +kernel
theorem dX8_findChoices_18 : decode cX8_findChoices 18 = .ok (.ior, 1) := by decide +kernel
theorem dX8_findChoices_19 : decode cX8_findChoices 19 = .ok (.istore_n 2, 1) := by decide +kernel
theorem dX8_findChoices_20 : decode cX8_findChoices 20 = .ok (.iinc 3 1, 3) := by decide +kernel
theorem dX8_findChoices_23 : decode cX8_findChoices 23 = .ok (.goto (-19), 3) := by decide +kernel
theorem dX8_findChoices_26 : decode cX8_findChoices 26 = .ok (.iload_n 2, 1) := by decide +kernel
theorem dX8_findChoices_27 : decode cX8_findChoices 27 = .ok (.invokestatic 256, 3) := by decide +kernel
theorem dX8_findChoices_30 : decode cX8_findChoices 30 = .ok (.iload_n 1, 1) := by decide +kernel
theorem dX8_findChoices_31 : decode cX8_findChoices 31 = .ok (.if_icmp .ge 10, 3) := by decide +kernel
theorem dX8_findChoices_34 : decode cX8_findChoices 34 = .ok (.iload_n 2, 1) := by decide +kernel
theorem dX8_findChoices_35 : decode cX8_findChoices 35 = .ok (.invokestatic 256, 3) := by decide +kernel
theorem dX8_findChoices_38 : decode cX8_findChoices 38 = .ok (.goto 4, 3) := by decide +kernel
theorem dX8_findChoices_41 : decode cX8_findChoices 41 = .ok (.iload_n 1, 1) := by decide +kernel
theorem dX8_findChoices_42 : decode cX8_findChoices 42 = .ok (.istore_n 3, 1) := by decide +kernel
theorem dX8_findChoices_43 : decode cX8_findChoices 43 = .ok (.aload_n 0, 1) := by decide +kernel
theorem dX8_findChoices_44 : decode cX8_findChoices 44 = .ok (.iconst 0, 1) := by decide +kernel
theorem dX8_findChoices_45 : decode cX8_findChoices 45 = .ok (.putfield 259, 3) := by decide +kernel
theorem dX8_findChoices_48 : decode cX8_findChoices 48 = .ok (.iconst 0, 1) := by decide +kernel
theorem dX8_findChoices_49 : decode cX8_findChoices 49 = .ok (.istore 4, 2) := by decide +kernel
theorem dX8_findChoices_51 : decode cX8_findChoices 51 = .ok (.iload 4, 2) := by decide +kernel
theorem dX8_findChoices_53 : decode cX8_findChoices 53 = .ok (.sipush 1024, 3) := by decide +kernel
theorem dX8_findChoices_56 : decode cX8_findChoices 56 = .ok (.if_icmp .ge 48, 3) := by decide +kernel
theorem dX8_findChoices_59 : decode cX8_findChoices 59 = .ok (.iload 4, 2) := by decide +kernel
theorem dX8_findChoices_61 : decode cX8_findChoices 61 = .ok (.iload_n 2, 1) := by decide +kernel
theorem dX8_findChoices_62 : decode cX8_findChoices 62 = .ok (.iconst (-1), 1) := by decide +kernel
theorem dX8_findChoices_63 : decode cX8_findChoices 63 = .ok (.ixor, 1) := by decide +kernel
theorem dX8_findChoices_64 : decode cX8_findChoices 64 = .ok (.iand, 1) := by decide +kernel
theorem dX8_findChoices_65 : decode cX8_findChoices 65 = .ok (.ifCond .ne 33, 3) := by decide +kernel
theorem dX8_findChoices_68 : decode cX8_findChoices 68 = .ok (.iload 4, 2) := by decide +kernel
theorem dX8_findChoices_70 : decode cX8_findChoices 70 = .ok (.invokestatic 256, 3) := by decide +kernel
theorem dX8_findChoices_73 : decode cX8_findChoices 73 = .ok (.iload_n 3, 1) := by decide +kernel
theorem dX8_findChoices_74 : decode cX8_findChoices 74 = .ok (.if_icmp .ne 24, 3) := by decide +kernel
theorem dX8_findChoices_77 : decode cX8_findChoices 77 = .ok (.aload_n 0, 1) := by decide +kernel
theorem dX8_findChoices_78 : decode cX8_findChoices 78 = .ok (.getfield 56, 3) := by decide +kernel
theorem dX8_findChoices_81 : decode cX8_findChoices 81 = .ok (.aload_n 0, 1) := by decide +kernel
theorem dX8_findChoices_82 : decode cX8_findChoices 82 = .ok (.getfield 259, 3) := by decide +kernel
theorem dX8_findChoices_85 : decode cX8_findChoices 85 = .ok (.iload 4, 2) := by decide +kernel
theorem dX8_findChoices_87 : decode cX8_findChoices 87 = .ok (.iastore, 1) := by decide +kernel
theorem dX8_findChoices_88 : decode cX8_findChoices 88 = .ok (.aload_n 0, 1) := by decide +kernel
theorem dX8_findChoices_89 : decode cX8_findChoices 89 = .ok (.dup, 1) := by decide +kernel
theorem dX8_findChoices_90 : decode cX8_findChoices 90 = .ok (.getfield 259, 3) := by decide +kernel
theorem dX8_findChoices_93 : decode cX8_findChoices 93 = .ok (.iconst 1, 1) := by decide +kernel
theorem dX8_findChoices_94 : decode cX8_findChoices 94 = .ok (.iadd, 1) := by decide +kernel
theorem dX8_findChoices_95 : decode cX8_findChoices 95 = .ok (.putfield 259, 3) := by decide +kernel
theorem dX8_findChoices_98 : decode cX8_findChoices 98 = .ok (.iinc 4 1, 3) := by decide +kernel
theorem dX8_findChoices_101 : decode cX8_findChoices 101 = .ok (.goto (-50), 3) := by decide +kernel
theorem dX8_findChoices_104 : decode cX8_findChoices 104 = .ok (.return_, 1) := by decide +kernel
theorem dX8_findWanted_0 : decode cX8_findWanted 0 = .ok (.iconst 0, 1) := by decide +kernel
theorem dX8_findWanted_1 : decode cX8_findWanted 1 = .ok (.istore_n 1, 1) := by decide +kernel
theorem dX8_findWanted_2 : decode cX8_findWanted 2 = .ok (.iload_n 1, 1) := by decide +kernel
theorem dX8_findWanted_3 : decode cX8_findWanted 3 = .ok (.bipush 110, 2) := by decide +kernel
theorem dX8_findWanted_5 : decode cX8_findWanted 5 = .ok (.if_icmp .ge 16, 3) := by decide +kernel
theorem dX8_findWanted_8 : decode cX8_findWanted 8 = .ok (.aload_n 0, 1) := by decide +kernel
theorem dX8_findWanted_9 : decode cX8_findWanted 9 = .ok (.getfield 59, 3) := by decide +kernel
theorem dX8_findWanted_12 : decode cX8_findWanted 12 = .ok (.iload_n 1, 1) := by decide +kernel
theorem dX8_findWanted_13 : decode cX8_findWanted 13 = .ok (.iconst 0, 1) := by decide +kernel
theorem dX8_findWanted_14 : decode cX8_findWanted 14 = .ok (.iastore, 1) := by decide +kernel
theorem dX8_findWanted_15 : decode cX8_findWanted 15 = .ok (.iinc 1 1, 3) := by decide +kernel
theorem dX8_findWanted_18 : decode cX8_findWanted 18 = .ok (.goto (-16), 3) := by decide +kernel
theorem dX8_findWanted_21 : decode cX8_findWanted 21 = .ok (.aload_n 0, 1) := by decide +kernel
theorem dX8_findWanted_22 : decode cX8_findWanted 22 = .ok (.getfield 107, 3) := by decide +kernel
theorem dX8_findWanted_25 : decode cX8_findWanted 25 = .ok (.istore_n 1, 1) := by decide +kernel
theorem dX8_findWanted_26 : decode cX8_findWanted 26 = .ok (.iload_n 1, 1) := by decide +kernel
theorem dX8_findWanted_27 : decode cX8_findWanted 27 = .ok (.aload_n 0, 1) := by decide +kernel
theorem dX8_findWanted_28 : decode cX8_findWanted 28 = .ok (.getfield 110, 3) := by decide +kernel
theorem dX8_findWanted_31 : decode cX8_findWanted 31 = .ok (.if_icmp .gt 67, 3) := by decide +kernel
theorem dX8_findWanted_34 : decode cX8_findWanted 34 = .ok (.aload_n 0, 1) := by decide +kernel
theorem dX8_findWanted_35 : decode cX8_findWanted 35 = .ok (.getfield 103, 3) := by decide +kernel
theorem dX8_findWanted_38 : decode cX8_findWanted 38 = .ok (.ifCond .eq 60, 3) := by decide +kernel
theorem dX8_findWanted_41 : decode cX8_findWanted 41 = .ok (.aload_n 0, 1) := by decide +kernel
theorem dX8_findWanted_42 : decode cX8_findWanted 42 = .ok (.aload_n 0, 1) := by decide +kernel
theorem dX8_findWanted_43 : decode cX8_findWanted 43 = .ok (.getfield 44, 3) := by decide +kernel
theorem dX8_findWanted_46 : decode cX8_findWanted 46 = .ok (.iload_n 1, 1) := by decide +kernel
theorem dX8_findWanted_47 : decode cX8_findWanted 47 = .ok (.iaload, 1) := by decide +kernel
theorem dX8_findWanted_48 : decode cX8_findWanted 48 = .ok (.invokevirtual 250, 3) := by decide +kernel
theorem dX8_findWanted_51 : decode cX8_findWanted 51 = .ok (.istore_n 2, 1) := by decide +kernel
theorem dX8_findWanted_52 : decode cX8_findWanted 52 = .ok (.aload_n 0, 1) := by decide +kernel
theorem dX8_findWanted_53 : decode cX8_findWanted 53 = .ok (.getfield 47, 3) := by decide +kernel
theorem dX8_findWanted_56 : decode cX8_findWanted 56 = .ok (.iload_n 1, 1) := by decide +kernel
theorem dX8_findWanted_57 : decode cX8_findWanted 57 = .ok (.iaload, 1) := by decide +kernel
theorem dX8_findWanted_58 : decode cX8_findWanted 58 = .ok (.ifCond .ge 8, 3) := by decide +kernel
theorem dX8_findWanted_61 : decode cX8_findWanted 61 = .ok (.bipush 10, 2) := by decide +kernel
theorem dX8_findWanted_63 : decode cX8_findWanted 63 = .ok (.goto 13, 3) := by decide +kernel
theorem dX8_findWanted_66 : decode cX8_findWanted 66 = .ok (.aload_n 0, 1) := by decide +kernel
theorem dX8_findWanted_67 : decode cX8_findWanted 67 = .ok (.aload_n 0, 1) := by decide +kernel
theorem dX8_findWanted_68 : decode cX8_findWanted 68 = .ok (.getfield 47, 3) := by decide +kernel
theorem dX8_findWanted_71 : decode cX8_findWanted 71 = .ok (.iload_n 1, 1) := by decide +kernel
theorem dX8_findWanted_72 : decode cX8_findWanted 72 = .ok (.iaload, 1) := by decide +kernel
theorem dX8_findWanted_73 : decode cX8_findWanted 73 = .ok (.invokevirtual 250, 3) := by decide +kernel
theorem dX8_findWanted_76 : decode cX8_findWanted 76 = .ok (.istore_n 3, 1) := by decide +kernel
theorem dX8_findWanted_77 : decode cX8_findWanted 77 = .ok (.aload_n 0, 1) := by decide +kernel
theorem dX8_findWanted_78 : decode cX8_findWanted 78 = .ok (.getfield 59, 3) := by decide +kernel
theorem dX8_findWanted_81 : decode cX8_findWanted 81 = .ok (.bipush 11, 2) := by decide +kernel
theorem dX8_findWanted_83 : decode cX8_findWanted 83 = .ok (.iload_n 2, 1) := by decide +kernel
theorem dX8_findWanted_84 : decode cX8_findWanted 84 = .ok (.imul, 1) := by decide +kernel
theorem dX8_findWanted_85 : decode cX8_findWanted 85 = .ok (.iload_n 3, 1) := by decide +kernel
theorem dX8_findWanted_86 : decode cX8_findWanted 86 = .ok (.iadd, 1) := by decide +kernel
theorem dX8_findWanted_87 : decode cX8_findWanted 87 = .ok (.dup2, 1) := by decide +kernel
theorem dX8_findWanted_88 : decode cX8_findWanted 88 = .ok (.iaload, 1) := by decide +kernel
theorem dX8_findWanted_89 : decode cX8_findWanted 89 = .ok (.iconst 1, 1) := by decide +kernel
theorem dX8_findWanted_90 : decode cX8_findWanted 90 = .ok (.iadd, 1) := by decide +kernel
theorem dX8_findWanted_91 : decode cX8_findWanted 91 = .ok (.iastore, 1) := by decide +kernel
theorem dX8_findWanted_92 : decode cX8_findWanted 92 = .ok (.iinc 1 1, 3) := by decide +kernel
theorem dX8_findWanted_95 : decode cX8_findWanted 95 = .ok (.goto (-69), 3) := by decide +kernel
theorem dX8_findWanted_98 : decode cX8_findWanted 98 = .ok (.return_, 1) := by decide +kernel
theorem dX8_shownBy_0 : decode cX8_shownBy 0 = .ok (.iconst 0, 1) := by decide +kernel
theorem dX8_shownBy_1 : decode cX8_shownBy 1 = .ok (.istore_n 3, 1) := by decide +kernel
theorem dX8_shownBy_2 : decode cX8_shownBy 2 = .ok (.iconst 0, 1) := by decide +kernel
theorem dX8_shownBy_3 : decode cX8_shownBy 3 = .ok (.istore 4, 2) := by decide +kernel
theorem dX8_shownBy_5 : decode cX8_shownBy 5 = .ok (.iload 4, 2) := by decide +kernel
theorem dX8_shownBy_7 : decode cX8_shownBy 7 = .ok (.bipush 110, 2) := by decide +kernel
theorem dX8_shownBy_9 : decode cX8_shownBy 9 = .ok (.if_icmp .ge 103, 3) := by decide +kernel
theorem dX8_shownBy_12 : decode cX8_shownBy 12 = .ok (.iload 4, 2) := by decide +kernel
theorem dX8_shownBy_14 : decode cX8_shownBy 14 = .ok (.bipush 11, 2) := by decide +kernel
theorem dX8_shownBy_16 : decode cX8_shownBy 16 = .ok (.idiv, 1) := by decide +kernel
theorem dX8_shownBy_17 : decode cX8_shownBy 17 = .ok (.istore 5, 2) := by decide +kernel
theorem dX8_shownBy_19 : decode cX8_shownBy 19 = .ok (.iload 4, 2) := by decide +kernel
theorem dX8_shownBy_21 : decode cX8_shownBy 21 = .ok (.bipush 11, 2) := by decide +kernel
theorem dX8_shownBy_23 : decode cX8_shownBy 23 = .ok (.irem, 1) := by decide +kernel
theorem dX8_shownBy_24 : decode cX8_shownBy 24 = .ok (.istore 6, 2) := by decide +kernel
theorem dX8_shownBy_26 : decode cX8_shownBy 26 = .ok (.iload 6, 2) := by decide +kernel
theorem dX8_shownBy_28 : decode cX8_shownBy 28 = .ok (.bipush 10, 2) := by decide +kernel
theorem dX8_shownBy_30 : decode cX8_shownBy 30 = .ok (.if_icmp .ne 14, 3) := by decide +kernel
theorem dX8_shownBy_33 : decode cX8_shownBy 33 = .ok (.iload_n 1, 1) := by decide +kernel
theorem dX8_shownBy_34 : decode cX8_shownBy 34 = .ok (.iload_n 2, 1) := by decide +kernel
theorem dX8_shownBy_35 : decode cX8_shownBy 35 = .ok (.ior, 1) := by decide +kernel
theorem dX8_shownBy_36 : decode cX8_shownBy 36 = .ok (.iload 5, 2) := by decide +kernel
theorem dX8_shownBy_38 : decode cX8_shownBy 38 = .ok (.invokestatic 97, 3) := by decide +kernel
theorem dX8_shownBy_41 : decode cX8_shownBy 41 = .ok (.goto 44, 3) := by decide +kernel
theorem dX8_shownBy_44 : decode cX8_shownBy 44 = .ok (.iload_n 1, 1) := by decide +kernel
theorem dX8_shownBy_45 : decode cX8_shownBy 45 = .ok (.iload 5, 2) := by decide +kernel
theorem dX8_shownBy_47 : decode cX8_shownBy 47 = .ok (.invokestatic 97, 3) := by decide +kernel
theorem dX8_shownBy_50 : decode cX8_shownBy 50 = .ok (.ifCond .eq 12, 3) := by decide +kernel
theorem dX8_shownBy_53 : decode cX8_shownBy 53 = .ok (.iload_n 2, 1) := by decide +kernel
theorem dX8_shownBy_54 : decode cX8_shownBy 54 = .ok (.iload 6, 2) := by decide +kernel
theorem dX8_shownBy_56 : decode cX8_shownBy 56 = .ok (.invokestatic 97, 3) := by decide +kernel
theorem dX8_shownBy_59 : decode cX8_shownBy 59 = .ok (.ifCond .ne 21, 3) := by decide +kernel
theorem dX8_shownBy_62 : decode cX8_shownBy 62 = .ok (.iload_n 2, 1) := by decide +kernel
theorem dX8_shownBy_63 : decode cX8_shownBy 63 = .ok (.iload 5, 2) := by decide +kernel
theorem dX8_shownBy_65 : decode cX8_shownBy 65 = .ok (.invokestatic 97, 3) := by decide +kernel
theorem dX8_shownBy_68 : decode cX8_shownBy 68 = .ok (.ifCond .eq 16, 3) := by decide +kernel
theorem dX8_shownBy_71 : decode cX8_shownBy 71 = .ok (.iload_n 1, 1) := by decide +kernel
theorem dX8_shownBy_72 : decode cX8_shownBy 72 = .ok (.iload 6, 2) := by decide +kernel
theorem dX8_shownBy_74 : decode cX8_shownBy 74 = .ok (.invokestatic 97, 3) := by decide +kernel
theorem dX8_shownBy_77 : decode cX8_shownBy 77 = .ok (.ifCond .eq 7, 3) := by decide +kernel
theorem dX8_shownBy_80 : decode cX8_shownBy 80 = .ok (.iconst 1, 1) := by decide +kernel
theorem dX8_shownBy_81 : decode cX8_shownBy 81 = .ok (.goto 4, 3) := by decide +kernel
theorem dX8_shownBy_84 : decode cX8_shownBy 84 = .ok (.iconst 0, 1) := by decide +kernel
theorem dX8_shownBy_85 : decode cX8_shownBy 85 = .ok (.istore 7, 2) := by decide +kernel
theorem dX8_shownBy_87 : decode cX8_shownBy 87 = .ok (.iload_n 3, 1) := by decide +kernel
theorem dX8_shownBy_88 : decode cX8_shownBy 88 = .ok (.iload 7, 2) := by decide +kernel
theorem dX8_shownBy_90 : decode cX8_shownBy 90 = .ok (.ifCond .eq 13, 3) := by decide +kernel
theorem dX8_shownBy_93 : decode cX8_shownBy 93 = .ok (.aload_n 0, 1) := by decide +kernel
theorem dX8_shownBy_94 : decode cX8_shownBy 94 = .ok (.getfield 59, 3) := by decide +kernel
theorem dX8_shownBy_97 : decode cX8_shownBy 97 = .ok (.iload 4, 2) := by decide +kernel
theorem dX8_shownBy_99 : decode cX8_shownBy 99 = .ok (.iaload, 1) := by decide +kernel
theorem dX8_shownBy_100 : decode cX8_shownBy 100 = .ok (.goto 4, 3) := by decide +kernel
theorem dX8_shownBy_103 : decode cX8_shownBy 103 = .ok (.iconst 0, 1) := by decide +kernel
theorem dX8_shownBy_104 : decode cX8_shownBy 104 = .ok (.iadd, 1) := by decide +kernel
theorem dX8_shownBy_105 : decode cX8_shownBy 105 = .ok (.istore_n 3, 1) := by decide +kernel
theorem dX8_shownBy_106 : decode cX8_shownBy 106 = .ok (.iinc 4 1, 3) := by decide +kernel
theorem dX8_shownBy_109 : decode cX8_shownBy 109 = .ok (.goto (-104), 3) := by decide +kernel
theorem dX8_shownBy_112 : decode cX8_shownBy 112 = .ok (.iload_n 3, 1) := by decide +kernel
theorem dX8_shownBy_113 : decode cX8_shownBy 113 = .ok (.ireturn, 1) := by decide +kernel
theorem dX8_allDays_0 : decode cX8_allDays 0 = .ok (.aload_n 0, 1) := by decide +kernel
theorem dX8_allDays_1 : decode cX8_allDays 1 = .ok (.getfield 103, 3) := by decide +kernel
theorem dX8_allDays_4 : decode cX8_allDays 4 = .ok (.ifCond .eq 17, 3) := by decide +kernel
theorem dX8_allDays_7 : decode cX8_allDays 7 = .ok (.aload_n 0, 1) := by decide +kernel
theorem dX8_allDays_8 : decode cX8_allDays 8 = .ok (.getfield 110, 3) := by decide +kernel
theorem dX8_allDays_11 : decode cX8_allDays 11 = .ok (.aload_n 0, 1) := by decide +kernel
theorem dX8_allDays_12 : decode cX8_allDays 12 = .ok (.getfield 107, 3) := by decide +kernel
theorem dX8_allDays_15 : decode cX8_allDays 15 = .ok (.isub, 1) := by decide +kernel
theorem dX8_allDays_16 : decode cX8_allDays 16 = .ok (.iconst 1, 1) := by decide +kernel
theorem dX8_allDays_17 : decode cX8_allDays 17 = .ok (.iadd, 1) := by decide +kernel
theorem dX8_allDays_18 : decode cX8_allDays 18 = .ok (.goto 4, 3) := by decide +kernel
theorem dX8_allDays_21 : decode cX8_allDays 21 = .ok (.iconst 0, 1) := by decide +kernel
theorem dX8_allDays_22 : decode cX8_allDays 22 = .ok (.ireturn, 1) := by decide +kernel
theorem dX8_findPairs_0 : decode cX8_findPairs 0 = .ok (.aload_n 0, 1) := by decide +kernel
theorem dX8_findPairs_1 : decode cX8_findPairs 1 = .ok (.iload_n 1, 1) := by decide +kernel
theorem dX8_findPairs_2 : decode cX8_findPairs 2 = .ok (.invokevirtual 262, 3) := by decide +kernel
theorem dX8_findPairs_5 : decode cX8_findPairs 5 = .ok (.aload_n 0, 1) := by decide +kernel
theorem dX8_findPairs_6 : decode cX8_findPairs 6 = .ok (.invokevirtual 266, 3) := by decide +kernel
theorem dX8_findPairs_9 : decode cX8_findPairs 9 = .ok (.aload_n 0, 1) := by decide +kernel
theorem dX8_findPairs_10 : decode cX8_findPairs 10 = .ok (.iconst 0, 1) := by decide +kernel
theorem dX8_findPairs_11 : decode cX8_findPairs 11 = .ok (.putfield 269, 3) := by decide +kernel
theorem dX8_findPairs_14 : decode cX8_findPairs 14 = .ok (.aload_n 0, 1) := by decide +kernel
theorem dX8_findPairs_15 : decode cX8_findPairs 15 = .ok (.iconst (-1), 1) := by decide +kernel
theorem dX8_findPairs_16 : decode cX8_findPairs 16 = .ok (.putfield 272, 3) := by decide +kernel
theorem dX8_findPairs_19 : decode cX8_findPairs 19 = .ok (.aload_n 0, 1) := by decide +kernel
theorem dX8_findPairs_20 : decode cX8_findPairs 20 = .ok (.iconst 0, 1) := by decide +kernel
theorem dX8_findPairs_21 : decode cX8_findPairs 21 = .ok (.putfield 275, 3) := by decide +kernel
theorem dX8_findPairs_24 : decode cX8_findPairs 24 = .ok (.iconst 0, 1) := by decide +kernel
theorem dX8_findPairs_25 : decode cX8_findPairs 25 = .ok (.istore_n 2, 1) := by decide +kernel
theorem dX8_findPairs_26 : decode cX8_findPairs 26 = .ok (.iload_n 2, 1) := by decide +kernel
theorem dX8_findPairs_27 : decode cX8_findPairs 27 = .ok (.aload_n 0, 1) := by decide +kernel
theorem dX8_findPairs_28 : decode cX8_findPairs 28 = .ok (.getfield 259, 3) := by decide +kernel
theorem dX8_findPairs_31 : decode cX8_findPairs 31 = .ok (.if_icmp .ge 140, 3) := by decide +kernel
theorem dX8_findPairs_34 : decode cX8_findPairs 34 = .ok (.iload_n 2, 1) := by decide +kernel
theorem dX8_findPairs_35 : decode cX8_findPairs 35 = .ok (.istore_n 3, 1) := by decide +kernel
theorem dX8_findPairs_36 : decode cX8_findPairs 36 = .ok (.iload_n 3, 1) := by decide +kernel
theorem dX8_findPairs_37 : decode cX8_findPairs 37 = .ok (.aload_n 0, 1) := by decide +kernel
theorem dX8_findPairs_38 : decode cX8_findPairs 38 = .ok (.getfield 259, 3) := by decide +kernel
theorem dX8_findPairs_41 : decode cX8_findPairs 41 = .ok (.if_icmp .ge 124, 3) := by decide +kernel
theorem dX8_findPairs_44 : decode cX8_findPairs 44 = .ok (.aload_n 0, 1) := by decide +kernel
theorem dX8_findPairs_45 : decode cX8_findPairs 45 = .ok (.aload_n 0, 1) := by decide +kernel
theorem dX8_findPairs_46 : decode cX8_findPairs 46 = .ok (.getfield 56, 3) := by decide +kernel
theorem dX8_findPairs_49 : decode cX8_findPairs 49 = .ok (.iload_n 2, 1) := by decide +kernel
theorem dX8_findPairs_50 : decode cX8_findPairs 50 = .ok (.iaload, 1) := by decide +kernel
theorem dX8_findPairs_51 : decode cX8_findPairs 51 = .ok (.aload_n 0, 1) := by decide +kernel
theorem dX8_findPairs_52 : decode cX8_findPairs 52 = .ok (.getfield 56, 3) := by decide +kernel
theorem dX8_findPairs_55 : decode cX8_findPairs 55 = .ok (.iload_n 3, 1) := by decide +kernel
theorem dX8_findPairs_56 : decode cX8_findPairs 56 = .ok (.iaload, 1) := by decide +kernel
theorem dX8_findPairs_57 : decode cX8_findPairs 57 = .ok (.invokevirtual 278, 3) := by decide +kernel
theorem dX8_findPairs_60 : decode cX8_findPairs 60 = .ok (.istore 4, 2) := by decide +kernel
theorem dX8_findPairs_62 : decode cX8_findPairs 62 = .ok (.iload 4, 2) := by decide +kernel
theorem dX8_findPairs_64 : decode cX8_findPairs 64 = .ok (.aload_n 0, 1) := by decide +kernel
theorem dX8_findPairs_65 : decode cX8_findPairs 65 = .ok (.invokevirtual 281, 3) := by decide +kernel
theorem dX8_findPairs_68 : decode cX8_findPairs 68 = .ok (.if_icmp .ne 7, 3) := by decide +kernel
theorem dX8_findPairs_71 : decode cX8_findPairs 71 = .ok (.iconst 1, 1) := by decide +kernel
theorem dX8_findPairs_72 : decode cX8_findPairs 72 = .ok (.goto 4, 3) := by decide +kernel
theorem dX8_findPairs_75 : decode cX8_findPairs 75 = .ok (.iconst 0, 1) := by decide +kernel
theorem dX8_findPairs_76 : decode cX8_findPairs 76 = .ok (.istore 5, 2) := by decide +kernel
theorem dX8_findPairs_78 : decode cX8_findPairs 78 = .ok (.aload_n 0, 1) := by decide +kernel
theorem dX8_findPairs_79 : decode cX8_findPairs 79 = .ok (.iload 5, 2) := by decide +kernel
theorem dX8_findPairs_81 : decode cX8_findPairs 81 = .ok (.ifCond .eq 30, 3) := by decide +kernel
theorem dX8_findPairs_84 : decode cX8_findPairs 84 = .ok (.aload_n 0, 1) := by decide +kernel
theorem dX8_findPairs_85 : decode cX8_findPairs 85 = .ok (.getfield 269, 3) := by decide +kernel
theorem dX8_findPairs_88 : decode cX8_findPairs 88 = .ok (.ifCond .ne 23, 3) := by decide +kernel
theorem dX8_findPairs_91 : decode cX8_findPairs 91 = .ok (.sipush 1024, 3) := by decide +kernel
theorem dX8_findPairs_94 : decode cX8_findPairs 94 = .ok (.aload_n 0, 1) := by decide +kernel
theorem dX8_findPairs_95 : decode cX8_findPairs 95 = .ok (.getfield 56, 3) := by decide +kernel
theorem dX8_findPairs_98 : decode cX8_findPairs 98 = .ok (.iload_n 2, 1) := by decide +kernel
theorem dX8_findPairs_99 : decode cX8_findPairs 99 = .ok (.iaload, 1) := by decide +kernel
theorem dX8_findPairs_100 : decode cX8_findPairs 100 = .ok (.imul, 1) := by decide +kernel
theorem dX8_findPairs_101 : decode cX8_findPairs 101 = .ok (.aload_n 0, 1) := by decide +kernel
theorem dX8_findPairs_102 : decode cX8_findPairs 102 = .ok (.getfield 56, 3) := by decide +kernel
theorem dX8_findPairs_105 : decode cX8_findPairs 105 = .ok (.iload_n 3, 1) := by decide +kernel
theorem dX8_findPairs_106 : decode cX8_findPairs 106 = .ok (.iaload, 1) := by decide +kernel
theorem dX8_findPairs_107 : decode cX8_findPairs 107 = .ok (.iadd, 1) := by decide +kernel
theorem dX8_findPairs_108 : decode cX8_findPairs 108 = .ok (.goto 7, 3) := by decide +kernel
theorem dX8_findPairs_111 : decode cX8_findPairs 111 = .ok (.aload_n 0, 1) := by decide +kernel
theorem dX8_findPairs_112 : decode cX8_findPairs 112 = .ok (.getfield 272, 3) := by decide +kernel
theorem dX8_findPairs_115 : decode cX8_findPairs 115 = .ok (.putfield 272, 3) := by decide +kernel
theorem dX8_findPairs_118 : decode cX8_findPairs 118 = .ok (.aload_n 0, 1) := by decide +kernel
theorem dX8_findPairs_119 : decode cX8_findPairs 119 = .ok (.dup, 1) := by decide +kernel
theorem dX8_findPairs_120 : decode cX8_findPairs 120 = .ok (.getfield 269, 3) := by decide +kernel
theorem dX8_findPairs_123 : decode cX8_findPairs 123 = .ok (.iload 5, 2) := by decide +kernel
theorem dX8_findPairs_125 : decode cX8_findPairs 125 = .ok (.ifCond .eq 7, 3) := by decide +kernel
theorem dX8_findPairs_128 : decode cX8_findPairs 128 = .ok (.iconst 1, 1) := by decide +kernel
theorem dX8_findPairs_129 : decode cX8_findPairs 129 = .ok (.goto 4, 3) := by decide +kernel
theorem dX8_findPairs_132 : decode cX8_findPairs 132 = .ok (.iconst 0, 1) := by decide +kernel
theorem dX8_findPairs_133 : decode cX8_findPairs 133 = .ok (.iadd, 1) := by decide +kernel
theorem dX8_findPairs_134 : decode cX8_findPairs 134 = .ok (.putfield 269, 3) := by decide +kernel
theorem dX8_findPairs_137 : decode cX8_findPairs 137 = .ok (.aload_n 0, 1) := by decide +kernel
theorem dX8_findPairs_138 : decode cX8_findPairs 138 = .ok (.iload 4, 2) := by decide +kernel
theorem dX8_findPairs_140 : decode cX8_findPairs 140 = .ok (.aload_n 0, 1) := by decide +kernel
theorem dX8_findPairs_141 : decode cX8_findPairs 141 = .ok (.getfield 275, 3) := by decide +kernel
theorem dX8_findPairs_144 : decode cX8_findPairs 144 = .ok (.if_icmp .le 8, 3) := by decide +kernel
theorem dX8_findPairs_147 : decode cX8_findPairs 147 = .ok (.iload 4, 2) := by decide +kernel
theorem dX8_findPairs_149 : decode cX8_findPairs 149 = .ok (.goto 7, 3) := by decide +kernel
theorem dX8_findPairs_152 : decode cX8_findPairs 152 = .ok (.aload_n 0, 1) := by decide +kernel
theorem dX8_findPairs_153 : decode cX8_findPairs 153 = .ok (.getfield 275, 3) := by decide +kernel
theorem dX8_findPairs_156 : decode cX8_findPairs 156 = .ok (.putfield 275, 3) := by decide +kernel
theorem dX8_findPairs_159 : decode cX8_findPairs 159 = .ok (.iinc 3 1, 3) := by decide +kernel
theorem dX8_findPairs_162 : decode cX8_findPairs 162 = .ok (.goto (-126), 3) := by decide +kernel
theorem dX8_findPairs_165 : decode cX8_findPairs 165 = .ok (.iinc 2 1, 3) := by decide +kernel
theorem dX8_findPairs_168 : decode cX8_findPairs 168 = .ok (.goto (-142), 3) := by decide +kernel
theorem dX8_findPairs_171 : decode cX8_findPairs 171 = .ok (.return_, 1) := by decide +kernel
theorem dX8_search_0 : decode cX8_search 0 = .ok (.iload_n 1, 1) := by decide +kernel
theorem dX8_search_1 : decode cX8_search 1 = .ok (.i2l, 1) := by decide +kernel
theorem dX8_search_2 : decode cX8_search 2 = .ok (.lconst 1, 1) := by decide +kernel
theorem dX8_search_3 : decode cX8_search 3 = .ok (.ldc2_w 284, 3) := by decide +kernel
theorem dX8_search_6 : decode cX8_search 6 = .ok (.invokestatic 93, 3) := by decide +kernel
theorem dX8_search_9 : decode cX8_search 9 = .ok (.ifCond .eq 13, 3) := by decide +kernel
theorem dX8_search_12 : decode cX8_search 12 = .ok (.iload_n 2, 1) := by decide +kernel
theorem dX8_search_13 : decode cX8_search 13 = .ok (.i2l, 1) := by decide +kernel
theorem dX8_search_14 : decode cX8_search 14 = .ok (.lconst 0, 1) := by decide +kernel
theorem dX8_search_15 : decode cX8_search 15 = .ok (.lconst 1, 1) := by decide +kernel
theorem dX8_search_16 : decode cX8_search 16 = .ok (.invokestatic 93, 3) := by decide +kernel
theorem dX8_search_19 : decode cX8_search 19 = .ok (.ifCond .ne 6, 3) := by decide +kernel
theorem dX8_search_22 : decode cX8_search 22 = .ok (.ldc 115, 2) := by decide +kernel
theorem dX8_search_24 : decode cX8_search 24 = .ok (.ireturn, 1) := by decide +kernel
theorem dX8_search_25 : decode cX8_search 25 = .ok (.aload_n 0, 1) := by decide +kernel
theorem dX8_search_26 : decode cX8_search 26 = .ok (.iload_n 1, 1) := by decide +kernel
theorem dX8_search_27 : decode cX8_search 27 = .ok (.invokevirtual 286, 3) := by decide +kernel
theorem dX8_search_30 : decode cX8_search 30 = .ok (.iload_n 2, 1) := by decide +kernel
theorem dX8_search_31 : decode cX8_search 31 = .ok (.ifCond .ne 10, 3) := by decide +kernel
theorem dX8_search_34 : decode cX8_search 34 = .ok (.aload_n 0, 1) := by decide +kernel
theorem dX8_search_35 : decode cX8_search 35 = .ok (.getfield 269, 3) := by decide +kernel
theorem dX8_search_38 : decode cX8_search 38 = .ok (.goto 7, 3) := by decide +kernel
theorem dX8_search_41 : decode cX8_search 41 = .ok (.aload_n 0, 1) := by decide +kernel
theorem dX8_search_42 : decode cX8_search 42 = .ok (.getfield 272, 3) := by decide +kernel
theorem dX8_search_45 : decode cX8_search 45 = .ok (.ireturn, 1) := by decide +kernel
theorem dX8_most_0 : decode cX8_most 0 = .ok (.iload_n 1, 1) := by decide +kernel
theorem dX8_most_1 : decode cX8_most 1 = .ok (.i2l, 1) := by decide +kernel
theorem dX8_most_2 : decode cX8_most 2 = .ok (.lconst 1, 1) := by decide +kernel
theorem dX8_most_3 : decode cX8_most 3 = .ok (.ldc2_w 284, 3) := by decide +kernel
theorem dX8_most_6 : decode cX8_most 6 = .ok (.invokestatic 93, 3) := by decide +kernel
theorem dX8_most_9 : decode cX8_most 9 = .ok (.ifCond .ne 6, 3) := by decide +kernel
theorem dX8_most_12 : decode cX8_most 12 = .ok (.ldc 115, 2) := by decide +kernel
theorem dX8_most_14 : decode cX8_most 14 = .ok (.ireturn, 1) := by decide +kernel
theorem dX8_most_15 : decode cX8_most 15 = .ok (.aload_n 0, 1) := by decide +kernel
theorem dX8_most_16 : decode cX8_most 16 = .ok (.iload_n 1, 1) := by decide +kernel
theorem dX8_most_17 : decode cX8_most 17 = .ok (.invokevirtual 286, 3) := by decide +kernel
theorem dX8_most_20 : decode cX8_most 20 = .ok (.aload_n 0, 1) := by decide +kernel
theorem dX8_most_21 : decode cX8_most 21 = .ok (.getfield 275, 3) := by decide +kernel
theorem dX8_most_24 : decode cX8_most 24 = .ok (.ireturn, 1) := by decide +kernel
theorem dX8_daysBy_0 : decode cX8_daysBy 0 = .ok (.aload_n 0, 1) := by decide +kernel
theorem dX8_daysBy_1 : decode cX8_daysBy 1 = .ok (.getfield 19, 3) := by decide +kernel
theorem dX8_daysBy_4 : decode cX8_daysBy 4 = .ok (.bipush 6, 2) := by decide +kernel
theorem dX8_daysBy_6 : decode cX8_daysBy 6 = .ok (.iload_n 1, 1) := by decide +kernel
theorem dX8_daysBy_7 : decode cX8_daysBy 7 = .ok (.imul, 1) := by decide +kernel
theorem dX8_daysBy_8 : decode cX8_daysBy 8 = .ok (.iload_n 2, 1) := by decide +kernel
theorem dX8_daysBy_9 : decode cX8_daysBy 9 = .ok (.iadd, 1) := by decide +kernel
theorem dX8_daysBy_10 : decode cX8_daysBy 10 = .ok (.iaload, 1) := by decide +kernel
theorem dX8_daysBy_11 : decode cX8_daysBy 11 = .ok (.istore 4, 2) := by decide +kernel
theorem dX8_daysBy_13 : decode cX8_daysBy 13 = .ok (.aload_n 0, 1) := by decide +kernel
theorem dX8_daysBy_14 : decode cX8_daysBy 14 = .ok (.getfield 19, 3) := by decide +kernel
theorem dX8_daysBy_17 : decode cX8_daysBy 17 = .ok (.bipush 6, 2) := by decide +kernel
theorem dX8_daysBy_19 : decode cX8_daysBy 19 = .ok (.iload_n 1, 1) := by decide +kernel
theorem dX8_daysBy_20 : decode cX8_daysBy 20 = .ok (.imul, 1) := by decide +kernel
theorem dX8_daysBy_21 : decode cX8_daysBy 21 = .ok (.iload_n 2, 1) := by decide +kernel
theorem dX8_daysBy_22 : decode cX8_daysBy 22 = .ok (.iadd, 1) := by decide +kernel
theorem dX8_daysBy_23 : decode cX8_daysBy 23 = .ok (.iload_n 3, 1) := by decide +kernel
theorem dX8_daysBy_24 : decode cX8_daysBy 24 = .ok (.iastore, 1) := by decide +kernel
theorem dX8_daysBy_25 : decode cX8_daysBy 25 = .ok (.aload_n 0, 1) := by decide +kernel
theorem dX8_daysBy_26 : decode cX8_daysBy 26 = .ok (.invokevirtual 220, 3) := by decide +kernel
theorem dX8_daysBy_29 : decode cX8_daysBy 29 = .ok (.istore 5, 2) := by decide +kernel
theorem dX8_daysBy_31 : decode cX8_daysBy 31 = .ok (.aload_n 0, 1) := by decide +kernel
theorem dX8_daysBy_32 : decode cX8_daysBy 32 = .ok (.getfield 19, 3) := by decide +kernel
theorem dX8_daysBy_35 : decode cX8_daysBy 35 = .ok (.bipush 6, 2) := by decide +kernel
theorem dX8_daysBy_37 : decode cX8_daysBy 37 = .ok (.iload_n 1, 1) := by decide +kernel
theorem dX8_daysBy_38 : decode cX8_daysBy 38 = .ok (.imul, 1) := by decide +kernel
theorem dX8_daysBy_39 : decode cX8_daysBy 39 = .ok (.iload_n 2, 1) := by decide +kernel
theorem dX8_daysBy_40 : decode cX8_daysBy 40 = .ok (.iadd, 1) := by decide +kernel
theorem dX8_daysBy_41 : decode cX8_daysBy 41 = .ok (.iload 4, 2) := by decide +kernel
theorem dX8_daysBy_43 : decode cX8_daysBy 43 = .ok (.iastore, 1) := by decide +kernel
theorem dX8_daysBy_44 : decode cX8_daysBy 44 = .ok (.iload 5, 2) := by decide +kernel
theorem dX8_daysBy_46 : decode cX8_daysBy 46 = .ok (.ireturn, 1) := by decide +kernel
theorem dX8_gone_0 : decode cX8_gone 0 = .ok (.aload_n 0, 1) := by decide +kernel
theorem dX8_gone_1 : decode cX8_gone 1 = .ok (.iload_n 1, 1) := by decide +kernel
theorem dX8_gone_2 : decode cX8_gone 2 = .ok (.invokevirtual 193, 3) := by decide +kernel
theorem dX8_gone_5 : decode cX8_gone 5 = .ok (.ifCond .ne 6, 3) := by decide +kernel
theorem dX8_gone_8 : decode cX8_gone 8 = .ok (.ldc 197, 2) := by decide +kernel
theorem dX8_gone_10 : decode cX8_gone 10 = .ok (.ireturn, 1) := by decide +kernel
theorem dX8_gone_11 : decode cX8_gone 11 = .ok (.aload_n 0, 1) := by decide +kernel
theorem dX8_gone_12 : decode cX8_gone 12 = .ok (.iload_n 1, 1) := by decide +kernel
theorem dX8_gone_13 : decode cX8_gone 13 = .ok (.iload_n 2, 1) := by decide +kernel
theorem dX8_gone_14 : decode cX8_gone 14 = .ok (.invokevirtual 198, 3) := by decide +kernel
theorem dX8_gone_17 : decode cX8_gone 17 = .ok (.ifCond .eq 19, 3) := by decide +kernel
theorem dX8_gone_20 : decode cX8_gone 20 = .ok (.aload_n 0, 1) := by decide +kernel
theorem dX8_gone_21 : decode cX8_gone 21 = .ok (.invokevirtual 220, 3) := by decide +kernel
theorem dX8_gone_24 : decode cX8_gone 24 = .ok (.aload_n 0, 1) := by decide +kernel
theorem dX8_gone_25 : decode cX8_gone 25 = .ok (.iload_n 1, 1) := by decide +kernel
theorem dX8_gone_26 : decode cX8_gone 26 = .ok (.iload_n 2, 1) := by decide +kernel
theorem dX8_gone_27 : decode cX8_gone 27 = .ok (.bipush 10, 2) := by decide +kernel
theorem dX8_gone_29 : decode cX8_gone 29 = .ok (.invokevirtual 289, 3) := by decide +kernel
theorem dX8_gone_32 : decode cX8_gone 32 = .ok (.isub, 1) := by decide +kernel
theorem dX8_gone_33 : decode cX8_gone 33 = .ok (.goto 5, 3) := by decide +kernel
theorem dX8_gone_36 : decode cX8_gone 36 = .ok (.ldc 115, 2) := by decide +kernel
theorem dX8_gone_38 : decode cX8_gone 38 = .ok (.ireturn, 1) := by decide +kernel
theorem dX8_worst_0 : decode cX8_worst 0 = .ok (.iconst (-1), 1) := by decide +kernel
theorem dX8_worst_1 : decode cX8_worst 1 = .ok (.istore_n 1, 1) := by decide +kernel
theorem dX8_worst_2 : decode cX8_worst 2 = .ok (.iconst 0, 1) := by decide +kernel
theorem dX8_worst_3 : decode cX8_worst 3 = .ok (.istore_n 2, 1) := by decide +kernel
theorem dX8_worst_4 : decode cX8_worst 4 = .ok (.iconst 0, 1) := by decide +kernel
theorem dX8_worst_5 : decode cX8_worst 5 = .ok (.istore_n 3, 1) := by decide +kernel
theorem dX8_worst_6 : decode cX8_worst 6 = .ok (.iload_n 3, 1) := by decide +kernel
theorem dX8_worst_7 : decode cX8_worst 7 = .ok (.bipush 24, 2) := by decide +kernel
theorem dX8_worst_9 : decode cX8_worst 9 = .ok (.if_icmp .ge 100, 3) := by decide +kernel
theorem dX8_worst_12 : decode cX8_worst 12 = .ok (.iload_n 3, 1) := by decide +kernel
theorem dX8_worst_13 : decode cX8_worst 13 = .ok (.bipush 6, 2) := by decide +kernel
theorem dX8_worst_15 : decode cX8_worst 15 = .ok (.idiv, 1) := by decide +kernel
theorem dX8_worst_16 : decode cX8_worst 16 = .ok (.istore 4, 2) := by decide +kernel
theorem dX8_worst_18 : decode cX8_worst 18 = .ok (.iload_n 3, 1) := by decide +kernel
theorem dX8_worst_19 : decode cX8_worst 19 = .ok (.bipush 6, 2) := by decide +kernel
theorem dX8_worst_21 : decode cX8_worst 21 = .ok (.irem, 1) := by decide +kernel
theorem dX8_worst_22 : decode cX8_worst 22 = .ok (.istore 5, 2) := by decide +kernel
theorem dX8_worst_24 : decode cX8_worst 24 = .ok (.aload_n 0, 1) := by decide +kernel
theorem dX8_worst_25 : decode cX8_worst 25 = .ok (.iload 4, 2) := by decide +kernel
theorem dX8_worst_27 : decode cX8_worst 27 = .ok (.invokevirtual 208, 3) := by decide +kernel
theorem dX8_worst_30 : decode cX8_worst 30 = .ok (.ifCond .eq 73, 3) := by decide +kernel
theorem dX8_worst_33 : decode cX8_worst 33 = .ok (.aload_n 0, 1) := by decide +kernel
theorem dX8_worst_34 : decode cX8_worst 34 = .ok (.iload 4, 2) := by decide +kernel
theorem dX8_worst_36 : decode cX8_worst 36 = .ok (.iload 5, 2) := by decide +kernel
theorem dX8_worst_38 : decode cX8_worst 38 = .ok (.invokevirtual 198, 3) := by decide +kernel
theorem dX8_worst_41 : decode cX8_worst 41 = .ok (.ifCond .eq 62, 3) := by decide +kernel
theorem dX8_worst_44 : decode cX8_worst 44 = .ok (.aload_n 0, 1) := by decide +kernel
theorem dX8_worst_45 : decode cX8_worst 45 = .ok (.iload 4, 2) := by decide +kernel
theorem dX8_worst_47 : decode cX8_worst 47 = .ok (.iload 5, 2) := by decide +kernel
theorem dX8_worst_49 : decode cX8_worst 49 = .ok (.bipush 10, 2) := by decide +kernel
theorem dX8_worst_51 : decode cX8_worst 51 = .ok (.invokevirtual 289, 3) := by decide +kernel
theorem dX8_worst_54 : decode cX8_worst 54 = .ok (.istore 6, 2) := by decide +kernel
theorem dX8_worst_56 : decode cX8_worst 56 = .ok (.iload_n 1, 1) := by decide +kernel
theorem dX8_worst_57 : decode cX8_worst 57 = .ok (.ifCond .lt 9, 3) := by decide +kernel
theorem dX8_worst_60 : decode cX8_worst 60 = .ok (.iload 6, 2) := by decide +kernel
theorem dX8_worst_62 : decode cX8_worst 62 = .ok (.iload_n 2, 1) := by decide +kernel
theorem dX8_worst_63 : decode cX8_worst 63 = .ok (.if_icmp .ge 7, 3) := by decide +kernel
theorem dX8_worst_66 : decode cX8_worst 66 = .ok (.iconst 1, 1) := by decide +kernel
theorem dX8_worst_67 : decode cX8_worst 67 = .ok (.goto 4, 3) := by decide +kernel
theorem dX8_worst_70 : decode cX8_worst 70 = .ok (.iconst 0, 1) := by decide +kernel
theorem dX8_worst_71 : decode cX8_worst 71 = .ok (.istore 7, 2) := by decide +kernel
theorem dX8_worst_73 : decode cX8_worst 73 = .ok (.iload 7, 2) := by decide +kernel
theorem dX8_worst_75 : decode cX8_worst 75 = .ok (.ifCond .eq 14, 3) := by decide +kernel
theorem dX8_worst_78 : decode cX8_worst 78 = .ok (.bipush 10, 2) := by decide +kernel
theorem dX8_worst_80 : decode cX8_worst 80 = .ok (.iload 4, 2) := by decide +kernel
theorem dX8_worst_82 : decode cX8_worst 82 = .ok (.imul, 1) := by decide +kernel
theorem dX8_worst_83 : decode cX8_worst 83 = .ok (.iload 5, 2) := by decide +kernel
theorem dX8_worst_85 : decode cX8_worst 85 = .ok (.iadd, 1) := by decide +kernel
theorem dX8_worst_86 : decode cX8_worst 86 = .ok (.goto 4, 3) := by decide +kernel
theorem dX8_worst_89 : decode cX8_worst 89 = .ok (.iload_n 1, 1) := by decide +kernel
theorem dX8_worst_90 : decode cX8_worst 90 = .ok (.istore_n 1, 1) := by decide +kernel
theorem dX8_worst_91 : decode cX8_worst 91 = .ok (.iload 7, 2) := by decide +kernel
theorem dX8_worst_93 : decode cX8_worst 93 = .ok (.ifCond .eq 8, 3) := by decide +kernel
theorem dX8_worst_96 : decode cX8_worst 96 = .ok (.iload 6, 2) := by decide +kernel
theorem dX8_worst_98 : decode cX8_worst 98 = .ok (.goto 4, 3) := by decide +kernel
theorem dX8_worst_101 : decode cX8_worst 101 = .ok (.iload_n 2, 1) := by decide +kernel
theorem dX8_worst_102 : decode cX8_worst 102 = .ok (.istore_n 2, 1) := by decide +kernel
theorem dX8_worst_103 : decode cX8_worst 103 = .ok (.iinc 3 1, 3) := by decide +kernel
theorem dX8_worst_106 : decode cX8_worst 106 = .ok (.goto (-100), 3) := by decide +kernel
theorem dX8_worst_109 : decode cX8_worst 109 = .ok (.iload_n 1, 1) := by decide +kernel
theorem dX8_worst_110 : decode cX8_worst 110 = .ok (.ireturn, 1) := by decide +kernel
theorem dX8_instead_0 : decode cX8_instead 0 = .ok (.aload_n 0, 1) := by decide +kernel
theorem dX8_instead_1 : decode cX8_instead 1 = .ok (.iload_n 1, 1) := by decide +kernel
theorem dX8_instead_2 : decode cX8_instead 2 = .ok (.invokevirtual 193, 3) := by decide +kernel
theorem dX8_instead_5 : decode cX8_instead 5 = .ok (.ifCond .ne 6, 3) := by decide +kernel
theorem dX8_instead_8 : decode cX8_instead 8 = .ok (.ldc 197, 2) := by decide +kernel
theorem dX8_instead_10 : decode cX8_instead 10 = .ok (.ireturn, 1) := by decide +kernel
theorem dX8_instead_11 : decode cX8_instead 11 = .ok (.aload_n 0, 1) := by decide +kernel
theorem dX8_instead_12 : decode cX8_instead 12 = .ok (.iload_n 1, 1) := by decide +kernel
theorem dX8_instead_13 : decode cX8_instead 13 = .ok (.iload_n 2, 1) := by decide +kernel
theorem dX8_instead_14 : decode cX8_instead 14 = .ok (.invokevirtual 198, 3) := by decide +kernel
theorem dX8_instead_17 : decode cX8_instead 17 = .ok (.ifCond .ne 6, 3) := by decide +kernel
theorem dX8_instead_20 : decode cX8_instead 20 = .ok (.ldc 115, 2) := by decide +kernel
theorem dX8_instead_22 : decode cX8_instead 22 = .ok (.ireturn, 1) := by decide +kernel
theorem dX8_instead_23 : decode cX8_instead 23 = .ok (.iconst 0, 1) := by decide +kernel
theorem dX8_instead_24 : decode cX8_instead 24 = .ok (.istore_n 3, 1) := by decide +kernel
theorem dX8_instead_25 : decode cX8_instead 25 = .ok (.iconst (-1), 1) := by decide +kernel
theorem dX8_instead_26 : decode cX8_instead 26 = .ok (.istore 4, 2) := by decide +kernel
theorem dX8_instead_28 : decode cX8_instead 28 = .ok (.iconst 0, 1) := by decide +kernel
theorem dX8_instead_29 : decode cX8_instead 29 = .ok (.istore 5, 2) := by decide +kernel
theorem dX8_instead_31 : decode cX8_instead 31 = .ok (.iload 5, 2) := by decide +kernel
theorem dX8_instead_33 : decode cX8_instead 33 = .ok (.bipush 10, 2) := by decide +kernel
theorem dX8_instead_35 : decode cX8_instead 35 = .ok (.if_icmp .ge 82, 3) := by decide +kernel
theorem dX8_instead_38 : decode cX8_instead 38 = .ok (.aload_n 0, 1) := by decide +kernel
theorem dX8_instead_39 : decode cX8_instead 39 = .ok (.iload_n 1, 1) := by decide +kernel
theorem dX8_instead_40 : decode cX8_instead 40 = .ok (.iload_n 2, 1) := by decide +kernel
theorem dX8_instead_41 : decode cX8_instead 41 = .ok (.iload 5, 2) := by decide +kernel
theorem dX8_instead_43 : decode cX8_instead 43 = .ok (.invokevirtual 289, 3) := by decide +kernel
theorem dX8_instead_46 : decode cX8_instead 46 = .ok (.istore 6, 2) := by decide +kernel
theorem dX8_instead_48 : decode cX8_instead 48 = .ok (.iload 6, 2) := by decide +kernel
theorem dX8_instead_50 : decode cX8_instead 50 = .ok (.iload 4, 2) := by decide +kernel
theorem dX8_instead_52 : decode cX8_instead 52 = .ok (.if_icmp .gt 26, 3) := by decide +kernel
theorem dX8_instead_55 : decode cX8_instead 55 = .ok (.iload 6, 2) := by decide +kernel
theorem dX8_instead_57 : decode cX8_instead 57 = .ok (.iload 4, 2) := by decide +kernel
theorem dX8_instead_59 : decode cX8_instead 59 = .ok (.if_icmp .ne 23, 3) := by decide +kernel
theorem dX8_instead_62 : decode cX8_instead 62 = .ok (.aload_n 0, 1) := by decide +kernel
theorem dX8_instead_63 : decode cX8_instead 63 = .ok (.getfield 16, 3) := by decide +kernel
theorem dX8_instead_66 : decode cX8_instead 66 = .ok (.iload 5, 2) := by decide +kernel
theorem dX8_instead_68 : decode cX8_instead 68 = .ok (.iaload, 1) := by decide +kernel
theorem dX8_instead_69 : decode cX8_instead 69 = .ok (.aload_n 0, 1) := by decide +kernel
theorem dX8_instead_70 : decode cX8_instead 70 = .ok (.getfield 16, 3) := by decide +kernel
theorem dX8_instead_73 : decode cX8_instead 73 = .ok (.iload_n 3, 1) := by decide +kernel
theorem dX8_instead_74 : decode cX8_instead 74 = .ok (.iaload, 1) := by decide +kernel
theorem dX8_instead_75 : decode cX8_instead 75 = .ok (.if_icmp .ge 7, 3) := by decide +kernel
theorem dX8_instead_78 : decode cX8_instead 78 = .ok (.iconst 1, 1) := by decide +kernel
theorem dX8_instead_79 : decode cX8_instead 79 = .ok (.goto 4, 3) := by decide +kernel
theorem dX8_instead_82 : decode cX8_instead 82 = .ok (.iconst 0, 1) := by decide +kernel
theorem dX8_instead_83 : decode cX8_instead 83 = .ok (.istore 7, 2) := by decide +kernel
theorem dX8_instead_85 : decode cX8_instead 85 = .ok (.iload 7, 2) := by decide +kernel
theorem dX8_instead_87 : decode cX8_instead 87 = .ok (.ifCond .eq 8, 3) := by decide +kernel
theorem dX8_instead_90 : decode cX8_instead 90 = .ok (.iload 5, 2) := by decide +kernel
theorem dX8_instead_92 : decode cX8_instead 92 = .ok (.goto 4, 3) := by decide +kernel
theorem dX8_instead_95 : decode cX8_instead 95 = .ok (.iload_n 3, 1) := by decide +kernel
theorem dX8_instead_96 : decode cX8_instead 96 = .ok (.istore_n 3, 1) := by decide +kernel
theorem dX8_instead_97 : decode cX8_instead 97 = .ok (.iload 7, 2) := by decide +kernel
theorem dX8_instead_99 : decode cX8_instead 99 = .ok (.ifCond .eq 8, 3) := by decide +kernel
theorem dX8_instead_102 : decode cX8_instead 102 = .ok (.iload 6, 2) := by decide +kernel
theorem dX8_instead_104 : decode cX8_instead 104 = .ok (.goto 5, 3) := by decide +kernel
theorem dX8_instead_107 : decode cX8_instead 107 = .ok (.iload 4, 2) := by decide +kernel
theorem dX8_instead_109 : decode cX8_instead 109 = .ok (.istore 4, 2) := by decide +kernel
theorem dX8_instead_111 : decode cX8_instead 111 = .ok (.iinc 5 1, 3) := by decide +kernel
theorem dX8_instead_114 : decode cX8_instead 114 = .ok (.goto (-83), 3) := by decide +kernel
theorem dX8_instead_117 : decode cX8_instead 117 = .ok (.iload_n 3, 1) := by decide +kernel
theorem dX8_instead_118 : decode cX8_instead 118 = .ok (.ireturn, 1) := by decide +kernel
theorem dX8_board_0 : decode cX8_board 0 = .ok (.iload_n 2, 1) := by decide +kernel
theorem dX8_board_1 : decode cX8_board 1 = .ok (.invokestatic 201, 3) := by decide +kernel
theorem dX8_board_4 : decode cX8_board 4 = .ok (.ifCond .ne 6, 3) := by decide +kernel
theorem dX8_board_7 : decode cX8_board 7 = .ok (.ldc 197, 2) := by decide +kernel
theorem dX8_board_9 : decode cX8_board 9 = .ok (.ireturn, 1) := by decide +kernel
theorem dX8_board_10 : decode cX8_board 10 = .ok (.iload_n 1, 1) := by decide +kernel
theorem dX8_board_11 : decode cX8_board 11 = .ok (.i2l, 1) := by decide +kernel
theorem dX8_board_12 : decode cX8_board 12 = .ok (.lconst 1, 1) := by decide +kernel
theorem dX8_board_13 : decode cX8_board 13 = .ok (.ldc2_w 293, 3) := by decide +kernel
theorem dX8_board_16 : decode cX8_board 16 = .ok (.invokestatic 93, 3) := by decide +kernel
theorem dX8_board_19 : decode cX8_board 19 = .ok (.ifCond .ne 6, 3) := by decide +kernel
theorem dX8_board_22 : decode cX8_board 22 = .ok (.ldc 115, 2) := by decide +kernel
theorem dX8_board_24 : decode cX8_board 24 = .ok (.ireturn, 1) := by decide +kernel
theorem dX8_board_25 : decode cX8_board 25 = .ok (.aload_n 0, 1) := by decide +kernel
theorem dX8_board_26 : decode cX8_board 26 = .ok (.iload_n 2, 1) := by decide +kernel
theorem dX8_board_27 : decode cX8_board 27 = .ok (.invokevirtual 250, 3) := by decide +kernel
theorem dX8_board_30 : decode cX8_board 30 = .ok (.iload_n 2, 1) := by decide +kernel
theorem dX8_board_31 : decode cX8_board 31 = .ok (.if_icmp .ne 13, 3) := by decide +kernel
theorem dX8_board_34 : decode cX8_board 34 = .ok (.iload_n 1, 1) := by decide +kernel
theorem dX8_board_35 : decode cX8_board 35 = .ok (.aload_n 0, 1) := by decide +kernel
theorem dX8_board_36 : decode cX8_board 36 = .ok (.iload_n 2, 1) := by decide +kernel
theorem dX8_board_37 : decode cX8_board 37 = .ok (.invokevirtual 253, 3) := by decide +kernel
theorem dX8_board_40 : decode cX8_board 40 = .ok (.imul, 1) := by decide +kernel
theorem dX8_board_41 : decode cX8_board 41 = .ok (.goto 4, 3) := by decide +kernel
theorem dX8_board_44 : decode cX8_board 44 = .ok (.iconst 0, 1) := by decide +kernel
theorem dX8_board_45 : decode cX8_board 45 = .ok (.ireturn, 1) := by decide +kernel
theorem dX8_sums_0 : decode cX8_sums 0 = .ok (.iload_n 1, 1) := by decide +kernel
theorem dX8_sums_1 : decode cX8_sums 1 = .ok (.i2l, 1) := by decide +kernel
theorem dX8_sums_2 : decode cX8_sums 2 = .ok (.lconst 0, 1) := by decide +kernel
theorem dX8_sums_3 : decode cX8_sums 3 = .ok (.ldc2_w 295, 3) := by decide +kernel
theorem dX8_sums_6 : decode cX8_sums 6 = .ok (.invokestatic 93, 3) := by decide +kernel
theorem dX8_sums_9 : decode cX8_sums 9 = .ok (.ifCond .ne 6, 3) := by decide +kernel
theorem dX8_sums_12 : decode cX8_sums 12 = .ok (.ldc 115, 2) := by decide +kernel
theorem dX8_sums_14 : decode cX8_sums 14 = .ok (.ireturn, 1) := by decide +kernel
theorem dX8_sums_15 : decode cX8_sums 15 = .ok (.iconst 0, 1) := by decide +kernel
theorem dX8_sums_16 : decode cX8_sums 16 = .ok (.istore_n 2, 1) := by decide +kernel
theorem dX8_sums_17 : decode cX8_sums 17 = .ok (.iload_n 2, 1) := by decide +kernel
theorem dX8_sums_18 : decode cX8_sums 18 = .ok (.bipush 37, 2) := by decide +kernel
theorem dX8_sums_20 : decode cX8_sums 20 = .ok (.if_icmp .ge 24, 3) := by decide +kernel
theorem dX8_sums_23 : decode cX8_sums 23 = .ok (.aload_n 0, 1) := by decide +kernel
theorem dX8_sums_24 : decode cX8_sums 24 = .ok (.getfield 62, 3) := by decide +kernel
theorem dX8_sums_27 : decode cX8_sums 27 = .ok (.iload_n 2, 1) := by decide +kernel
theorem dX8_sums_28 : decode cX8_sums 28 = .ok (.iload_n 2, 1) := by decide +kernel
theorem dX8_sums_29 : decode cX8_sums 29 = .ok (.ifCond .ne 7, 3) := by decide +kernel
theorem dX8_sums_32 : decode cX8_sums 32 = .ok (.iconst 1, 1) := by decide +kernel
theorem dX8_sums_33 : decode cX8_sums 33 = .ok (.goto 4, 3) := by decide +kernel
theorem dX8_sums_36 : decode cX8_sums 36 = .ok (.iconst 0, 1) := by decide +kernel
theorem dX8_sums_37 : decode cX8_sums 37 = .ok (.iastore, 1) := by decide +kernel
theorem dX8_sums_38 : decode cX8_sums 38 = .ok (.iinc 2 1, 3) := by decide +kernel
theorem dX8_sums_41 : decode cX8_sums 41 = .ok (.goto (-24), 3) := by decide +kernel
theorem dX8_sums_44 : decode cX8_sums 44 = .ok (.iconst 0, 1) := by decide +kernel
theorem dX8_sums_45 : decode cX8_sums 45 = .ok (.istore_n 2, 1) := by decide +kernel
theorem dX8_sums_46 : decode cX8_sums 46 = .ok (.iload_n 2, 1) := by decide +kernel
theorem dX8_sums_47 : decode cX8_sums 47 = .ok (.aload_n 0, 1) := by decide +kernel
theorem dX8_sums_48 : decode cX8_sums 48 = .ok (.getfield 90, 3) := by decide +kernel
theorem dX8_sums_51 : decode cX8_sums 51 = .ok (.if_icmp .ge 139, 3) := by decide +kernel
theorem dX8_sums_54 : decode cX8_sums 54 = .ok (.aload_n 0, 1) := by decide +kernel
theorem dX8_sums_55 : decode cX8_sums 55 = .ok (.iload_n 2, 1) := by decide +kernel
theorem dX8_sums_56 : decode cX8_sums 56 = .ok (.invokevirtual 208, 3) := by decide +kernel
theorem dX8_sums_59 : decode cX8_sums 59 = .ok (.ifCond .eq 125, 3) := by decide +kernel
theorem dX8_sums_62 : decode cX8_sums 62 = .ok (.iconst 0, 1) := by decide +kernel
theorem dX8_sums_63 : decode cX8_sums 63 = .ok (.istore_n 3, 1) := by decide +kernel
theorem dX8_sums_64 : decode cX8_sums 64 = .ok (.iload_n 3, 1) := by decide +kernel
theorem dX8_sums_65 : decode cX8_sums 65 = .ok (.bipush 37, 2) := by decide +kernel
theorem dX8_sums_67 : decode cX8_sums 67 = .ok (.if_icmp .ge 16, 3) := by decide +kernel
theorem dX8_sums_70 : decode cX8_sums 70 = .ok (.aload_n 0, 1) := by decide +kernel
theorem dX8_sums_71 : decode cX8_sums 71 = .ok (.getfield 65, 3) := by decide +kernel
theorem dX8_sums_74 : decode cX8_sums 74 = .ok (.iload_n 3, 1) := by decide +kernel
theorem dX8_sums_75 : decode cX8_sums 75 = .ok (.iconst 0, 1) := by decide +kernel
theorem dX8_sums_76 : decode cX8_sums 76 = .ok (.iastore, 1) := by decide +kernel
theorem dX8_sums_77 : decode cX8_sums 77 = .ok (.iinc 3 1, 3) := by decide +kernel
theorem dX8_sums_80 : decode cX8_sums 80 = .ok (.goto (-16), 3) := by decide +kernel
theorem dX8_sums_83 : decode cX8_sums 83 = .ok (.iconst 0, 1) := by decide +kernel
theorem dX8_sums_84 : decode cX8_sums 84 = .ok (.istore_n 3, 1) := by decide +kernel
theorem dX8_sums_85 : decode cX8_sums 85 = .ok (.iload_n 3, 1) := by decide +kernel
theorem dX8_sums_86 : decode cX8_sums 86 = .ok (.aload_n 0, 1) := by decide +kernel
theorem dX8_sums_87 : decode cX8_sums 87 = .ok (.getfield 7, 3) := by decide +kernel
theorem dX8_sums_90 : decode cX8_sums 90 = .ok (.iload_n 2, 1) := by decide +kernel
theorem dX8_sums_91 : decode cX8_sums 91 = .ok (.iaload, 1) := by decide +kernel
theorem dX8_sums_92 : decode cX8_sums 92 = .ok (.if_icmp .ge 66, 3) := by decide +kernel
theorem dX8_sums_95 : decode cX8_sums 95 = .ok (.iconst 0, 1) := by decide +kernel
theorem dX8_sums_96 : decode cX8_sums 96 = .ok (.istore 4, 2) := by decide +kernel
theorem dX8_sums_98 : decode cX8_sums 98 = .ok (.iload 4, 2) := by decide +kernel
theorem dX8_sums_100 : decode cX8_sums 100 = .ok (.aload_n 0, 1) := by decide +kernel
theorem dX8_sums_101 : decode cX8_sums 101 = .ok (.getfield 19, 3) := by decide +kernel
theorem dX8_sums_104 : decode cX8_sums 104 = .ok (.bipush 6, 2) := by decide +kernel
theorem dX8_sums_106 : decode cX8_sums 106 = .ok (.iload_n 2, 1) := by decide +kernel
theorem dX8_sums_107 : decode cX8_sums 107 = .ok (.imul, 1) := by decide +kernel
theorem dX8_sums_108 : decode cX8_sums 108 = .ok (.iload_n 3, 1) := by decide +kernel
theorem dX8_sums_109 : decode cX8_sums 109 = .ok (.iadd, 1) := by decide +kernel
theorem dX8_sums_110 : decode cX8_sums 110 = .ok (.iaload, 1) := by decide +kernel
theorem dX8_sums_111 : decode cX8_sums 111 = .ok (.iadd, 1) := by decide +kernel
theorem dX8_sums_112 : decode cX8_sums 112 = .ok (.bipush 37, 2) := by decide +kernel
theorem dX8_sums_114 : decode cX8_sums 114 = .ok (.if_icmp .ge 38, 3) := by decide +kernel
theorem dX8_sums_117 : decode cX8_sums 117 = .ok (.aload_n 0, 1) := by decide +kernel
theorem dX8_sums_118 : decode cX8_sums 118 = .ok (.getfield 65, 3) := by decide +kernel
theorem dX8_sums_121 : decode cX8_sums 121 = .ok (.iload 4, 2) := by decide +kernel
theorem dX8_sums_123 : decode cX8_sums 123 = .ok (.aload_n 0, 1) := by decide +kernel
theorem dX8_sums_124 : decode cX8_sums 124 = .ok (.getfield 19, 3) := by decide +kernel
theorem dX8_sums_127 : decode cX8_sums 127 = .ok (.bipush 6, 2) := by decide +kernel
theorem dX8_sums_129 : decode cX8_sums 129 = .ok (.iload_n 2, 1) := by decide +kernel
theorem dX8_sums_130 : decode cX8_sums 130 = .ok (.imul, 1) := by decide +kernel
theorem dX8_sums_131 : decode cX8_sums 131 = .ok (.iload_n 3, 1) := by decide +kernel
theorem dX8_sums_132 : decode cX8_sums 132 = .ok (.iadd, 1) := by decide +kernel
theorem dX8_sums_133 : decode cX8_sums 133 = .ok (.iaload, 1) := by decide +kernel
theorem dX8_sums_134 : decode cX8_sums 134 = .ok (.iadd, 1) := by decide +kernel
theorem dX8_sums_135 : decode cX8_sums 135 = .ok (.dup2, 1) := by decide +kernel
theorem dX8_sums_136 : decode cX8_sums 136 = .ok (.iaload, 1) := by decide +kernel
theorem dX8_sums_137 : decode cX8_sums 137 = .ok (.aload_n 0, 1) := by decide +kernel
theorem dX8_sums_138 : decode cX8_sums 138 = .ok (.getfield 62, 3) := by decide +kernel
theorem dX8_sums_141 : decode cX8_sums 141 = .ok (.iload 4, 2) := by decide +kernel
theorem dX8_sums_143 : decode cX8_sums 143 = .ok (.iaload, 1) := by decide +kernel
theorem dX8_sums_144 : decode cX8_sums 144 = .ok (.iadd, 1) := by decide +kernel
theorem dX8_sums_145 : decode cX8_sums 145 = .ok (.iastore, 1) := by decide +kernel
theorem dX8_sums_146 : decode cX8_sums 146 = .ok (.iinc 4 1, 3) := by decide +kernel
theorem dX8_sums_149 : decode cX8_sums 149 = .ok (.goto (-51), 3) := by decide +kernel
theorem dX8_sums_152 : decode cX8_sums 152 = .ok (.iinc 3 1, 3) := by decide +kernel
theorem dX8_sums_155 : decode cX8_sums 155 = .ok (.goto (-70), 3) := by decide +kernel
theorem dX8_sums_158 : decode cX8_sums 158 = .ok (.iconst 0, 1) := by decide +kernel
theorem dX8_sums_159 : decode cX8_sums 159 = .ok (.istore_n 3, 1) := by decide +kernel
theorem dX8_sums_160 : decode cX8_sums 160 = .ok (.iload_n 3, 1) := by decide +kernel
theorem dX8_sums_161 : decode cX8_sums 161 = .ok (.bipush 37, 2) := by decide +kernel
theorem dX8_sums_163 : decode cX8_sums 163 = .ok (.if_icmp .ge 21, 3) := by decide +kernel
theorem dX8_sums_166 : decode cX8_sums 166 = .ok (.aload_n 0, 1) := by decide +kernel
theorem dX8_sums_167 : decode cX8_sums 167 = .ok (.getfield 62, 3) := by decide +kernel
theorem dX8_sums_170 : decode cX8_sums 170 = .ok (.iload_n 3, 1) := by decide +kernel
theorem dX8_sums_171 : decode cX8_sums 171 = .ok (.aload_n 0, 1) := by decide +kernel
theorem dX8_sums_172 : decode cX8_sums 172 = .ok (.getfield 65, 3) := by decide +kernel
theorem dX8_sums_175 : decode cX8_sums 175 = .ok (.iload_n 3, 1) := by decide +kernel
theorem dX8_sums_176 : decode cX8_sums 176 = .ok (.iaload, 1) := by decide +kernel
theorem dX8_sums_177 : decode cX8_sums 177 = .ok (.iastore, 1) := by decide +kernel
theorem dX8_sums_178 : decode cX8_sums 178 = .ok (.iinc 3 1, 3) := by decide +kernel
theorem dX8_sums_181 : decode cX8_sums 181 = .ok (.goto (-21), 3) := by decide +kernel
theorem dX8_sums_184 : decode cX8_sums 184 = .ok (.iinc 2 1, 3) := by decide +kernel
theorem dX8_sums_187 : decode cX8_sums 187 = .ok (.goto (-141), 3) := by decide +kernel
theorem dX8_sums_190 : decode cX8_sums 190 = .ok (.aload_n 0, 1) := by decide +kernel
theorem dX8_sums_191 : decode cX8_sums 191 = .ok (.getfield 62, 3) := by decide +kernel
theorem dX8_sums_194 : decode cX8_sums 194 = .ok (.iload_n 1, 1) := by decide +kernel
theorem dX8_sums_195 : decode cX8_sums 195 = .ok (.iaload, 1) := by decide +kernel
theorem dX8_sums_196 : decode cX8_sums 196 = .ok (.ireturn, 1) := by decide +kernel
theorem dX8_price_0 : decode cX8_price 0 = .ok (.iload_n 1, 1) := by decide +kernel
theorem dX8_price_1 : decode cX8_price 1 = .ok (.i2l, 1) := by decide +kernel
theorem dX8_price_2 : decode cX8_price 2 = .ok (.lconst 0, 1) := by decide +kernel
theorem dX8_price_3 : decode cX8_price 3 = .ok (.ldc2_w 297, 3) := by decide +kernel
theorem dX8_price_6 : decode cX8_price 6 = .ok (.invokestatic 93, 3) := by decide +kernel
theorem dX8_price_9 : decode cX8_price 9 = .ok (.ifCond .ne 6, 3) := by decide +kernel
theorem dX8_price_12 : decode cX8_price 12 = .ok (.ldc 197, 2) := by decide +kernel
theorem dX8_price_14 : decode cX8_price 14 = .ok (.ireturn, 1) := by decide +kernel
theorem dX8_price_15 : decode cX8_price 15 = .ok (.iconst 0, 1) := by decide +kernel
theorem dX8_price_16 : decode cX8_price 16 = .ok (.istore_n 2, 1) := by decide +kernel
theorem dX8_price_17 : decode cX8_price 17 = .ok (.iconst 0, 1) := by decide +kernel
theorem dX8_price_18 : decode cX8_price 18 = .ok (.istore_n 3, 1) := by decide +kernel
theorem dX8_price_19 : decode cX8_price 19 = .ok (.iload_n 3, 1) := by decide +kernel
theorem dX8_price_20 : decode cX8_price 20 = .ok (.bipush 10, 2) := by decide +kernel
theorem dX8_price_22 : decode cX8_price 22 = .ok (.if_icmp .ge 30, 3) := by decide +kernel
theorem dX8_price_25 : decode cX8_price 25 = .ok (.iload_n 2, 1) := by decide +kernel
theorem dX8_price_26 : decode cX8_price 26 = .ok (.iload_n 1, 1) := by decide +kernel
theorem dX8_price_27 : decode cX8_price 27 = .ok (.iload_n 3, 1) := by decide +kernel
theorem dX8_price_28 : decode cX8_price 28 = .ok (.invokestatic 97, 3) := by decide +kernel
theorem dX8_price_31 : decode cX8_price 31 = .ok (.ifCond .eq 12, 3) := by decide +kernel
theorem dX8_price_34 : decode cX8_price 34 = .ok (.aload_n 0, 1) := by decide +kernel
theorem dX8_price_35 : decode cX8_price 35 = .ok (.getfield 16, 3) := by decide +kernel
theorem dX8_price_38 : decode cX8_price 38 = .ok (.iload_n 3, 1) := by decide +kernel
theorem dX8_price_39 : decode cX8_price 39 = .ok (.iaload, 1) := by decide +kernel
theorem dX8_price_40 : decode cX8_price 40 = .ok (.goto 4, 3) := by decide +kernel
theorem dX8_price_43 : decode cX8_price 43 = .ok (.iconst 0, 1) := by decide +kernel
theorem dX8_price_44 : decode cX8_price 44 = .ok (.iadd, 1) := by decide +kernel
theorem dX8_price_45 : decode cX8_price 45 = .ok (.istore_n 2, 1) := by decide +kernel
theorem dX8_price_46 : decode cX8_price 46 = .ok (.iinc 3 1, 3) := by decide +kernel
theorem dX8_price_49 : decode cX8_price 49 = .ok (.goto (-30), 3) := by decide +kernel
theorem dX8_price_52 : decode cX8_price 52 = .ok (.iload_n 2, 1) := by decide +kernel
theorem dX8_price_53 : decode cX8_price 53 = .ok (.ireturn, 1) := by decide +kernel
theorem dX8_isShownBy_0 : decode cX8_isShownBy 0 = .ok (.aload_n 0, 1) := by decide +kernel
theorem dX8_isShownBy_1 : decode cX8_isShownBy 1 = .ok (.getfield 19, 3) := by decide +kernel
theorem dX8_isShownBy_4 : decode cX8_isShownBy 4 = .ok (.bipush 6, 2) := by decide +kernel
theorem dX8_isShownBy_6 : decode cX8_isShownBy 6 = .ok (.iload_n 1, 1) := by decide +kernel
theorem dX8_isShownBy_7 : decode cX8_isShownBy 7 = .ok (.imul, 1) := by decide +kernel
theorem dX8_isShownBy_8 : decode cX8_isShownBy 8 = .ok (.iload_n 2, 1) := by decide +kernel
theorem dX8_isShownBy_9 : decode cX8_isShownBy 9 = .ok (.iadd, 1) := by decide +kernel
theorem dX8_isShownBy_10 : decode cX8_isShownBy 10 = .ok (.iaload, 1) := by decide +kernel
theorem dX8_isShownBy_11 : decode cX8_isShownBy 11 = .ok (.istore 5, 2) := by decide +kernel
theorem dX8_isShownBy_13 : decode cX8_isShownBy 13 = .ok (.aload_n 0, 1) := by decide +kernel
theorem dX8_isShownBy_14 : decode cX8_isShownBy 14 = .ok (.getfield 19, 3) := by decide +kernel
theorem dX8_isShownBy_17 : decode cX8_isShownBy 17 = .ok (.bipush 6, 2) := by decide +kernel
theorem dX8_isShownBy_19 : decode cX8_isShownBy 19 = .ok (.iload_n 1, 1) := by decide +kernel
theorem dX8_isShownBy_20 : decode cX8_isShownBy 20 = .ok (.imul, 1) := by decide +kernel
theorem dX8_isShownBy_21 : decode cX8_isShownBy 21 = .ok (.iload_n 2, 1) := by decide +kernel
theorem dX8_isShownBy_22 : decode cX8_isShownBy 22 = .ok (.iadd, 1) := by decide +kernel
theorem dX8_isShownBy_23 : decode cX8_isShownBy 23 = .ok (.iload_n 3, 1) := by decide +kernel
theorem dX8_isShownBy_24 : decode cX8_isShownBy 24 = .ok (.iastore, 1) := by decide +kernel
theorem dX8_isShownBy_25 : decode cX8_isShownBy 25 = .ok (.aload_n 0, 1) := by decide +kernel
theorem dX8_isShownBy_26 : decode cX8_isShownBy 26 = .ok (.invokevirtual 214, 3) := by decide +kernel
theorem dX8_isShownBy_29 : decode cX8_isShownBy 29 = .ok (.aload_n 0, 1) := by decide +kernel
theorem dX8_isShownBy_30 : decode cX8_isShownBy 30 = .ok (.iload 4, 2) := by decide +kernel
theorem dX8_isShownBy_32 : decode cX8_isShownBy 32 = .ok (.invokevirtual 217, 3) := by decide +kernel
theorem dX8_isShownBy_35 : decode cX8_isShownBy 35 = .ok (.ifCond .lt 7, 3) := by decide +kernel
theorem dX8_isShownBy_38 : decode cX8_isShownBy 38 = .ok (.iconst 1, 1) := by decide +kernel
theorem dX8_isShownBy_39 : decode cX8_isShownBy 39 = .ok (.goto 4, 3) := by decide +kernel
theorem dX8_isShownBy_42 : decode cX8_isShownBy 42 = .ok (.iconst 0, 1) := by decide +kernel
theorem dX8_isShownBy_43 : decode cX8_isShownBy 43 = .ok (.istore 6, 2) := by decide +kernel
theorem dX8_isShownBy_45 : decode cX8_isShownBy 45 = .ok (.aload_n 0, 1) := by decide +kernel
theorem dX8_isShownBy_46 : decode cX8_isShownBy 46 = .ok (.getfield 19, 3) := by decide +kernel
theorem dX8_isShownBy_49 : decode cX8_isShownBy 49 = .ok (.bipush 6, 2) := by decide +kernel
theorem dX8_isShownBy_51 : decode cX8_isShownBy 51 = .ok (.iload_n 1, 1) := by decide +kernel
theorem dX8_isShownBy_52 : decode cX8_isShownBy 52 = .ok (.imul, 1) := by decide +kernel
theorem dX8_isShownBy_53 : decode cX8_isShownBy 53 = .ok (.iload_n 2, 1) := by decide +kernel
theorem dX8_isShownBy_54 : decode cX8_isShownBy 54 = .ok (.iadd, 1) := by decide +kernel
theorem dX8_isShownBy_55 : decode cX8_isShownBy 55 = .ok (.iload 5, 2) := by decide +kernel
theorem dX8_isShownBy_57 : decode cX8_isShownBy 57 = .ok (.iastore, 1) := by decide +kernel
theorem dX8_isShownBy_58 : decode cX8_isShownBy 58 = .ok (.iload 6, 2) := by decide +kernel
theorem dX8_isShownBy_60 : decode cX8_isShownBy 60 = .ok (.ireturn, 1) := by decide +kernel
theorem dX8_cheapest_0 : decode cX8_cheapest 0 = .ok (.iload_n 1, 1) := by decide +kernel
theorem dX8_cheapest_1 : decode cX8_cheapest 1 = .ok (.i2l, 1) := by decide +kernel
theorem dX8_cheapest_2 : decode cX8_cheapest 2 = .ok (.lconst 0, 1) := by decide +kernel
theorem dX8_cheapest_3 : decode cX8_cheapest 3 = .ok (.lconst 1, 1) := by decide +kernel
theorem dX8_cheapest_4 : decode cX8_cheapest 4 = .ok (.invokestatic 93, 3) := by decide +kernel
theorem dX8_cheapest_7 : decode cX8_cheapest 7 = .ok (.ifCond .ne 6, 3) := by decide +kernel
theorem dX8_cheapest_10 : decode cX8_cheapest 10 = .ok (.ldc 115, 2) := by decide +kernel
theorem dX8_cheapest_12 : decode cX8_cheapest 12 = .ok (.ireturn, 1) := by decide +kernel
theorem dX8_cheapest_13 : decode cX8_cheapest 13 = .ok (.aload_n 0, 1) := by decide +kernel
theorem dX8_cheapest_14 : decode cX8_cheapest 14 = .ok (.invokevirtual 223, 3) := by decide +kernel
theorem dX8_cheapest_17 : decode cX8_cheapest 17 = .ok (.istore_n 2, 1) := by decide +kernel
theorem dX8_cheapest_18 : decode cX8_cheapest 18 = .ok (.iconst (-1), 1) := by decide +kernel
theorem dX8_cheapest_19 : decode cX8_cheapest 19 = .ok (.istore_n 3, 1) := by decide +kernel
theorem dX8_cheapest_20 : decode cX8_cheapest 20 = .ok (.iconst (-1), 1) := by decide +kernel
theorem dX8_cheapest_21 : decode cX8_cheapest 21 = .ok (.istore 4, 2) := by decide +kernel
theorem dX8_cheapest_23 : decode cX8_cheapest 23 = .ok (.iconst 0, 1) := by decide +kernel
theorem dX8_cheapest_24 : decode cX8_cheapest 24 = .ok (.istore 5, 2) := by decide +kernel
theorem dX8_cheapest_26 : decode cX8_cheapest 26 = .ok (.iload 5, 2) := by decide +kernel
theorem dX8_cheapest_28 : decode cX8_cheapest 28 = .ok (.sipush 240, 3) := by decide +kernel
theorem dX8_cheapest_31 : decode cX8_cheapest 31 = .ok (.if_icmp .ge 116, 3) := by decide +kernel
theorem dX8_cheapest_34 : decode cX8_cheapest 34 = .ok (.iload_n 2, 1) := by decide +kernel
theorem dX8_cheapest_35 : decode cX8_cheapest 35 = .ok (.ifCond .lt 112, 3) := by decide +kernel
theorem dX8_cheapest_38 : decode cX8_cheapest 38 = .ok (.iload 5, 2) := by decide +kernel
theorem dX8_cheapest_40 : decode cX8_cheapest 40 = .ok (.bipush 24, 2) := by decide +kernel
theorem dX8_cheapest_42 : decode cX8_cheapest 42 = .ok (.idiv, 1) := by decide +kernel
theorem dX8_cheapest_43 : decode cX8_cheapest 43 = .ok (.istore 6, 2) := by decide +kernel
theorem dX8_cheapest_45 : decode cX8_cheapest 45 = .ok (.iload 5, 2) := by decide +kernel
theorem dX8_cheapest_47 : decode cX8_cheapest 47 = .ok (.bipush 24, 2) := by decide +kernel
theorem dX8_cheapest_49 : decode cX8_cheapest 49 = .ok (.irem, 1) := by decide +kernel
theorem dX8_cheapest_50 : decode cX8_cheapest 50 = .ok (.bipush 6, 2) := by decide +kernel
theorem dX8_cheapest_52 : decode cX8_cheapest 52 = .ok (.idiv, 1) := by decide +kernel
theorem dX8_cheapest_53 : decode cX8_cheapest 53 = .ok (.istore 7, 2) := by decide +kernel
theorem dX8_cheapest_55 : decode cX8_cheapest 55 = .ok (.iload 5, 2) := by decide +kernel
theorem dX8_cheapest_57 : decode cX8_cheapest 57 = .ok (.bipush 6, 2) := by decide +kernel
theorem dX8_cheapest_59 : decode cX8_cheapest 59 = .ok (.irem, 1) := by decide +kernel
theorem dX8_cheapest_60 : decode cX8_cheapest 60 = .ok (.istore 8, 2) := by decide +kernel
theorem dX8_cheapest_62 : decode cX8_cheapest 62 = .ok (.aload_n 0, 1) := by decide +kernel
theorem dX8_cheapest_63 : decode cX8_cheapest 63 = .ok (.iload 7, 2) := by decide +kernel
theorem dX8_cheapest_65 : decode cX8_cheapest 65 = .ok (.invokevirtual 208, 3) := by decide +kernel
theorem dX8_cheapest_68 : decode cX8_cheapest 68 = .ok (.ifCond .eq 38, 3) := by decide +kernel
theorem dX8_cheapest_71 : decode cX8_cheapest 71 = .ok (.aload_n 0, 1) := by decide +kernel
theorem dX8_cheapest_72 : decode cX8_cheapest 72 = .ok (.iload 7, 2) := by decide +kernel
theorem dX8_cheapest_74 : decode cX8_cheapest 74 = .ok (.iload 8, 2) := by decide +kernel
theorem dX8_cheapest_76 : decode cX8_cheapest 76 = .ok (.invokevirtual 198, 3) := by decide +kernel
theorem dX8_cheapest_79 : decode cX8_cheapest 79 = .ok (.ifCond .eq 27, 3) := by decide +kernel
theorem dX8_cheapest_82 : decode cX8_cheapest 82 = .ok (.iload_n 3, 1) := by decide +kernel
theorem dX8_cheapest_83 : decode cX8_cheapest 83 = .ok (.ifCond .lt 19, 3) := by decide +kernel
theorem dX8_cheapest_86 : decode cX8_cheapest 86 = .ok (.aload_n 0, 1) := by decide +kernel
theorem dX8_cheapest_87 : decode cX8_cheapest 87 = .ok (.getfield 16, 3) := by decide +kernel
theorem dX8_cheapest_90 : decode cX8_cheapest 90 = .ok (.iload 6, 2) := by decide +kernel
theorem dX8_cheapest_92 : decode cX8_cheapest 92 = .ok (.iaload, 1) := by decide +kernel
theorem dX8_cheapest_93 : decode cX8_cheapest 93 = .ok (.aload_n 0, 1) := by decide +kernel
theorem dX8_cheapest_94 : decode cX8_cheapest 94 = .ok (.getfield 16, 3) := by decide +kernel
theorem dX8_cheapest_97 : decode cX8_cheapest 97 = .ok (.iload_n 3, 1) := by decide +kernel
theorem dX8_cheapest_98 : decode cX8_cheapest 98 = .ok (.iaload, 1) := by decide +kernel
theorem dX8_cheapest_99 : decode cX8_cheapest 99 = .ok (.if_icmp .ge 7, 3) := by decide +kernel
theorem dX8_cheapest_102 : decode cX8_cheapest 102 = .ok (.iconst 1, 1) := by decide +kernel
theorem dX8_cheapest_103 : decode cX8_cheapest 103 = .ok (.goto 4, 3) := by decide +kernel
theorem dX8_cheapest_106 : decode cX8_cheapest 106 = .ok (.iconst 0, 1) := by decide +kernel
theorem dX8_cheapest_107 : decode cX8_cheapest 107 = .ok (.istore 9, 2) := by decide +kernel
theorem dX8_cheapest_109 : decode cX8_cheapest 109 = .ok (.iload 9, 2) := by decide +kernel
theorem dX8_cheapest_111 : decode cX8_cheapest 111 = .ok (.ifCond .eq 30, 3) := by decide +kernel
theorem dX8_cheapest_114 : decode cX8_cheapest 114 = .ok (.aload_n 0, 1) := by decide +kernel
theorem dX8_cheapest_115 : decode cX8_cheapest 115 = .ok (.iload 7, 2) := by decide +kernel
theorem dX8_cheapest_117 : decode cX8_cheapest 117 = .ok (.iload 8, 2) := by decide +kernel
