theorem dX5_readDays_65 : decode cX5_readDays 65 = .ok (.iload_n 3, 1) := by decide +kernel
theorem dX5_readDays_66 : decode cX5_readDays 66 = .ok (.putfield 94, 3) := by decide +kernel
theorem dX5_readDays_69 : decode cX5_readDays 69 = .ok (.aload_n 1, 1) := by decide +kernel
theorem dX5_readDays_70 : decode cX5_readDays 70 = .ok (.iload 4, 2) := by decide +kernel
theorem dX5_readDays_72 : decode cX5_readDays 72 = .ok (.iconst 1, 1) := by decide +kernel
theorem dX5_readDays_73 : decode cX5_readDays 73 = .ok (.if_icmp .ne 7, 3) := by decide +kernel
theorem dX5_readDays_76 : decode cX5_readDays 76 = .ok (.iconst 1, 1) := by decide +kernel
theorem dX5_readDays_77 : decode cX5_readDays 77 = .ok (.goto 4, 3) := by decide +kernel
theorem dX5_readDays_80 : decode cX5_readDays 80 = .ok (.iconst 0, 1) := by decide +kernel
theorem dX5_readDays_81 : decode cX5_readDays 81 = .ok (.putfield 97, 3) := by decide +kernel
theorem dX5_readDays_84 : decode cX5_readDays 84 = .ok (.return_, 1) := by decide +kernel
theorem dX5_readCube_0 : decode cX5_readCube 0 = .ok (.aload_n 1, 1) := by decide +kernel
theorem dX5_readCube_1 : decode cX5_readCube 1 = .ok (.getfield 100, 3) := by decide +kernel
theorem dX5_readCube_4 : decode cX5_readCube 4 = .ok (.istore_n 2, 1) := by decide +kernel
theorem dX5_readCube_5 : decode cX5_readCube 5 = .ok (.aload_n 0, 1) := by decide +kernel
theorem dX5_readCube_6 : decode cX5_readCube 6 = .ok (.iload_n 2, 1) := by decide +kernel
theorem dX5_readCube_7 : decode cX5_readCube 7 = .ok (.iconst 4, 1) := by decide +kernel
theorem dX5_readCube_8 : decode cX5_readCube 8 = .ok (.if_icmp .lt 7, 3) := by decide +kernel
theorem dX5_readCube_11 : decode cX5_readCube 11 = .ok (.iconst 1, 1) := by decide +kernel
theorem dX5_readCube_12 : decode cX5_readCube 12 = .ok (.goto 4, 3) := by decide +kernel
theorem dX5_readCube_15 : decode cX5_readCube 15 = .ok (.iconst 0, 1) := by decide +kernel
theorem dX5_readCube_16 : decode cX5_readCube 16 = .ok (.invokevirtual 80, 3) := by decide +kernel
theorem dX5_readCube_19 : decode cX5_readCube 19 = .ok (.iconst 1, 1) := by decide +kernel
theorem dX5_readCube_20 : decode cX5_readCube 20 = .ok (.istore_n 3, 1) := by decide +kernel
theorem dX5_readCube_21 : decode cX5_readCube 21 = .ok (.iconst 0, 1) := by decide +kernel
theorem dX5_readCube_22 : decode cX5_readCube 22 = .ok (.istore 4, 2) := by decide +kernel
theorem dX5_readCube_24 : decode cX5_readCube 24 = .ok (.iload 4, 2) := by decide +kernel
theorem dX5_readCube_26 : decode cX5_readCube 26 = .ok (.bipush 6, 2) := by decide +kernel
theorem dX5_readCube_28 : decode cX5_readCube 28 = .ok (.if_icmp .ge 85, 3) := by decide +kernel
theorem dX5_readCube_31 : decode cX5_readCube 31 = .ok (.iload_n 3, 1) := by decide +kernel
theorem dX5_readCube_32 : decode cX5_readCube 32 = .ok (.ifCond .eq 81, 3) := by decide +kernel
theorem dX5_readCube_35 : decode cX5_readCube 35 = .ok (.aload_n 0, 1) := by decide +kernel
theorem dX5_readCube_36 : decode cX5_readCube 36 = .ok (.getfield 22, 3) := by decide +kernel
theorem dX5_readCube_39 : decode cX5_readCube 39 = .ok (.ifCond .ne 74, 3) := by decide +kernel
theorem dX5_readCube_42 : decode cX5_readCube 42 = .ok (.aload_n 1, 1) := by decide +kernel
theorem dX5_readCube_43 : decode cX5_readCube 43 = .ok (.getfield 103, 3) := by decide +kernel
theorem dX5_readCube_46 : decode cX5_readCube 46 = .ok (.iload_n 2, 1) := by decide +kernel
theorem dX5_readCube_47 : decode cX5_readCube 47 = .ok (.iload 4, 2) := by decide +kernel
theorem dX5_readCube_49 : decode cX5_readCube 49 = .ok (.invokestatic 107, 3) := by decide +kernel
theorem dX5_readCube_52 : decode cX5_readCube 52 = .ok (.aload_n 0, 1) := by decide +kernel
theorem dX5_readCube_53 : decode cX5_readCube 53 = .ok (.bipush 9, 2) := by decide +kernel
theorem dX5_readCube_55 : decode cX5_readCube 55 = .ok (.invokevirtual 84, 3) := by decide +kernel
theorem dX5_readCube_58 : decode cX5_readCube 58 = .ok (.iastore, 1) := by decide +kernel
theorem dX5_readCube_59 : decode cX5_readCube 59 = .ok (.aload_n 1, 1) := by decide +kernel
theorem dX5_readCube_60 : decode cX5_readCube 60 = .ok (.getfield 111, 3) := by decide +kernel
theorem dX5_readCube_63 : decode cX5_readCube 63 = .ok (.iload_n 2, 1) := by decide +kernel
theorem dX5_readCube_64 : decode cX5_readCube 64 = .ok (.iload 4, 2) := by decide +kernel
theorem dX5_readCube_66 : decode cX5_readCube 66 = .ok (.iconst 1, 1) := by decide +kernel
theorem dX5_readCube_67 : decode cX5_readCube 67 = .ok (.iadd, 1) := by decide +kernel
theorem dX5_readCube_68 : decode cX5_readCube 68 = .ok (.iastore, 1) := by decide +kernel
theorem dX5_readCube_69 : decode cX5_readCube 69 = .ok (.iload 4, 2) := by decide +kernel
theorem dX5_readCube_71 : decode cX5_readCube 71 = .ok (.iconst 1, 1) := by decide +kernel
theorem dX5_readCube_72 : decode cX5_readCube 72 = .ok (.iadd, 1) := by decide +kernel
theorem dX5_readCube_73 : decode cX5_readCube 73 = .ok (.bipush 6, 2) := by decide +kernel
theorem dX5_readCube_75 : decode cX5_readCube 75 = .ok (.if_icmp .ge 16, 3) := by decide +kernel
theorem dX5_readCube_78 : decode cX5_readCube 78 = .ok (.aload_n 0, 1) := by decide +kernel
theorem dX5_readCube_79 : decode cX5_readCube 79 = .ok (.bipush 44, 2) := by decide +kernel
theorem dX5_readCube_81 : decode cX5_readCube 81 = .ok (.invokevirtual 56, 3) := by decide +kernel
theorem dX5_readCube_84 : decode cX5_readCube 84 = .ok (.ifCond .eq 7, 3) := by decide +kernel
theorem dX5_readCube_87 : decode cX5_readCube 87 = .ok (.iconst 1, 1) := by decide +kernel
theorem dX5_readCube_88 : decode cX5_readCube 88 = .ok (.goto 4, 3) := by decide +kernel
theorem dX5_readCube_91 : decode cX5_readCube 91 = .ok (.iconst 0, 1) := by decide +kernel
theorem dX5_readCube_92 : decode cX5_readCube 92 = .ok (.istore_n 3, 1) := by decide +kernel
theorem dX5_readCube_93 : decode cX5_readCube 93 = .ok (.iload_n 3, 1) := by decide +kernel
theorem dX5_readCube_94 : decode cX5_readCube 94 = .ok (.ifCond .eq 13, 3) := by decide +kernel
theorem dX5_readCube_97 : decode cX5_readCube 97 = .ok (.aload_n 0, 1) := by decide +kernel
theorem dX5_readCube_98 : decode cX5_readCube 98 = .ok (.dup, 1) := by decide +kernel
theorem dX5_readCube_99 : decode cX5_readCube 99 = .ok (.getfield 25, 3) := by decide +kernel
theorem dX5_readCube_102 : decode cX5_readCube 102 = .ok (.iconst 1, 1) := by decide +kernel
theorem dX5_readCube_103 : decode cX5_readCube 103 = .ok (.iadd, 1) := by decide +kernel
theorem dX5_readCube_104 : decode cX5_readCube 104 = .ok (.putfield 25, 3) := by decide +kernel
theorem dX5_readCube_107 : decode cX5_readCube 107 = .ok (.iinc 4 1, 3) := by decide +kernel
theorem dX5_readCube_110 : decode cX5_readCube 110 = .ok (.goto (-86), 3) := by decide +kernel
theorem dX5_readCube_113 : decode cX5_readCube 113 = .ok (.aload_n 0, 1) := by decide +kernel
theorem dX5_readCube_114 : decode cX5_readCube 114 = .ok (.invokevirtual 88, 3) := by decide +kernel
theorem dX5_readCube_117 : decode cX5_readCube 117 = .ok (.aload_n 0, 1) := by decide +kernel
theorem dX5_readCube_118 : decode cX5_readCube 118 = .ok (.getfield 22, 3) := by decide +kernel
theorem dX5_readCube_121 : decode cX5_readCube 121 = .ok (.ifCond .ne 10, 3) := by decide +kernel
theorem dX5_readCube_124 : decode cX5_readCube 124 = .ok (.aload_n 1, 1) := by decide +kernel
theorem dX5_readCube_125 : decode cX5_readCube 125 = .ok (.iload_n 2, 1) := by decide +kernel
theorem dX5_readCube_126 : decode cX5_readCube 126 = .ok (.iconst 1, 1) := by decide +kernel
theorem dX5_readCube_127 : decode cX5_readCube 127 = .ok (.iadd, 1) := by decide +kernel
theorem dX5_readCube_128 : decode cX5_readCube 128 = .ok (.putfield 100, 3) := by decide +kernel
theorem dX5_readCube_131 : decode cX5_readCube 131 = .ok (.return_, 1) := by decide +kernel
theorem dX5_readTurn_0 : decode cX5_readTurn 0 = .ok (.aload_n 0, 1) := by decide +kernel
theorem dX5_readTurn_1 : decode cX5_readTurn 1 = .ok (.aload_n 0, 1) := by decide +kernel
theorem dX5_readTurn_2 : decode cX5_readTurn 2 = .ok (.getfield 31, 3) := by decide +kernel
theorem dX5_readTurn_5 : decode cX5_readTurn 5 = .ok (.iconst 4, 1) := by decide +kernel
theorem dX5_readTurn_6 : decode cX5_readTurn 6 = .ok (.if_icmp .lt 7, 3) := by decide +kernel
theorem dX5_readTurn_9 : decode cX5_readTurn 9 = .ok (.iconst 1, 1) := by decide +kernel
theorem dX5_readTurn_10 : decode cX5_readTurn 10 = .ok (.goto 4, 3) := by decide +kernel
theorem dX5_readTurn_13 : decode cX5_readTurn 13 = .ok (.iconst 0, 1) := by decide +kernel
theorem dX5_readTurn_14 : decode cX5_readTurn 14 = .ok (.invokevirtual 80, 3) := by decide +kernel
theorem dX5_readTurn_17 : decode cX5_readTurn 17 = .ok (.aload_n 0, 1) := by decide +kernel
theorem dX5_readTurn_18 : decode cX5_readTurn 18 = .ok (.bipush 9, 2) := by decide +kernel
theorem dX5_readTurn_20 : decode cX5_readTurn 20 = .ok (.invokevirtual 84, 3) := by decide +kernel
theorem dX5_readTurn_23 : decode cX5_readTurn 23 = .ok (.istore_n 2, 1) := by decide +kernel
theorem dX5_readTurn_24 : decode cX5_readTurn 24 = .ok (.aload_n 1, 1) := by decide +kernel
theorem dX5_readTurn_25 : decode cX5_readTurn 25 = .ok (.getfield 114, 3) := by decide +kernel
theorem dX5_readTurn_28 : decode cX5_readTurn 28 = .ok (.iload_n 2, 1) := by decide +kernel
theorem dX5_readTurn_29 : decode cX5_readTurn 29 = .ok (.iaload, 1) := by decide +kernel
theorem dX5_readTurn_30 : decode cX5_readTurn 30 = .ok (.iload_n 2, 1) := by decide +kernel
theorem dX5_readTurn_31 : decode cX5_readTurn 31 = .ok (.if_icmp .eq 12, 3) := by decide +kernel
theorem dX5_readTurn_34 : decode cX5_readTurn 34 = .ok (.aload_n 0, 1) := by decide +kernel
theorem dX5_readTurn_35 : decode cX5_readTurn 35 = .ok (.iconst 4, 1) := by decide +kernel
theorem dX5_readTurn_36 : decode cX5_readTurn 36 = .ok (.aload_n 0, 1) := by decide +kernel
theorem dX5_readTurn_37 : decode cX5_readTurn 37 = .ok (.getfield 28, 3) := by decide +kernel
theorem dX5_readTurn_40 : decode cX5_readTurn 40 = .ok (.invokevirtual 67, 3) := by decide +kernel
theorem dX5_readTurn_43 : decode cX5_readTurn 43 = .ok (.aload_n 0, 1) := by decide +kernel
theorem dX5_readTurn_44 : decode cX5_readTurn 44 = .ok (.bipush 9, 2) := by decide +kernel
theorem dX5_readTurn_46 : decode cX5_readTurn 46 = .ok (.invokevirtual 84, 3) := by decide +kernel
theorem dX5_readTurn_49 : decode cX5_readTurn 49 = .ok (.istore_n 3, 1) := by decide +kernel
theorem dX5_readTurn_50 : decode cX5_readTurn 50 = .ok (.iload_n 3, 1) := by decide +kernel
theorem dX5_readTurn_51 : decode cX5_readTurn 51 = .ok (.iload_n 2, 1) := by decide +kernel
theorem dX5_readTurn_52 : decode cX5_readTurn 52 = .ok (.if_icmp .eq 13, 3) := by decide +kernel
theorem dX5_readTurn_55 : decode cX5_readTurn 55 = .ok (.aload_n 1, 1) := by decide +kernel
theorem dX5_readTurn_56 : decode cX5_readTurn 56 = .ok (.getfield 114, 3) := by decide +kernel
theorem dX5_readTurn_59 : decode cX5_readTurn 59 = .ok (.iload_n 3, 1) := by decide +kernel
theorem dX5_readTurn_60 : decode cX5_readTurn 60 = .ok (.iaload, 1) := by decide +kernel
theorem dX5_readTurn_61 : decode cX5_readTurn 61 = .ok (.iload_n 3, 1) := by decide +kernel
theorem dX5_readTurn_62 : decode cX5_readTurn 62 = .ok (.if_icmp .eq 12, 3) := by decide +kernel
theorem dX5_readTurn_65 : decode cX5_readTurn 65 = .ok (.aload_n 0, 1) := by decide +kernel
theorem dX5_readTurn_66 : decode cX5_readTurn 66 = .ok (.iconst 4, 1) := by decide +kernel
theorem dX5_readTurn_67 : decode cX5_readTurn 67 = .ok (.aload_n 0, 1) := by decide +kernel
theorem dX5_readTurn_68 : decode cX5_readTurn 68 = .ok (.getfield 28, 3) := by decide +kernel
theorem dX5_readTurn_71 : decode cX5_readTurn 71 = .ok (.invokevirtual 67, 3) := by decide +kernel
theorem dX5_readTurn_74 : decode cX5_readTurn 74 = .ok (.aload_n 0, 1) := by decide +kernel
theorem dX5_readTurn_75 : decode cX5_readTurn 75 = .ok (.invokevirtual 88, 3) := by decide +kernel
theorem dX5_readTurn_78 : decode cX5_readTurn 78 = .ok (.aload_n 0, 1) := by decide +kernel
theorem dX5_readTurn_79 : decode cX5_readTurn 79 = .ok (.getfield 22, 3) := by decide +kernel
theorem dX5_readTurn_82 : decode cX5_readTurn 82 = .ok (.ifCond .ne 27, 3) := by decide +kernel
theorem dX5_readTurn_85 : decode cX5_readTurn 85 = .ok (.aload_n 1, 1) := by decide +kernel
theorem dX5_readTurn_86 : decode cX5_readTurn 86 = .ok (.getfield 114, 3) := by decide +kernel
theorem dX5_readTurn_89 : decode cX5_readTurn 89 = .ok (.iload_n 2, 1) := by decide +kernel
theorem dX5_readTurn_90 : decode cX5_readTurn 90 = .ok (.iload_n 3, 1) := by decide +kernel
theorem dX5_readTurn_91 : decode cX5_readTurn 91 = .ok (.iastore, 1) := by decide +kernel
theorem dX5_readTurn_92 : decode cX5_readTurn 92 = .ok (.aload_n 1, 1) := by decide +kernel
theorem dX5_readTurn_93 : decode cX5_readTurn 93 = .ok (.getfield 114, 3) := by decide +kernel
theorem dX5_readTurn_96 : decode cX5_readTurn 96 = .ok (.iload_n 3, 1) := by decide +kernel
theorem dX5_readTurn_97 : decode cX5_readTurn 97 = .ok (.iload_n 2, 1) := by decide +kernel
theorem dX5_readTurn_98 : decode cX5_readTurn 98 = .ok (.iastore, 1) := by decide +kernel
theorem dX5_readTurn_99 : decode cX5_readTurn 99 = .ok (.aload_n 0, 1) := by decide +kernel
theorem dX5_readTurn_100 : decode cX5_readTurn 100 = .ok (.dup, 1) := by decide +kernel
theorem dX5_readTurn_101 : decode cX5_readTurn 101 = .ok (.getfield 31, 3) := by decide +kernel
theorem dX5_readTurn_104 : decode cX5_readTurn 104 = .ok (.iconst 1, 1) := by decide +kernel
theorem dX5_readTurn_105 : decode cX5_readTurn 105 = .ok (.iadd, 1) := by decide +kernel
theorem dX5_readTurn_106 : decode cX5_readTurn 106 = .ok (.putfield 31, 3) := by decide +kernel
theorem dX5_readTurn_109 : decode cX5_readTurn 109 = .ok (.return_, 1) := by decide +kernel
theorem dX5_readPrice_0 : decode cX5_readPrice 0 = .ok (.aload_n 0, 1) := by decide +kernel
theorem dX5_readPrice_1 : decode cX5_readPrice 1 = .ok (.iconst 0, 1) := by decide +kernel
theorem dX5_readPrice_2 : decode cX5_readPrice 2 = .ok (.invokevirtual 80, 3) := by decide +kernel
theorem dX5_readPrice_5 : decode cX5_readPrice 5 = .ok (.aload_n 0, 1) := by decide +kernel
theorem dX5_readPrice_6 : decode cX5_readPrice 6 = .ok (.bipush 9, 2) := by decide +kernel
theorem dX5_readPrice_8 : decode cX5_readPrice 8 = .ok (.invokevirtual 84, 3) := by decide +kernel
theorem dX5_readPrice_11 : decode cX5_readPrice 11 = .ok (.istore_n 2, 1) := by decide +kernel
theorem dX5_readPrice_12 : decode cX5_readPrice 12 = .ok (.aload_n 0, 1) := by decide +kernel
theorem dX5_readPrice_13 : decode cX5_readPrice 13 = .ok (.getfield 34, 3) := by decide +kernel
theorem dX5_readPrice_16 : decode cX5_readPrice 16 = .ok (.iload_n 2, 1) := by decide +kernel
theorem dX5_readPrice_17 : decode cX5_readPrice 17 = .ok (.ishr, 1) := by decide +kernel
theorem dX5_readPrice_18 : decode cX5_readPrice 18 = .ok (.iconst 1, 1) := by decide +kernel
theorem dX5_readPrice_19 : decode cX5_readPrice 19 = .ok (.iand, 1) := by decide +kernel
theorem dX5_readPrice_20 : decode cX5_readPrice 20 = .ok (.iconst 1, 1) := by decide +kernel
theorem dX5_readPrice_21 : decode cX5_readPrice 21 = .ok (.if_icmp .ne 12, 3) := by decide +kernel
theorem dX5_readPrice_24 : decode cX5_readPrice 24 = .ok (.aload_n 0, 1) := by decide +kernel
theorem dX5_readPrice_25 : decode cX5_readPrice 25 = .ok (.iconst 4, 1) := by decide +kernel
theorem dX5_readPrice_26 : decode cX5_readPrice 26 = .ok (.aload_n 0, 1) := by decide +kernel
theorem dX5_readPrice_27 : decode cX5_readPrice 27 = .ok (.getfield 28, 3) := by decide +kernel
theorem dX5_readPrice_30 : decode cX5_readPrice 30 = .ok (.invokevirtual 67, 3) := by decide +kernel
theorem dX5_readPrice_33 : decode cX5_readPrice 33 = .ok (.aload_n 0, 1) := by decide +kernel
theorem dX5_readPrice_34 : decode cX5_readPrice 34 = .ok (.bipush 99, 2) := by decide +kernel
theorem dX5_readPrice_36 : decode cX5_readPrice 36 = .ok (.invokevirtual 84, 3) := by decide +kernel
theorem dX5_readPrice_39 : decode cX5_readPrice 39 = .ok (.istore_n 3, 1) := by decide +kernel
theorem dX5_readPrice_40 : decode cX5_readPrice 40 = .ok (.aload_n 0, 1) := by decide +kernel
theorem dX5_readPrice_41 : decode cX5_readPrice 41 = .ok (.invokevirtual 88, 3) := by decide +kernel
theorem dX5_readPrice_44 : decode cX5_readPrice 44 = .ok (.aload_n 0, 1) := by decide +kernel
theorem dX5_readPrice_45 : decode cX5_readPrice 45 = .ok (.getfield 22, 3) := by decide +kernel
theorem dX5_readPrice_48 : decode cX5_readPrice 48 = .ok (.ifCond .ne 22, 3) := by decide +kernel
theorem dX5_readPrice_51 : decode cX5_readPrice 51 = .ok (.aload_n 1, 1) := by decide +kernel
theorem dX5_readPrice_52 : decode cX5_readPrice 52 = .ok (.getfield 117, 3) := by decide +kernel
theorem dX5_readPrice_55 : decode cX5_readPrice 55 = .ok (.iload_n 2, 1) := by decide +kernel
theorem dX5_readPrice_56 : decode cX5_readPrice 56 = .ok (.iload_n 3, 1) := by decide +kernel
theorem dX5_readPrice_57 : decode cX5_readPrice 57 = .ok (.iastore, 1) := by decide +kernel
theorem dX5_readPrice_58 : decode cX5_readPrice 58 = .ok (.aload_n 0, 1) := by decide +kernel
theorem dX5_readPrice_59 : decode cX5_readPrice 59 = .ok (.dup, 1) := by decide +kernel
theorem dX5_readPrice_60 : decode cX5_readPrice 60 = .ok (.getfield 34, 3) := by decide +kernel
theorem dX5_readPrice_63 : decode cX5_readPrice 63 = .ok (.iconst 1, 1) := by decide +kernel
theorem dX5_readPrice_64 : decode cX5_readPrice 64 = .ok (.iload_n 2, 1) := by decide +kernel
theorem dX5_readPrice_65 : decode cX5_readPrice 65 = .ok (.ishl, 1) := by decide +kernel
theorem dX5_readPrice_66 : decode cX5_readPrice 66 = .ok (.ior, 1) := by decide +kernel
theorem dX5_readPrice_67 : decode cX5_readPrice 67 = .ok (.putfield 34, 3) := by decide +kernel
theorem dX5_readPrice_70 : decode cX5_readPrice 70 = .ok (.return_, 1) := by decide +kernel
theorem dX6_init_0 : decode cX6_init 0 = .ok (.aload_n 0, 1) := by decide +kernel
theorem dX6_init_1 : decode cX6_init 1 = .ok (.invokespecial 3, 3) := by decide +kernel
theorem dX6_init_4 : decode cX6_init 4 = .ok (.aload_n 0, 1) := by decide +kernel
theorem dX6_init_5 : decode cX6_init 5 = .ok (.new 9, 3) := by decide +kernel
theorem dX6_init_8 : decode cX6_init 8 = .ok (.dup, 1) := by decide +kernel
theorem dX6_init_9 : decode cX6_init 9 = .ok (.invokespecial 11, 3) := by decide +kernel
theorem dX6_init_12 : decode cX6_init 12 = .ok (.putfield 12, 3) := by decide +kernel
theorem dX6_init_15 : decode cX6_init 15 = .ok (.aload_n 0, 1) := by decide +kernel
theorem dX6_init_16 : decode cX6_init 16 = .ok (.new 18, 3) := by decide +kernel
theorem dX6_init_19 : decode cX6_init 19 = .ok (.dup, 1) := by decide +kernel
theorem dX6_init_20 : decode cX6_init 20 = .ok (.invokespecial 20, 3) := by decide +kernel
theorem dX6_init_23 : decode cX6_init 23 = .ok (.putfield 21, 3) := by decide +kernel
theorem dX6_init_26 : decode cX6_init 26 = .ok (.aload_n 0, 1) := by decide +kernel
theorem dX6_init_27 : decode cX6_init 27 = .ok (.bipush 10, 2) := by decide +kernel
theorem dX6_init_29 : decode cX6_init 29 = .ok (.newarray .int, 2) := by decide +kernel
theorem dX6_init_31 : decode cX6_init 31 = .ok (.putfield 25, 3) := by decide +kernel
theorem dX6_init_34 : decode cX6_init 34 = .ok (.return_, 1) := by decide +kernel
theorem dX6_begin_0 : decode cX6_begin 0 = .ok (.aload_n 0, 1) := by decide +kernel
theorem dX6_begin_1 : decode cX6_begin 1 = .ok (.getfield 25, 3) := by decide +kernel
theorem dX6_begin_4 : decode cX6_begin 4 = .ok (.iconst 0, 1) := by decide +kernel
theorem dX6_begin_5 : decode cX6_begin 5 = .ok (.invokestatic 29, 3) := by decide +kernel
theorem dX6_begin_8 : decode cX6_begin 8 = .ok (.iconst 0, 1) := by decide +kernel
theorem dX6_begin_9 : decode cX6_begin 9 = .ok (.istore_n 1, 1) := by decide +kernel
theorem dX6_begin_10 : decode cX6_begin 10 = .ok (.iload_n 1, 1) := by decide +kernel
theorem dX6_begin_11 : decode cX6_begin 11 = .ok (.aload_n 0, 1) := by decide +kernel
theorem dX6_begin_12 : decode cX6_begin 12 = .ok (.getfield 12, 3) := by decide +kernel
theorem dX6_begin_15 : decode cX6_begin 15 = .ok (.getfield 35, 3) := by decide +kernel
theorem dX6_begin_18 : decode cX6_begin 18 = .ok (.if_icmp .ge 14, 3) := by decide +kernel
theorem dX6_begin_21 : decode cX6_begin 21 = .ok (.aload_n 0, 1) := by decide +kernel
theorem dX6_begin_22 : decode cX6_begin 22 = .ok (.iload_n 1, 1) := by decide +kernel
theorem dX6_begin_23 : decode cX6_begin 23 = .ok (.invokevirtual 39, 3) := by decide +kernel
theorem dX6_begin_26 : decode cX6_begin 26 = .ok (.iinc 1 1, 3) := by decide +kernel
theorem dX6_begin_29 : decode cX6_begin 29 = .ok (.goto (-19), 3) := by decide +kernel
theorem dX6_begin_32 : decode cX6_begin 32 = .ok (.return_, 1) := by decide +kernel
theorem dX6_see_0 : decode cX6_see 0 = .ok (.aload_n 0, 1) := by decide +kernel
theorem dX6_see_1 : decode cX6_see 1 = .ok (.getfield 21, 3) := by decide +kernel
theorem dX6_see_4 : decode cX6_see 4 = .ok (.iload_n 1, 1) := by decide +kernel
theorem dX6_see_5 : decode cX6_see 5 = .ok (.invokevirtual 43, 3) := by decide +kernel
theorem dX6_see_8 : decode cX6_see 8 = .ok (.ifCond .eq 7, 3) := by decide +kernel
theorem dX6_see_11 : decode cX6_see 11 = .ok (.iconst 0, 1) := by decide +kernel
theorem dX6_see_12 : decode cX6_see 12 = .ok (.goto 4, 3) := by decide +kernel
theorem dX6_see_15 : decode cX6_see 15 = .ok (.iload_n 2, 1) := by decide +kernel
theorem dX6_see_16 : decode cX6_see 16 = .ok (.istore_n 3, 1) := by decide +kernel
theorem dX6_see_17 : decode cX6_see 17 = .ok (.iconst 0, 1) := by decide +kernel
theorem dX6_see_18 : decode cX6_see 18 = .ok (.istore 4, 2) := by decide +kernel
theorem dX6_see_20 : decode cX6_see 20 = .ok (.iload 4, 2) := by decide +kernel
theorem dX6_see_22 : decode cX6_see 22 = .ok (.bipush 10, 2) := by decide +kernel
theorem dX6_see_24 : decode cX6_see 24 = .ok (.if_icmp .ge 38, 3) := by decide +kernel
theorem dX6_see_27 : decode cX6_see 27 = .ok (.aload_n 0, 1) := by decide +kernel
theorem dX6_see_28 : decode cX6_see 28 = .ok (.getfield 25, 3) := by decide +kernel
theorem dX6_see_31 : decode cX6_see 31 = .ok (.iload 4, 2) := by decide +kernel
theorem dX6_see_33 : decode cX6_see 33 = .ok (.aload_n 0, 1) := by decide +kernel
theorem dX6_see_34 : decode cX6_see 34 = .ok (.getfield 25, 3) := by decide +kernel
theorem dX6_see_37 : decode cX6_see 37 = .ok (.iload 4, 2) := by decide +kernel
theorem dX6_see_39 : decode cX6_see 39 = .ok (.iaload, 1) := by decide +kernel
theorem dX6_see_40 : decode cX6_see 40 = .ok (.iconst 1, 1) := by decide +kernel
theorem dX6_see_41 : decode cX6_see 41 = .ok (.iload_n 1, 1) := by decide +kernel
theorem dX6_see_42 : decode cX6_see 42 = .ok (.ishl, 1) := by decide +kernel
theorem dX6_see_43 : decode cX6_see 43 = .ok (.iconst (-1), 1) := by decide +kernel
theorem dX6_see_44 : decode cX6_see 44 = .ok (.ixor, 1) := by decide +kernel
theorem dX6_see_45 : decode cX6_see 45 = .ok (.iand, 1) := by decide +kernel
theorem dX6_see_46 : decode cX6_see 46 = .ok (.iload_n 3, 1) := by decide +kernel
theorem dX6_see_47 : decode cX6_see 47 = .ok (.iload 4, 2) := by decide +kernel
theorem dX6_see_49 : decode cX6_see 49 = .ok (.ishr, 1) := by decide +kernel
theorem dX6_see_50 : decode cX6_see 50 = .ok (.iconst 1, 1) := by decide +kernel
theorem dX6_see_51 : decode cX6_see 51 = .ok (.iand, 1) := by decide +kernel
theorem dX6_see_52 : decode cX6_see 52 = .ok (.iload_n 1, 1) := by decide +kernel
theorem dX6_see_53 : decode cX6_see 53 = .ok (.ishl, 1) := by decide +kernel
theorem dX6_see_54 : decode cX6_see 54 = .ok (.ior, 1) := by decide +kernel
theorem dX6_see_55 : decode cX6_see 55 = .ok (.iastore, 1) := by decide +kernel
theorem dX6_see_56 : decode cX6_see 56 = .ok (.iinc 4 1, 3) := by decide +kernel
theorem dX6_see_59 : decode cX6_see 59 = .ok (.goto (-39), 3) := by decide +kernel
theorem dX6_see_62 : decode cX6_see 62 = .ok (.return_, 1) := by decide +kernel
theorem dX6_restore_0 : decode cX6_restore 0 = .ok (.aload_n 0, 1) := by decide +kernel
theorem dX6_restore_1 : decode cX6_restore 1 = .ok (.getfield 12, 3) := by decide +kernel
theorem dX6_restore_4 : decode cX6_restore 4 = .ok (.iload_n 1, 1) := by decide +kernel
theorem dX6_restore_5 : decode cX6_restore 5 = .ok (.invokevirtual 47, 3) := by decide +kernel
theorem dX6_restore_8 : decode cX6_restore 8 = .ok (.ifCond .eq 21, 3) := by decide +kernel
theorem dX6_restore_11 : decode cX6_restore 11 = .ok (.aload_n 0, 1) := by decide +kernel
theorem dX6_restore_12 : decode cX6_restore 12 = .ok (.iload_n 1, 1) := by decide +kernel
theorem dX6_restore_13 : decode cX6_restore 13 = .ok (.aload_n 0, 1) := by decide +kernel
theorem dX6_restore_14 : decode cX6_restore 14 = .ok (.getfield 21, 3) := by decide +kernel
theorem dX6_restore_17 : decode cX6_restore 17 = .ok (.aload_n 0, 1) := by decide +kernel
theorem dX6_restore_18 : decode cX6_restore 18 = .ok (.getfield 12, 3) := by decide +kernel
theorem dX6_restore_21 : decode cX6_restore 21 = .ok (.iload_n 1, 1) := by decide +kernel
theorem dX6_restore_22 : decode cX6_restore 22 = .ok (.iconst (-1), 1) := by decide +kernel
theorem dX6_restore_23 : decode cX6_restore 23 = .ok (.invokevirtual 50, 3) := by decide +kernel
theorem dX6_restore_26 : decode cX6_restore 26 = .ok (.invokevirtual 54, 3) := by decide +kernel
theorem dX6_restore_29 : decode cX6_restore 29 = .ok (.return_, 1) := by decide +kernel
theorem dX6_repaint_0 : decode cX6_repaint 0 = .ok (.aload_n 0, 1) := by decide +kernel
theorem dX6_repaint_1 : decode cX6_repaint 1 = .ok (.iload_n 1, 1) := by decide +kernel
theorem dX6_repaint_2 : decode cX6_repaint 2 = .ok (.aload_n 0, 1) := by decide +kernel
theorem dX6_repaint_3 : decode cX6_repaint 3 = .ok (.getfield 21, 3) := by decide +kernel
theorem dX6_repaint_6 : decode cX6_repaint 6 = .ok (.aload_n 0, 1) := by decide +kernel
theorem dX6_repaint_7 : decode cX6_repaint 7 = .ok (.getfield 12, 3) := by decide +kernel
theorem dX6_repaint_10 : decode cX6_repaint 10 = .ok (.iload_n 1, 1) := by decide +kernel
theorem dX6_repaint_11 : decode cX6_repaint 11 = .ok (.iload_n 2, 1) := by decide +kernel
theorem dX6_repaint_12 : decode cX6_repaint 12 = .ok (.invokevirtual 50, 3) := by decide +kernel
theorem dX6_repaint_15 : decode cX6_repaint 15 = .ok (.aload_n 0, 1) := by decide +kernel
theorem dX6_repaint_16 : decode cX6_repaint 16 = .ok (.getfield 12, 3) := by decide +kernel
theorem dX6_repaint_19 : decode cX6_repaint 19 = .ok (.iload_n 3, 1) := by decide +kernel
theorem dX6_repaint_20 : decode cX6_repaint 20 = .ok (.invokevirtual 58, 3) := by decide +kernel
theorem dX6_repaint_23 : decode cX6_repaint 23 = .ok (.ior, 1) := by decide +kernel
theorem dX6_repaint_24 : decode cX6_repaint 24 = .ok (.invokevirtual 54, 3) := by decide +kernel
theorem dX6_repaint_27 : decode cX6_repaint 27 = .ok (.return_, 1) := by decide +kernel
theorem dX6_canShow_0 : decode cX6_canShow 0 = .ok (.aload_n 0, 1) := by decide +kernel
theorem dX6_canShow_1 : decode cX6_canShow 1 = .ok (.getfield 25, 3) := by decide +kernel
theorem dX6_canShow_4 : decode cX6_canShow 4 = .ok (.iload_n 1, 1) := by decide +kernel
theorem dX6_canShow_5 : decode cX6_canShow 5 = .ok (.bipush 10, 2) := by decide +kernel
theorem dX6_canShow_7 : decode cX6_canShow 7 = .ok (.irem, 1) := by decide +kernel
theorem dX6_canShow_8 : decode cX6_canShow 8 = .ok (.iaload, 1) := by decide +kernel
theorem dX6_canShow_9 : decode cX6_canShow 9 = .ok (.istore_n 2, 1) := by decide +kernel
theorem dX6_canShow_10 : decode cX6_canShow 10 = .ok (.aload_n 0, 1) := by decide +kernel
theorem dX6_canShow_11 : decode cX6_canShow 11 = .ok (.getfield 12, 3) := by decide +kernel
theorem dX6_canShow_14 : decode cX6_canShow 14 = .ok (.iload_n 1, 1) := by decide +kernel
theorem dX6_canShow_15 : decode cX6_canShow 15 = .ok (.invokevirtual 62, 3) := by decide +kernel
theorem dX6_canShow_18 : decode cX6_canShow 18 = .ok (.ifCond .ne 13, 3) := by decide +kernel
theorem dX6_canShow_21 : decode cX6_canShow 21 = .ok (.iload_n 2, 1) := by decide +kernel
theorem dX6_canShow_22 : decode cX6_canShow 22 = .ok (.ifCond .eq 7, 3) := by decide +kernel
theorem dX6_canShow_25 : decode cX6_canShow 25 = .ok (.iconst 1, 1) := by decide +kernel
theorem dX6_canShow_26 : decode cX6_canShow 26 = .ok (.goto 4, 3) := by decide +kernel
theorem dX6_canShow_29 : decode cX6_canShow 29 = .ok (.iconst 0, 1) := by decide +kernel
theorem dX6_canShow_30 : decode cX6_canShow 30 = .ok (.ireturn, 1) := by decide +kernel
theorem dX6_canShow_31 : decode cX6_canShow 31 = .ok (.aload_n 0, 1) := by decide +kernel
theorem dX6_canShow_32 : decode cX6_canShow 32 = .ok (.getfield 25, 3) := by decide +kernel
theorem dX6_canShow_35 : decode cX6_canShow 35 = .ok (.iload_n 1, 1) := by decide +kernel
theorem dX6_canShow_36 : decode cX6_canShow 36 = .ok (.bipush 10, 2) := by decide +kernel
theorem dX6_canShow_38 : decode cX6_canShow 38 = .ok (.idiv, 1) := by decide +kernel
theorem dX6_canShow_39 : decode cX6_canShow 39 = .ok (.iaload, 1) := by decide +kernel
theorem dX6_canShow_40 : decode cX6_canShow 40 = .ok (.istore_n 3, 1) := by decide +kernel
theorem dX6_canShow_41 : decode cX6_canShow 41 = .ok (.iload_n 3, 1) := by decide +kernel
theorem dX6_canShow_42 : decode cX6_canShow 42 = .ok (.iload_n 2, 1) := by decide +kernel
theorem dX6_canShow_43 : decode cX6_canShow 43 = .ok (.ior, 1) := by decide +kernel
theorem dX6_canShow_44 : decode cX6_canShow 44 = .ok (.istore 4, 2) := by decide +kernel
theorem dX6_canShow_46 : decode cX6_canShow 46 = .ok (.iload_n 3, 1) := by decide +kernel
theorem dX6_canShow_47 : decode cX6_canShow 47 = .ok (.ifCond .eq 21, 3) := by decide +kernel
theorem dX6_canShow_50 : decode cX6_canShow 50 = .ok (.iload_n 2, 1) := by decide +kernel
theorem dX6_canShow_51 : decode cX6_canShow 51 = .ok (.ifCond .eq 17, 3) := by decide +kernel
theorem dX6_canShow_54 : decode cX6_canShow 54 = .ok (.iload 4, 2) := by decide +kernel
theorem dX6_canShow_56 : decode cX6_canShow 56 = .ok (.iload 4, 2) := by decide +kernel
theorem dX6_canShow_58 : decode cX6_canShow 58 = .ok (.iconst 1, 1) := by decide +kernel
theorem dX6_canShow_59 : decode cX6_canShow 59 = .ok (.isub, 1) := by decide +kernel
theorem dX6_canShow_60 : decode cX6_canShow 60 = .ok (.iand, 1) := by decide +kernel
theorem dX6_canShow_61 : decode cX6_canShow 61 = .ok (.ifCond .eq 7, 3) := by decide +kernel
theorem dX6_canShow_64 : decode cX6_canShow 64 = .ok (.iconst 1, 1) := by decide +kernel
theorem dX6_canShow_65 : decode cX6_canShow 65 = .ok (.goto 4, 3) := by decide +kernel
theorem dX6_canShow_68 : decode cX6_canShow 68 = .ok (.iconst 0, 1) := by decide +kernel
theorem dX6_canShow_69 : decode cX6_canShow 69 = .ok (.ireturn, 1) := by decide +kernel
theorem dX6_cubeFor_0 : decode cX6_cubeFor 0 = .ok (.aload_n 0, 1) := by decide +kernel
theorem dX6_cubeFor_1 : decode cX6_cubeFor 1 = .ok (.getfield 25, 3) := by decide +kernel
theorem dX6_cubeFor_4 : decode cX6_cubeFor 4 = .ok (.iload_n 1, 1) := by decide +kernel
theorem dX6_cubeFor_5 : decode cX6_cubeFor 5 = .ok (.bipush 10, 2) := by decide +kernel
theorem dX6_cubeFor_7 : decode cX6_cubeFor 7 = .ok (.irem, 1) := by decide +kernel
theorem dX6_cubeFor_8 : decode cX6_cubeFor 8 = .ok (.iaload, 1) := by decide +kernel
theorem dX6_cubeFor_9 : decode cX6_cubeFor 9 = .ok (.istore_n 3, 1) := by decide +kernel
theorem dX6_cubeFor_10 : decode cX6_cubeFor 10 = .ok (.aload_n 0, 1) := by decide +kernel
theorem dX6_cubeFor_11 : decode cX6_cubeFor 11 = .ok (.getfield 12, 3) := by decide +kernel
theorem dX6_cubeFor_14 : decode cX6_cubeFor 14 = .ok (.iload_n 1, 1) := by decide +kernel
theorem dX6_cubeFor_15 : decode cX6_cubeFor 15 = .ok (.invokevirtual 62, 3) := by decide +kernel
theorem dX6_cubeFor_18 : decode cX6_cubeFor 18 = .ok (.ifCond .ne 16, 3) := by decide +kernel
theorem dX6_cubeFor_21 : decode cX6_cubeFor 21 = .ok (.iload_n 2, 1) := by decide +kernel
theorem dX6_cubeFor_22 : decode cX6_cubeFor 22 = .ok (.ifCond .ne 10, 3) := by decide +kernel
theorem dX6_cubeFor_25 : decode cX6_cubeFor 25 = .ok (.iload_n 3, 1) := by decide +kernel
theorem dX6_cubeFor_26 : decode cX6_cubeFor 26 = .ok (.invokestatic 65, 3) := by decide +kernel
theorem dX6_cubeFor_29 : decode cX6_cubeFor 29 = .ok (.goto 4, 3) := by decide +kernel
theorem dX6_cubeFor_32 : decode cX6_cubeFor 32 = .ok (.iconst (-1), 1) := by decide +kernel
theorem dX6_cubeFor_33 : decode cX6_cubeFor 33 = .ok (.ireturn, 1) := by decide +kernel
theorem dX6_cubeFor_34 : decode cX6_cubeFor 34 = .ok (.aload_n 0, 1) := by decide +kernel
theorem dX6_cubeFor_35 : decode cX6_cubeFor 35 = .ok (.getfield 25, 3) := by decide +kernel
theorem dX6_cubeFor_38 : decode cX6_cubeFor 38 = .ok (.iload_n 1, 1) := by decide +kernel
theorem dX6_cubeFor_39 : decode cX6_cubeFor 39 = .ok (.bipush 10, 2) := by decide +kernel
theorem dX6_cubeFor_41 : decode cX6_cubeFor 41 = .ok (.idiv, 1) := by decide +kernel
theorem dX6_cubeFor_42 : decode cX6_cubeFor 42 = .ok (.iaload, 1) := by decide +kernel
theorem dX6_cubeFor_43 : decode cX6_cubeFor 43 = .ok (.istore 4, 2) := by decide +kernel
theorem dX6_cubeFor_45 : decode cX6_cubeFor 45 = .ok (.iload 4, 2) := by decide +kernel
theorem dX6_cubeFor_47 : decode cX6_cubeFor 47 = .ok (.iload 4, 2) := by decide +kernel
theorem dX6_cubeFor_49 : decode cX6_cubeFor 49 = .ok (.ineg, 1) := by decide +kernel
theorem dX6_cubeFor_50 : decode cX6_cubeFor 50 = .ok (.iand, 1) := by decide +kernel
theorem dX6_cubeFor_51 : decode cX6_cubeFor 51 = .ok (.istore 5, 2) := by decide +kernel
theorem dX6_cubeFor_53 : decode cX6_cubeFor 53 = .ok (.iload 5, 2) := by decide +kernel
theorem dX6_cubeFor_55 : decode cX6_cubeFor 55 = .ok (.iload_n 3, 1) := by decide +kernel
theorem dX6_cubeFor_56 : decode cX6_cubeFor 56 = .ok (.if_icmp .ne 20, 3) := by decide +kernel
theorem dX6_cubeFor_59 : decode cX6_cubeFor 59 = .ok (.iload 4, 2) := by decide +kernel
theorem dX6_cubeFor_61 : decode cX6_cubeFor 61 = .ok (.iload 5, 2) := by decide +kernel
theorem dX6_cubeFor_63 : decode cX6_cubeFor 63 = .ok (.iconst (-1), 1) := by decide +kernel
theorem dX6_cubeFor_64 : decode cX6_cubeFor 64 = .ok (.ixor, 1) := by decide +kernel
theorem dX6_cubeFor_65 : decode cX6_cubeFor 65 = .ok (.iand, 1) := by decide +kernel
theorem dX6_cubeFor_66 : decode cX6_cubeFor 66 = .ok (.istore 4, 2) := by decide +kernel
theorem dX6_cubeFor_68 : decode cX6_cubeFor 68 = .ok (.iload 4, 2) := by decide +kernel
theorem dX6_cubeFor_70 : decode cX6_cubeFor 70 = .ok (.iload 4, 2) := by decide +kernel
theorem dX6_cubeFor_72 : decode cX6_cubeFor 72 = .ok (.ineg, 1) := by decide +kernel
theorem dX6_cubeFor_73 : decode cX6_cubeFor 73 = .ok (.iand, 1) := by decide +kernel
theorem dX6_cubeFor_74 : decode cX6_cubeFor 74 = .ok (.istore 5, 2) := by decide +kernel
theorem dX6_cubeFor_76 : decode cX6_cubeFor 76 = .ok (.iload_n 2, 1) := by decide +kernel
theorem dX6_cubeFor_77 : decode cX6_cubeFor 77 = .ok (.ifCond .ne 9, 3) := by decide +kernel
theorem dX6_cubeFor_80 : decode cX6_cubeFor 80 = .ok (.iload 5, 2) := by decide +kernel
theorem dX6_cubeFor_82 : decode cX6_cubeFor 82 = .ok (.invokestatic 65, 3) := by decide +kernel
theorem dX6_cubeFor_85 : decode cX6_cubeFor 85 = .ok (.ireturn, 1) := by decide +kernel
theorem dX6_cubeFor_86 : decode cX6_cubeFor 86 = .ok (.iload_n 2, 1) := by decide +kernel
theorem dX6_cubeFor_87 : decode cX6_cubeFor 87 = .ok (.iconst 1, 1) := by decide +kernel
theorem dX6_cubeFor_88 : decode cX6_cubeFor 88 = .ok (.if_icmp .ne 15, 3) := by decide +kernel
theorem dX6_cubeFor_91 : decode cX6_cubeFor 91 = .ok (.iload_n 3, 1) := by decide +kernel
theorem dX6_cubeFor_92 : decode cX6_cubeFor 92 = .ok (.iload 5, 2) := by decide +kernel
theorem dX6_cubeFor_94 : decode cX6_cubeFor 94 = .ok (.iconst (-1), 1) := by decide +kernel
theorem dX6_cubeFor_95 : decode cX6_cubeFor 95 = .ok (.ixor, 1) := by decide +kernel
theorem dX6_cubeFor_96 : decode cX6_cubeFor 96 = .ok (.iand, 1) := by decide +kernel
theorem dX6_cubeFor_97 : decode cX6_cubeFor 97 = .ok (.invokestatic 65, 3) := by decide +kernel
theorem dX6_cubeFor_100 : decode cX6_cubeFor 100 = .ok (.goto 4, 3) := by decide +kernel
theorem dX6_cubeFor_103 : decode cX6_cubeFor 103 = .ok (.iconst (-1), 1) := by decide +kernel
theorem dX6_cubeFor_104 : decode cX6_cubeFor 104 = .ok (.ireturn, 1) := by decide +kernel
theorem dX6_countShown_0 : decode cX6_countShown 0 = .ok (.iconst 0, 1) := by decide +kernel
theorem dX6_countShown_1 : decode cX6_countShown 1 = .ok (.istore_n 1, 1) := by decide +kernel
theorem dX6_countShown_2 : decode cX6_countShown 2 = .ok (.aload_n 0, 1) := by decide +kernel
theorem dX6_countShown_3 : decode cX6_countShown 3 = .ok (.getfield 12, 3) := by decide +kernel
theorem dX6_countShown_6 : decode cX6_countShown 6 = .ok (.getfield 68, 3) := by decide +kernel
theorem dX6_countShown_9 : decode cX6_countShown 9 = .ok (.istore_n 2, 1) := by decide +kernel
theorem dX6_countShown_10 : decode cX6_countShown 10 = .ok (.iload_n 2, 1) := by decide +kernel
theorem dX6_countShown_11 : decode cX6_countShown 11 = .ok (.aload_n 0, 1) := by decide +kernel
theorem dX6_countShown_12 : decode cX6_countShown 12 = .ok (.getfield 12, 3) := by decide +kernel
theorem dX6_countShown_15 : decode cX6_countShown 15 = .ok (.getfield 71, 3) := by decide +kernel
theorem dX6_countShown_18 : decode cX6_countShown 18 = .ok (.if_icmp .gt 20, 3) := by decide +kernel
theorem dX6_countShown_21 : decode cX6_countShown 21 = .ok (.aload_n 0, 1) := by decide +kernel
theorem dX6_countShown_22 : decode cX6_countShown 22 = .ok (.iload_n 2, 1) := by decide +kernel
theorem dX6_countShown_23 : decode cX6_countShown 23 = .ok (.invokevirtual 74, 3) := by decide +kernel
theorem dX6_countShown_26 : decode cX6_countShown 26 = .ok (.ifCond .eq 6, 3) := by decide +kernel
theorem dX6_countShown_29 : decode cX6_countShown 29 = .ok (.iinc 1 1, 3) := by decide +kernel
theorem dX6_countShown_32 : decode cX6_countShown 32 = .ok (.iinc 2 1, 3) := by decide +kernel
theorem dX6_countShown_35 : decode cX6_countShown 35 = .ok (.goto (-25), 3) := by decide +kernel
theorem dX6_countShown_38 : decode cX6_countShown 38 = .ok (.iload_n 1, 1) := by decide +kernel
theorem dX6_countShown_39 : decode cX6_countShown 39 = .ok (.ireturn, 1) := by decide +kernel
theorem dX6_countShownWithout_0 : decode cX6_countShownWithout 0 = .ok (.aload_n 0, 1) := by decide +kernel
theorem dX6_countShownWithout_1 : decode cX6_countShownWithout 1 = .ok (.iload_n 1, 1) := by decide +kernel
theorem dX6_countShownWithout_2 : decode cX6_countShownWithout 2 = .ok (.aload_n 0, 1) := by decide +kernel
theorem dX6_countShownWithout_3 : decode cX6_countShownWithout 3 = .ok (.getfield 21, 3) := by decide +kernel
theorem dX6_countShownWithout_6 : decode cX6_countShownWithout 6 = .ok (.aload_n 0, 1) := by decide +kernel
theorem dX6_countShownWithout_7 : decode cX6_countShownWithout 7 = .ok (.getfield 12, 3) := by decide +kernel
theorem dX6_countShownWithout_10 : decode cX6_countShownWithout 10 = .ok (.iload_n 1, 1) := by decide +kernel
theorem dX6_countShownWithout_11 : decode cX6_countShownWithout 11 = .ok (.iload_n 2, 1) := by decide +kernel
theorem dX6_countShownWithout_12 : decode cX6_countShownWithout 12 = .ok (.invokevirtual 50, 3) := by decide +kernel
theorem dX6_countShownWithout_15 : decode cX6_countShownWithout 15 = .ok (.invokevirtual 54, 3) := by decide +kernel
theorem dX6_countShownWithout_18 : decode cX6_countShownWithout 18 = .ok (.aload_n 0, 1) := by decide +kernel
theorem dX6_countShownWithout_19 : decode cX6_countShownWithout 19 = .ok (.invokevirtual 77, 3) := by decide +kernel
theorem dX6_countShownWithout_22 : decode cX6_countShownWithout 22 = .ok (.istore_n 3, 1) := by decide +kernel
theorem dX6_countShownWithout_23 : decode cX6_countShownWithout 23 = .ok (.aload_n 0, 1) := by decide +kernel
theorem dX6_countShownWithout_24 : decode cX6_countShownWithout 24 = .ok (.iload_n 1, 1) := by decide +kernel
theorem dX6_countShownWithout_25 : decode cX6_countShownWithout 25 = .ok (.invokevirtual 39, 3) := by decide +kernel
theorem dX6_countShownWithout_28 : decode cX6_countShownWithout 28 = .ok (.iload_n 3, 1) := by decide +kernel
theorem dX6_countShownWithout_29 : decode cX6_countShownWithout 29 = .ok (.ireturn, 1) := by decide +kernel
theorem dX6_firstGap_0 : decode cX6_firstGap 0 = .ok (.aload_n 0, 1) := by decide +kernel
theorem dX6_firstGap_1 : decode cX6_firstGap 1 = .ok (.getfield 12, 3) := by decide +kernel
theorem dX6_firstGap_4 : decode cX6_firstGap 4 = .ok (.getfield 68, 3) := by decide +kernel
theorem dX6_firstGap_7 : decode cX6_firstGap 7 = .ok (.istore_n 1, 1) := by decide +kernel
theorem dX6_firstGap_8 : decode cX6_firstGap 8 = .ok (.iload_n 1, 1) := by decide +kernel
theorem dX6_firstGap_9 : decode cX6_firstGap 9 = .ok (.aload_n 0, 1) := by decide +kernel
theorem dX6_firstGap_10 : decode cX6_firstGap 10 = .ok (.getfield 12, 3) := by decide +kernel
theorem dX6_firstGap_13 : decode cX6_firstGap 13 = .ok (.getfield 71, 3) := by decide +kernel
theorem dX6_firstGap_16 : decode cX6_firstGap 16 = .ok (.if_icmp .gt 19, 3) := by decide +kernel
theorem dX6_firstGap_19 : decode cX6_firstGap 19 = .ok (.aload_n 0, 1) := by decide +kernel
theorem dX6_firstGap_20 : decode cX6_firstGap 20 = .ok (.iload_n 1, 1) := by decide +kernel
theorem dX6_firstGap_21 : decode cX6_firstGap 21 = .ok (.invokevirtual 74, 3) := by decide +kernel
theorem dX6_firstGap_24 : decode cX6_firstGap 24 = .ok (.ifCond .ne 5, 3) := by decide +kernel
theorem dX6_firstGap_27 : decode cX6_firstGap 27 = .ok (.iload_n 1, 1) := by decide +kernel
theorem dX6_firstGap_28 : decode cX6_firstGap 28 = .ok (.ireturn, 1) := by decide +kernel
theorem dX6_firstGap_29 : decode cX6_firstGap 29 = .ok (.iinc 1 1, 3) := by decide +kernel
theorem dX6_firstGap_32 : decode cX6_firstGap 32 = .ok (.goto (-24), 3) := by decide +kernel
theorem dX6_firstGap_35 : decode cX6_firstGap 35 = .ok (.iconst (-1), 1) := by decide +kernel
theorem dX6_firstGap_36 : decode cX6_firstGap 36 = .ok (.ireturn, 1) := by decide +kernel
theorem dX6_addSightings_0 : decode cX6_addSightings 0 = .ok (.aload_n 0, 1) := by decide +kernel
theorem dX6_addSightings_1 : decode cX6_addSightings 1 = .ok (.getfield 12, 3) := by decide +kernel
theorem dX6_addSightings_4 : decode cX6_addSightings 4 = .ok (.getfield 68, 3) := by decide +kernel
theorem dX6_addSightings_7 : decode cX6_addSightings 7 = .ok (.istore_n 2, 1) := by decide +kernel
theorem dX6_addSightings_8 : decode cX6_addSightings 8 = .ok (.iload_n 2, 1) := by decide +kernel
theorem dX6_addSightings_9 : decode cX6_addSightings 9 = .ok (.aload_n 0, 1) := by decide +kernel
theorem dX6_addSightings_10 : decode cX6_addSightings 10 = .ok (.getfield 12, 3) := by decide +kernel
theorem dX6_addSightings_13 : decode cX6_addSightings 13 = .ok (.getfield 71, 3) := by decide +kernel
theorem dX6_addSightings_16 : decode cX6_addSightings 16 = .ok (.if_icmp .gt 30, 3) := by decide +kernel
theorem dX6_addSightings_19 : decode cX6_addSightings 19 = .ok (.iload_n 2, 1) := by decide +kernel
theorem dX6_addSightings_20 : decode cX6_addSightings 20 = .ok (.aload_n 1, 1) := by decide +kernel
theorem dX6_addSightings_21 : decode cX6_addSightings 21 = .ok (.arraylength, 1) := by decide +kernel
theorem dX6_addSightings_22 : decode cX6_addSightings 22 = .ok (.if_icmp .ge 24, 3) := by decide +kernel
theorem dX6_addSightings_25 : decode cX6_addSightings 25 = .ok (.aload_n 0, 1) := by decide +kernel
theorem dX6_addSightings_26 : decode cX6_addSightings 26 = .ok (.iload_n 2, 1) := by decide +kernel
theorem dX6_addSightings_27 : decode cX6_addSightings 27 = .ok (.invokevirtual 74, 3) := by decide +kernel
theorem dX6_addSightings_30 : decode cX6_addSightings 30 = .ok (.ifCond .eq 10, 3) := by decide +kernel
theorem dX6_addSightings_33 : decode cX6_addSightings 33 = .ok (.aload_n 1, 1) := by decide +kernel
theorem dX6_addSightings_34 : decode cX6_addSightings 34 = .ok (.iload_n 2, 1) := by decide +kernel
theorem dX6_addSightings_35 : decode cX6_addSightings 35 = .ok (.dup2, 1) := by decide +kernel
theorem dX6_addSightings_36 : decode cX6_addSightings 36 = .ok (.iaload, 1) := by decide +kernel
theorem dX6_addSightings_37 : decode cX6_addSightings 37 = .ok (.iconst 1, 1) := by decide +kernel
theorem dX6_addSightings_38 : decode cX6_addSightings 38 = .ok (.iadd, 1) := by decide +kernel
theorem dX6_addSightings_39 : decode cX6_addSightings 39 = .ok (.iastore, 1) := by decide +kernel
theorem dX6_addSightings_40 : decode cX6_addSightings 40 = .ok (.iinc 2 1, 3) := by decide +kernel
theorem dX6_addSightings_43 : decode cX6_addSightings 43 = .ok (.goto (-35), 3) := by decide +kernel
theorem dX6_addSightings_46 : decode cX6_addSightings 46 = .ok (.return_, 1) := by decide +kernel
theorem dX7_init_0 : decode cX7_init 0 = .ok (.aload_n 0, 1) := by decide +kernel
theorem dX7_init_1 : decode cX7_init 1 = .ok (.invokespecial 3, 3) := by decide +kernel
theorem dX7_init_4 : decode cX7_init 4 = .ok (.aload_n 0, 1) := by decide +kernel
theorem dX7_init_5 : decode cX7_init 5 = .ok (.new 9, 3) := by decide +kernel
theorem dX7_init_8 : decode cX7_init 8 = .ok (.dup, 1) := by decide +kernel
theorem dX7_init_9 : decode cX7_init 9 = .ok (.invokespecial 11, 3) := by decide +kernel
theorem dX7_init_12 : decode cX7_init 12 = .ok (.putfield 12, 3) := by decide +kernel
theorem dX7_init_15 : decode cX7_init 15 = .ok (.aload_n 0, 1) := by decide +kernel
theorem dX7_init_16 : decode cX7_init 16 = .ok (.new 16, 3) := by decide +kernel
theorem dX7_init_19 : decode cX7_init 19 = .ok (.dup, 1) := by decide +kernel
theorem dX7_init_20 : decode cX7_init 20 = .ok (.invokespecial 18, 3) := by decide +kernel
theorem dX7_init_23 : decode cX7_init 23 = .ok (.putfield 19, 3) := by decide +kernel
theorem dX7_init_26 : decode cX7_init 26 = .ok (.aload_n 0, 1) := by decide +kernel
theorem dX7_init_27 : decode cX7_init 27 = .ok (.aload_n 0, 1) := by decide +kernel
theorem dX7_init_28 : decode cX7_init 28 = .ok (.getfield 19, 3) := by decide +kernel
theorem dX7_init_31 : decode cX7_init 31 = .ok (.getfield 23, 3) := by decide +kernel
theorem dX7_init_34 : decode cX7_init 34 = .ok (.putfield 27, 3) := by decide +kernel
theorem dX7_init_37 : decode cX7_init 37 = .ok (.aload_n 0, 1) := by decide +kernel
theorem dX7_init_38 : decode cX7_init 38 = .ok (.aload_n 0, 1) := by decide +kernel
theorem dX7_init_39 : decode cX7_init 39 = .ok (.getfield 19, 3) := by decide +kernel
theorem dX7_init_42 : decode cX7_init 42 = .ok (.getfield 30, 3) := by decide +kernel
theorem dX7_init_45 : decode cX7_init 45 = .ok (.putfield 34, 3) := by decide +kernel
theorem dX7_init_48 : decode cX7_init 48 = .ok (.aload_n 0, 1) := by decide +kernel
theorem dX7_init_49 : decode cX7_init 49 = .ok (.new 37, 3) := by decide +kernel
theorem dX7_init_52 : decode cX7_init 52 = .ok (.dup, 1) := by decide +kernel
theorem dX7_init_53 : decode cX7_init 53 = .ok (.invokespecial 39, 3) := by decide +kernel
theorem dX7_init_56 : decode cX7_init 56 = .ok (.putfield 40, 3) := by decide +kernel
theorem dX7_init_59 : decode cX7_init 59 = .ok (.aload_n 0, 1) := by decide +kernel
theorem dX7_init_60 : decode cX7_init 60 = .ok (.new 43, 3) := by decide +kernel
theorem dX7_init_63 : decode cX7_init 63 = .ok (.dup, 1) := by decide +kernel
theorem dX7_init_64 : decode cX7_init 64 = .ok (.invokespecial 45, 3) := by decide +kernel
theorem dX7_init_67 : decode cX7_init 67 = .ok (.putfield 46, 3) := by decide +kernel
theorem dX7_init_70 : decode cX7_init 70 = .ok (.aload_n 0, 1) := by decide +kernel
theorem dX7_init_71 : decode cX7_init 71 = .ok (.iconst 2, 1) := by decide +kernel
theorem dX7_init_72 : decode cX7_init 72 = .ok (.anewarray 50, 3) := by decide +kernel
theorem dX7_init_75 : decode cX7_init 75 = .ok (.putfield 52, 3) := by decide +kernel
theorem dX7_init_78 : decode cX7_init 78 = .ok (.aload_n 0, 1) := by decide +kernel
theorem dX7_init_79 : decode cX7_init 79 = .ok (.iconst 2, 1) := by decide +kernel
theorem dX7_init_80 : decode cX7_init 80 = .ok (.newarray .boolean, 2) := by decide +kernel
theorem dX7_init_82 : decode cX7_init 82 = .ok (.putfield 56, 3) := by decide +kernel
theorem dX7_init_85 : decode cX7_init 85 = .ok (.aload_n 0, 1) := by decide +kernel
theorem dX7_init_86 : decode cX7_init 86 = .ok (.new 60, 3) := by decide +kernel
theorem dX7_init_89 : decode cX7_init 89 = .ok (.dup, 1) := by decide +kernel
theorem dX7_init_90 : decode cX7_init 90 = .ok (.invokespecial 62, 3) := by decide +kernel
theorem dX7_init_93 : decode cX7_init 93 = .ok (.putfield 63, 3) := by decide +kernel
theorem dX7_init_96 : decode cX7_init 96 = .ok (.aload_n 0, 1) := by decide +kernel
theorem dX7_init_97 : decode cX7_init 97 = .ok (.new 67, 3) := by decide +kernel
theorem dX7_init_100 : decode cX7_init 100 = .ok (.dup, 1) := by decide +kernel
theorem dX7_init_101 : decode cX7_init 101 = .ok (.invokespecial 69, 3) := by decide +kernel
theorem dX7_init_104 : decode cX7_init 104 = .ok (.putfield 70, 3) := by decide +kernel
theorem dX7_init_107 : decode cX7_init 107 = .ok (.aload_n 0, 1) := by decide +kernel
theorem dX7_init_108 : decode cX7_init 108 = .ok (.bipush 100, 2) := by decide +kernel
theorem dX7_init_110 : decode cX7_init 110 = .ok (.newarray .int, 2) := by decide +kernel
theorem dX7_init_112 : decode cX7_init 112 = .ok (.putfield 74, 3) := by decide +kernel
theorem dX7_init_115 : decode cX7_init 115 = .ok (.aload_n 0, 1) := by decide +kernel
theorem dX7_init_116 : decode cX7_init 116 = .ok (.iconst (-1), 1) := by decide +kernel
theorem dX7_init_117 : decode cX7_init 117 = .ok (.putfield 78, 3) := by decide +kernel
theorem dX7_init_120 : decode cX7_init 120 = .ok (.iconst 0, 1) := by decide +kernel
theorem dX7_init_121 : decode cX7_init 121 = .ok (.istore_n 1, 1) := by decide +kernel
theorem dX7_init_122 : decode cX7_init 122 = .ok (.iload_n 1, 1) := by decide +kernel
theorem dX7_init_123 : decode cX7_init 123 = .ok (.iconst 2, 1) := by decide +kernel
theorem dX7_init_124 : decode cX7_init 124 = .ok (.if_icmp .ge 22, 3) := by decide +kernel
theorem dX7_init_127 : decode cX7_init 127 = .ok (.aload_n 0, 1) := by decide +kernel
theorem dX7_init_128 : decode cX7_init 128 = .ok (.getfield 52, 3) := by decide +kernel
theorem dX7_init_131 : decode cX7_init 131 = .ok (.iload_n 1, 1) := by decide +kernel
theorem dX7_init_132 : decode cX7_init 132 = .ok (.new 50, 3) := by decide +kernel
theorem dX7_init_135 : decode cX7_init 135 = .ok (.dup, 1) := by decide +kernel
theorem dX7_init_136 : decode cX7_init 136 = .ok (.invokespecial 82, 3) := by decide +kernel
theorem dX7_init_139 : decode cX7_init 139 = .ok (.aastore, 1) := by decide +kernel
theorem dX7_init_140 : decode cX7_init 140 = .ok (.iinc 1 1, 3) := by decide +kernel
theorem dX7_init_143 : decode cX7_init 143 = .ok (.goto (-21), 3) := by decide +kernel
theorem dX7_init_146 : decode cX7_init 146 = .ok (.return_, 1) := by decide +kernel
theorem dX7_feed_0 : decode cX7_feed 0 = .ok (.iload_n 1, 1) := by decide +kernel
theorem dX7_feed_1 : decode cX7_feed 1 = .ok (.ifCond .lt 10, 3) := by decide +kernel
theorem dX7_feed_4 : decode cX7_feed 4 = .ok (.iload_n 1, 1) := by decide +kernel
theorem dX7_feed_5 : decode cX7_feed 5 = .ok (.sipush 255, 3) := by decide +kernel
theorem dX7_feed_8 : decode cX7_feed 8 = .ok (.if_icmp .le 6, 3) := by decide +kernel
theorem dX7_feed_11 : decode cX7_feed 11 = .ok (.ldc 83, 2) := by decide +kernel
theorem dX7_feed_13 : decode cX7_feed 13 = .ok (.ireturn, 1) := by decide +kernel
theorem dX7_feed_14 : decode cX7_feed 14 = .ok (.aload_n 0, 1) := by decide +kernel
theorem dX7_feed_15 : decode cX7_feed 15 = .ok (.getfield 12, 3) := by decide +kernel
theorem dX7_feed_18 : decode cX7_feed 18 = .ok (.invokevirtual 84, 3) := by decide +kernel
theorem dX7_feed_21 : decode cX7_feed 21 = .ok (.ifCond .eq 6, 3) := by decide +kernel
theorem dX7_feed_24 : decode cX7_feed 24 = .ok (.ldc 88, 2) := by decide +kernel
theorem dX7_feed_26 : decode cX7_feed 26 = .ok (.ireturn, 1) := by decide +kernel
theorem dX7_feed_27 : decode cX7_feed 27 = .ok (.aload_n 0, 1) := by decide +kernel
theorem dX7_feed_28 : decode cX7_feed 28 = .ok (.getfield 12, 3) := by decide +kernel
theorem dX7_feed_31 : decode cX7_feed 31 = .ok (.iload_n 1, 1) := by decide +kernel
theorem dX7_feed_32 : decode cX7_feed 32 = .ok (.i2c, 1) := by decide +kernel
theorem dX7_feed_33 : decode cX7_feed 33 = .ok (.invokevirtual 89, 3) := by decide +kernel
theorem dX7_feed_36 : decode cX7_feed 36 = .ok (.aload_n 0, 1) := by decide +kernel
theorem dX7_feed_37 : decode cX7_feed 37 = .ok (.getfield 12, 3) := by decide +kernel
theorem dX7_feed_40 : decode cX7_feed 40 = .ok (.getfield 93, 3) := by decide +kernel
theorem dX7_feed_43 : decode cX7_feed 43 = .ok (.ireturn, 1) := by decide +kernel
theorem dX7_desk_0 : decode cX7_desk 0 = .ok (.aload_n 0, 1) := by decide +kernel
theorem dX7_desk_1 : decode cX7_desk 1 = .ok (.getfield 12, 3) := by decide +kernel
theorem dX7_desk_4 : decode cX7_desk 4 = .ok (.aload_n 0, 1) := by decide +kernel
theorem dX7_desk_5 : decode cX7_desk 5 = .ok (.getfield 40, 3) := by decide +kernel
theorem dX7_desk_8 : decode cX7_desk 8 = .ok (.invokevirtual 96, 3) := by decide +kernel
theorem dX7_desk_11 : decode cX7_desk 11 = .ok (.istore_n 1, 1) := by decide +kernel
theorem dX7_desk_12 : decode cX7_desk 12 = .ok (.aload_n 0, 1) := by decide +kernel
theorem dX7_desk_13 : decode cX7_desk 13 = .ok (.aload_n 0, 1) := by decide +kernel
theorem dX7_desk_14 : decode cX7_desk 14 = .ok (.getfield 12, 3) := by decide +kernel
theorem dX7_desk_17 : decode cX7_desk 17 = .ok (.getfield 100, 3) := by decide +kernel
theorem dX7_desk_20 : decode cX7_desk 20 = .ok (.putfield 78, 3) := by decide +kernel
theorem dX7_desk_23 : decode cX7_desk 23 = .ok (.iload_n 1, 1) := by decide +kernel
theorem dX7_desk_24 : decode cX7_desk 24 = .ok (.ifCond .eq 8, 3) := by decide +kernel
theorem dX7_desk_27 : decode cX7_desk 27 = .ok (.bipush (-10), 2) := by decide +kernel
theorem dX7_desk_29 : decode cX7_desk 29 = .ok (.iload_n 1, 1) := by decide +kernel
theorem dX7_desk_30 : decode cX7_desk 30 = .ok (.isub, 1) := by decide +kernel
theorem dX7_desk_31 : decode cX7_desk 31 = .ok (.ireturn, 1) := by decide +kernel
theorem dX7_desk_32 : decode cX7_desk 32 = .ok (.aload_n 0, 1) := by decide +kernel
theorem dX7_desk_33 : decode cX7_desk 33 = .ok (.getfield 27, 3) := by decide +kernel
theorem dX7_desk_36 : decode cX7_desk 36 = .ok (.aload_n 0, 1) := by decide +kernel
theorem dX7_desk_37 : decode cX7_desk 37 = .ok (.getfield 40, 3) := by decide +kernel
theorem dX7_desk_40 : decode cX7_desk 40 = .ok (.invokevirtual 101, 3) := by decide +kernel
theorem dX7_desk_43 : decode cX7_desk 43 = .ok (.aload_n 0, 1) := by decide +kernel
theorem dX7_desk_44 : decode cX7_desk 44 = .ok (.getfield 34, 3) := by decide +kernel
theorem dX7_desk_47 : decode cX7_desk 47 = .ok (.aload_n 0, 1) := by decide +kernel
theorem dX7_desk_48 : decode cX7_desk 48 = .ok (.getfield 27, 3) := by decide +kernel
theorem dX7_desk_51 : decode cX7_desk 51 = .ok (.invokevirtual 105, 3) := by decide +kernel
theorem dX7_desk_54 : decode cX7_desk 54 = .ok (.aload_n 0, 1) := by decide +kernel
theorem dX7_desk_55 : decode cX7_desk 55 = .ok (.getfield 46, 3) := by decide +kernel
theorem dX7_desk_58 : decode cX7_desk 58 = .ok (.invokevirtual 108, 3) := by decide +kernel
theorem dX7_desk_61 : decode cX7_desk 61 = .ok (.aload_n 0, 1) := by decide +kernel
theorem dX7_desk_62 : decode cX7_desk 62 = .ok (.getfield 63, 3) := by decide +kernel
theorem dX7_desk_65 : decode cX7_desk 65 = .ok (.invokevirtual 111, 3) := by decide +kernel
theorem dX7_desk_68 : decode cX7_desk 68 = .ok (.aload_n 0, 1) := by decide +kernel
theorem dX7_desk_69 : decode cX7_desk 69 = .ok (.getfield 70, 3) := by decide +kernel
theorem dX7_desk_72 : decode cX7_desk 72 = .ok (.invokevirtual 112, 3) := by decide +kernel
theorem dX7_desk_75 : decode cX7_desk 75 = .ok (.iconst 0, 1) := by decide +kernel
theorem dX7_desk_76 : decode cX7_desk 76 = .ok (.istore_n 2, 1) := by decide +kernel
theorem dX7_desk_77 : decode cX7_desk 77 = .ok (.iload_n 2, 1) := by decide +kernel
theorem dX7_desk_78 : decode cX7_desk 78 = .ok (.iconst 2, 1) := by decide +kernel
theorem dX7_desk_79 : decode cX7_desk 79 = .ok (.if_icmp .ge 16, 3) := by decide +kernel
theorem dX7_desk_82 : decode cX7_desk 82 = .ok (.aload_n 0, 1) := by decide +kernel
theorem dX7_desk_83 : decode cX7_desk 83 = .ok (.getfield 56, 3) := by decide +kernel
theorem dX7_desk_86 : decode cX7_desk 86 = .ok (.iload_n 2, 1) := by decide +kernel
theorem dX7_desk_87 : decode cX7_desk 87 = .ok (.iconst 0, 1) := by decide +kernel
theorem dX7_desk_88 : decode cX7_desk 88 = .ok (.bastore, 1) := by decide +kernel
theorem dX7_desk_89 : decode cX7_desk 89 = .ok (.iinc 2 1, 3) := by decide +kernel
theorem dX7_desk_92 : decode cX7_desk 92 = .ok (.goto (-15), 3) := by decide +kernel
theorem dX7_desk_95 : decode cX7_desk 95 = .ok (.aload_n 0, 1) := by decide +kernel
theorem dX7_desk_96 : decode cX7_desk 96 = .ok (.getfield 27, 3) := by decide +kernel
theorem dX7_desk_99 : decode cX7_desk 99 = .ok (.getfield 115, 3) := by decide +kernel
theorem dX7_desk_102 : decode cX7_desk 102 = .ok (.ireturn, 1) := by decide +kernel
theorem dX7_fault_0 : decode cX7_fault 0 = .ok (.aload_n 0, 1) := by decide +kernel
theorem dX7_fault_1 : decode cX7_fault 1 = .ok (.getfield 78, 3) := by decide +kernel
theorem dX7_fault_4 : decode cX7_fault 4 = .ok (.ireturn, 1) := by decide +kernel
theorem dX7_told_0 : decode cX7_told 0 = .ok (.iload_n 1, 1) := by decide +kernel
theorem dX7_told_1 : decode cX7_told 1 = .ok (.tableswitch 177 0 10 #[59, 67, 89, 105, 113, 121, 129, 137, 145, 153, 161], 59) := by decide +kernel
theorem dX7_told_60 : decode cX7_told 60 = .ok (.aload_n 0, 1) := by decide +kernel
theorem dX7_told_61 : decode cX7_told 61 = .ok (.getfield 27, 3) := by decide +kernel
theorem dX7_told_64 : decode cX7_told 64 = .ok (.getfield 118, 3) := by decide +kernel
theorem dX7_told_67 : decode cX7_told 67 = .ok (.ireturn, 1) := by decide +kernel
theorem dX7_told_68 : decode cX7_told 68 = .ok (.aload_n 0, 1) := by decide +kernel
theorem dX7_told_69 : decode cX7_told 69 = .ok (.getfield 27, 3) := by decide +kernel
theorem dX7_told_72 : decode cX7_told 72 = .ok (.getfield 121, 3) := by decide +kernel
theorem dX7_told_75 : decode cX7_told 75 = .ok (.ifCond .eq 13, 3) := by decide +kernel
theorem dX7_told_78 : decode cX7_told 78 = .ok (.aload_n 0, 1) := by decide +kernel
theorem dX7_told_79 : decode cX7_told 79 = .ok (.getfield 27, 3) := by decide +kernel
theorem dX7_told_82 : decode cX7_told 82 = .ok (.getfield 125, 3) := by decide +kernel
theorem dX7_told_85 : decode cX7_told 85 = .ok (.goto 4, 3) := by decide +kernel
theorem dX7_told_88 : decode cX7_told 88 = .ok (.iconst 0, 1) := by decide +kernel
theorem dX7_told_89 : decode cX7_told 89 = .ok (.ireturn, 1) := by decide +kernel
theorem dX7_told_90 : decode cX7_told 90 = .ok (.aload_n 0, 1) := by decide +kernel
theorem dX7_told_91 : decode cX7_told 91 = .ok (.getfield 27, 3) := by decide +kernel
theorem dX7_told_94 : decode cX7_told 94 = .ok (.getfield 128, 3) := by decide +kernel
theorem dX7_told_97 : decode cX7_told 97 = .ok (.ifCond .eq 7, 3) := by decide +kernel
theorem dX7_told_100 : decode cX7_told 100 = .ok (.iconst 1, 1) := by decide +kernel
theorem dX7_told_101 : decode cX7_told 101 = .ok (.goto 4, 3) := by decide +kernel
theorem dX7_told_104 : decode cX7_told 104 = .ok (.iconst 0, 1) := by decide +kernel
theorem dX7_told_105 : decode cX7_told 105 = .ok (.ireturn, 1) := by decide +kernel
theorem dX7_told_106 : decode cX7_told 106 = .ok (.aload_n 0, 1) := by decide +kernel
theorem dX7_told_107 : decode cX7_told 107 = .ok (.getfield 27, 3) := by decide +kernel
theorem dX7_told_110 : decode cX7_told 110 = .ok (.getfield 115, 3) := by decide +kernel
theorem dX7_told_113 : decode cX7_told 113 = .ok (.ireturn, 1) := by decide +kernel
theorem dX7_told_114 : decode cX7_told 114 = .ok (.aload_n 0, 1) := by decide +kernel
theorem dX7_told_115 : decode cX7_told 115 = .ok (.getfield 12, 3) := by decide +kernel
theorem dX7_told_118 : decode cX7_told 118 = .ok (.getfield 93, 3) := by decide +kernel
theorem dX7_told_121 : decode cX7_told 121 = .ok (.ireturn, 1) := by decide +kernel
theorem dX7_told_122 : decode cX7_told 122 = .ok (.aload_n 0, 1) := by decide +kernel
theorem dX7_told_123 : decode cX7_told 123 = .ok (.getfield 34, 3) := by decide +kernel
theorem dX7_told_126 : decode cX7_told 126 = .ok (.getfield 131, 3) := by decide +kernel
theorem dX7_told_129 : decode cX7_told 129 = .ok (.ireturn, 1) := by decide +kernel
theorem dX7_told_130 : decode cX7_told 130 = .ok (.aload_n 0, 1) := by decide +kernel
theorem dX7_told_131 : decode cX7_told 131 = .ok (.getfield 34, 3) := by decide +kernel
theorem dX7_told_134 : decode cX7_told 134 = .ok (.getfield 134, 3) := by decide +kernel
theorem dX7_told_137 : decode cX7_told 137 = .ok (.ireturn, 1) := by decide +kernel
theorem dX7_told_138 : decode cX7_told 138 = .ok (.aload_n 0, 1) := by decide +kernel
theorem dX7_told_139 : decode cX7_told 139 = .ok (.getfield 63, 3) := by decide +kernel
theorem dX7_told_142 : decode cX7_told 142 = .ok (.getfield 137, 3) := by decide +kernel
theorem dX7_told_145 : decode cX7_told 145 = .ok (.ireturn, 1) := by decide +kernel
theorem dX7_told_146 : decode cX7_told 146 = .ok (.aload_n 0, 1) := by decide +kernel
theorem dX7_told_147 : decode cX7_told 147 = .ok (.getfield 63, 3) := by decide +kernel
theorem dX7_told_150 : decode cX7_told 150 = .ok (.getfield 140, 3) := by decide +kernel
theorem dX7_told_153 : decode cX7_told 153 = .ok (.ireturn, 1) := by decide +kernel
theorem dX7_told_154 : decode cX7_told 154 = .ok (.aload_n 0, 1) := by decide +kernel
theorem dX7_told_155 : decode cX7_told 155 = .ok (.getfield 46, 3) := by decide +kernel
theorem dX7_told_158 : decode cX7_told 158 = .ok (.getfield 143, 3) := by decide +kernel
theorem dX7_told_161 : decode cX7_told 161 = .ok (.ireturn, 1) := by decide +kernel
theorem dX7_told_162 : decode cX7_told 162 = .ok (.aload_n 0, 1) := by decide +kernel
theorem dX7_told_163 : decode cX7_told 163 = .ok (.getfield 27, 3) := by decide +kernel
theorem dX7_told_166 : decode cX7_told 166 = .ok (.getfield 121, 3) := by decide +kernel
theorem dX7_told_169 : decode cX7_told 169 = .ok (.ifCond .eq 7, 3) := by decide +kernel
theorem dX7_told_172 : decode cX7_told 172 = .ok (.iconst 1, 1) := by decide +kernel
theorem dX7_told_173 : decode cX7_told 173 = .ok (.goto 4, 3) := by decide +kernel
theorem dX7_told_176 : decode cX7_told 176 = .ok (.iconst 0, 1) := by decide +kernel
theorem dX7_told_177 : decode cX7_told 177 = .ok (.ireturn, 1) := by decide +kernel
theorem dX7_told_178 : decode cX7_told 178 = .ok (.ldc 83, 2) := by decide +kernel
theorem dX7_told_180 : decode cX7_told 180 = .ok (.ireturn, 1) := by decide +kernel
theorem dX7_side_0 : decode cX7_side 0 = .ok (.aload_n 0, 1) := by decide +kernel
theorem dX7_side_1 : decode cX7_side 1 = .ok (.getfield 27, 3) := by decide +kernel
theorem dX7_side_4 : decode cX7_side 4 = .ok (.iload_n 1, 1) := by decide +kernel
theorem dX7_side_5 : decode cX7_side 5 = .ok (.invokevirtual 146, 3) := by decide +kernel
theorem dX7_side_8 : decode cX7_side 8 = .ok (.ifCond .ne 6, 3) := by decide +kernel
theorem dX7_side_11 : decode cX7_side 11 = .ok (.ldc 150, 2) := by decide +kernel
theorem dX7_side_13 : decode cX7_side 13 = .ok (.ireturn, 1) := by decide +kernel
theorem dX7_side_14 : decode cX7_side 14 = .ok (.iload_n 2, 1) := by decide +kernel
theorem dX7_side_15 : decode cX7_side 15 = .ok (.iconst (-1), 1) := by decide +kernel
theorem dX7_side_16 : decode cX7_side 16 = .ok (.if_icmp .ne 13, 3) := by decide +kernel
theorem dX7_side_19 : decode cX7_side 19 = .ok (.aload_n 0, 1) := by decide +kernel
theorem dX7_side_20 : decode cX7_side 20 = .ok (.getfield 27, 3) := by decide +kernel
theorem dX7_side_23 : decode cX7_side 23 = .ok (.getfield 151, 3) := by decide +kernel
theorem dX7_side_26 : decode cX7_side 26 = .ok (.iload_n 1, 1) := by decide +kernel
theorem dX7_side_27 : decode cX7_side 27 = .ok (.iaload, 1) := by decide +kernel
theorem dX7_side_28 : decode cX7_side 28 = .ok (.ireturn, 1) := by decide +kernel
theorem dX7_side_29 : decode cX7_side 29 = .ok (.aload_n 0, 1) := by decide +kernel
theorem dX7_side_30 : decode cX7_side 30 = .ok (.getfield 27, 3) := by decide +kernel
theorem dX7_side_33 : decode cX7_side 33 = .ok (.iload_n 1, 1) := by decide +kernel
theorem dX7_side_34 : decode cX7_side 34 = .ok (.iload_n 2, 1) := by decide +kernel
theorem dX7_side_35 : decode cX7_side 35 = .ok (.invokevirtual 154, 3) := by decide +kernel
theorem dX7_side_38 : decode cX7_side 38 = .ok (.ifCond .eq 19, 3) := by decide +kernel
theorem dX7_side_41 : decode cX7_side 41 = .ok (.aload_n 0, 1) := by decide +kernel
theorem dX7_side_42 : decode cX7_side 42 = .ok (.getfield 34, 3) := by decide +kernel
theorem dX7_side_45 : decode cX7_side 45 = .ok (.getfield 158, 3) := by decide +kernel
theorem dX7_side_48 : decode cX7_side 48 = .ok (.iload_n 1, 1) := by decide +kernel
theorem dX7_side_49 : decode cX7_side 49 = .ok (.iload_n 2, 1) := by decide +kernel
theorem dX7_side_50 : decode cX7_side 50 = .ok (.invokestatic 161, 3) := by decide +kernel
theorem dX7_side_53 : decode cX7_side 53 = .ok (.iaload, 1) := by decide +kernel
theorem dX7_side_54 : decode cX7_side 54 = .ok (.goto 5, 3) := by decide +kernel
theorem dX7_side_57 : decode cX7_side 57 = .ok (.ldc 83, 2) := by decide +kernel
theorem dX7_side_59 : decode cX7_side 59 = .ok (.ireturn, 1) := by decide +kernel
theorem dX7_turned_0 : decode cX7_turned 0 = .ok (.iload_n 1, 1) := by decide +kernel
theorem dX7_turned_1 : decode cX7_turned 1 = .ok (.invokestatic 165, 3) := by decide +kernel
theorem dX7_turned_4 : decode cX7_turned 4 = .ok (.ifCond .eq 15, 3) := by decide +kernel
theorem dX7_turned_7 : decode cX7_turned 7 = .ok (.aload_n 0, 1) := by decide +kernel
theorem dX7_turned_8 : decode cX7_turned 8 = .ok (.getfield 27, 3) := by decide +kernel
theorem dX7_turned_11 : decode cX7_turned 11 = .ok (.getfield 168, 3) := by decide +kernel
theorem dX7_turned_14 : decode cX7_turned 14 = .ok (.iload_n 1, 1) := by decide +kernel
theorem dX7_turned_15 : decode cX7_turned 15 = .ok (.iaload, 1) := by decide +kernel
theorem dX7_turned_16 : decode cX7_turned 16 = .ok (.goto 5, 3) := by decide +kernel
theorem dX7_turned_19 : decode cX7_turned 19 = .ok (.ldc 150, 2) := by decide +kernel
theorem dX7_turned_21 : decode cX7_turned 21 = .ok (.ireturn, 1) := by decide +kernel
theorem dX7_shows_0 : decode cX7_shows 0 = .ok (.aload_n 0, 1) := by decide +kernel
theorem dX7_shows_1 : decode cX7_shows 1 = .ok (.getfield 27, 3) := by decide +kernel
theorem dX7_shows_4 : decode cX7_shows 4 = .ok (.iload_n 1, 1) := by decide +kernel
theorem dX7_shows_5 : decode cX7_shows 5 = .ok (.invokevirtual 146, 3) := by decide +kernel
theorem dX7_shows_8 : decode cX7_shows 8 = .ok (.ifCond .eq 19, 3) := by decide +kernel
theorem dX7_shows_11 : decode cX7_shows 11 = .ok (.aload_n 0, 1) := by decide +kernel
theorem dX7_shows_12 : decode cX7_shows 12 = .ok (.getfield 34, 3) := by decide +kernel
theorem dX7_shows_15 : decode cX7_shows 15 = .ok (.aload_n 0, 1) := by decide +kernel
theorem dX7_shows_16 : decode cX7_shows 16 = .ok (.getfield 27, 3) := by decide +kernel
theorem dX7_shows_19 : decode cX7_shows 19 = .ok (.iload_n 1, 1) := by decide +kernel
theorem dX7_shows_20 : decode cX7_shows 20 = .ok (.iconst (-1), 1) := by decide +kernel
theorem dX7_shows_21 : decode cX7_shows 21 = .ok (.invokevirtual 171, 3) := by decide +kernel
theorem dX7_shows_24 : decode cX7_shows 24 = .ok (.goto 5, 3) := by decide +kernel
theorem dX7_shows_27 : decode cX7_shows 27 = .ok (.ldc 150, 2) := by decide +kernel
theorem dX7_shows_29 : decode cX7_shows 29 = .ok (.ireturn, 1) := by decide +kernel
theorem dX7_paint_0 : decode cX7_paint 0 = .ok (.aload_n 0, 1) := by decide +kernel
theorem dX7_paint_1 : decode cX7_paint 1 = .ok (.getfield 27, 3) := by decide +kernel
theorem dX7_paint_4 : decode cX7_paint 4 = .ok (.iload_n 1, 1) := by decide +kernel
theorem dX7_paint_5 : decode cX7_paint 5 = .ok (.invokevirtual 146, 3) := by decide +kernel
theorem dX7_paint_8 : decode cX7_paint 8 = .ok (.ifCond .eq 10, 3) := by decide +kernel
theorem dX7_paint_11 : decode cX7_paint 11 = .ok (.iload_n 3, 1) := by decide +kernel
theorem dX7_paint_12 : decode cX7_paint 12 = .ok (.invokestatic 165, 3) := by decide +kernel
theorem dX7_paint_15 : decode cX7_paint 15 = .ok (.ifCond .ne 6, 3) := by decide +kernel
theorem dX7_paint_18 : decode cX7_paint 18 = .ok (.ldc 150, 2) := by decide +kernel
theorem dX7_paint_20 : decode cX7_paint 20 = .ok (.ireturn, 1) := by decide +kernel
theorem dX7_paint_21 : decode cX7_paint 21 = .ok (.aload_n 0, 1) := by decide +kernel
theorem dX7_paint_22 : decode cX7_paint 22 = .ok (.getfield 27, 3) := by decide +kernel
theorem dX7_paint_25 : decode cX7_paint 25 = .ok (.iload_n 1, 1) := by decide +kernel
theorem dX7_paint_26 : decode cX7_paint 26 = .ok (.iload_n 2, 1) := by decide +kernel
theorem dX7_paint_27 : decode cX7_paint 27 = .ok (.invokevirtual 154, 3) := by decide +kernel
theorem dX7_paint_30 : decode cX7_paint 30 = .ok (.ifCond .ne 6, 3) := by decide +kernel
theorem dX7_paint_33 : decode cX7_paint 33 = .ok (.ldc 83, 2) := by decide +kernel
theorem dX7_paint_35 : decode cX7_paint 35 = .ok (.ireturn, 1) := by decide +kernel
theorem dX7_paint_36 : decode cX7_paint 36 = .ok (.aload_n 0, 1) := by decide +kernel
theorem dX7_paint_37 : decode cX7_paint 37 = .ok (.getfield 46, 3) := by decide +kernel
theorem dX7_paint_40 : decode cX7_paint 40 = .ok (.aload_n 0, 1) := by decide +kernel
theorem dX7_paint_41 : decode cX7_paint 41 = .ok (.getfield 34, 3) := by decide +kernel
theorem dX7_paint_44 : decode cX7_paint 44 = .ok (.invokevirtual 175, 3) := by decide +kernel
theorem dX7_paint_47 : decode cX7_paint 47 = .ok (.aload_n 0, 1) := by decide +kernel
theorem dX7_paint_48 : decode cX7_paint 48 = .ok (.getfield 34, 3) := by decide +kernel
theorem dX7_paint_51 : decode cX7_paint 51 = .ok (.aload_n 0, 1) := by decide +kernel
theorem dX7_paint_52 : decode cX7_paint 52 = .ok (.getfield 27, 3) := by decide +kernel
theorem dX7_paint_55 : decode cX7_paint 55 = .ok (.iload_n 1, 1) := by decide +kernel
theorem dX7_paint_56 : decode cX7_paint 56 = .ok (.iload_n 2, 1) := by decide +kernel
theorem dX7_paint_57 : decode cX7_paint 57 = .ok (.iload_n 3, 1) := by decide +kernel
theorem dX7_paint_58 : decode cX7_paint 58 = .ok (.invokevirtual 179, 3) := by decide +kernel
theorem dX7_paint_61 : decode cX7_paint 61 = .ok (.aload_n 0, 1) := by decide +kernel
theorem dX7_paint_62 : decode cX7_paint 62 = .ok (.getfield 34, 3) := by decide +kernel
theorem dX7_paint_65 : decode cX7_paint 65 = .ok (.getfield 134, 3) := by decide +kernel
theorem dX7_paint_68 : decode cX7_paint 68 = .ok (.ireturn, 1) := by decide +kernel
theorem dX7_lose_0 : decode cX7_lose 0 = .ok (.aload_n 0, 1) := by decide +kernel
theorem dX7_lose_1 : decode cX7_lose 1 = .ok (.getfield 27, 3) := by decide +kernel
theorem dX7_lose_4 : decode cX7_lose 4 = .ok (.iload_n 1, 1) := by decide +kernel
theorem dX7_lose_5 : decode cX7_lose 5 = .ok (.invokevirtual 146, 3) := by decide +kernel
theorem dX7_lose_8 : decode cX7_lose 8 = .ok (.ifCond .ne 6, 3) := by decide +kernel
theorem dX7_lose_11 : decode cX7_lose 11 = .ok (.ldc 150, 2) := by decide +kernel
theorem dX7_lose_13 : decode cX7_lose 13 = .ok (.ireturn, 1) := by decide +kernel
theorem dX7_lose_14 : decode cX7_lose 14 = .ok (.aload_n 0, 1) := by decide +kernel
theorem dX7_lose_15 : decode cX7_lose 15 = .ok (.getfield 46, 3) := by decide +kernel
theorem dX7_lose_18 : decode cX7_lose 18 = .ok (.aload_n 0, 1) := by decide +kernel
theorem dX7_lose_19 : decode cX7_lose 19 = .ok (.getfield 34, 3) := by decide +kernel
theorem dX7_lose_22 : decode cX7_lose 22 = .ok (.invokevirtual 175, 3) := by decide +kernel
theorem dX7_lose_25 : decode cX7_lose 25 = .ok (.aload_n 0, 1) := by decide +kernel
theorem dX7_lose_26 : decode cX7_lose 26 = .ok (.getfield 34, 3) := by decide +kernel
theorem dX7_lose_29 : decode cX7_lose 29 = .ok (.iload_n 1, 1) := by decide +kernel
theorem dX7_lose_30 : decode cX7_lose 30 = .ok (.invokevirtual 183, 3) := by decide +kernel
theorem dX7_lose_33 : decode cX7_lose 33 = .ok (.ifCond .eq 7, 3) := by decide +kernel
theorem dX7_lose_36 : decode cX7_lose 36 = .ok (.iconst 1, 1) := by decide +kernel
theorem dX7_lose_37 : decode cX7_lose 37 = .ok (.goto 4, 3) := by decide +kernel
theorem dX7_lose_40 : decode cX7_lose 40 = .ok (.iconst 0, 1) := by decide +kernel
theorem dX7_lose_41 : decode cX7_lose 41 = .ok (.istore_n 3, 1) := by decide +kernel
theorem dX7_lose_42 : decode cX7_lose 42 = .ok (.aload_n 0, 1) := by decide +kernel
theorem dX7_lose_43 : decode cX7_lose 43 = .ok (.getfield 34, 3) := by decide +kernel
theorem dX7_lose_46 : decode cX7_lose 46 = .ok (.iload_n 2, 1) := by decide +kernel
theorem dX7_lose_47 : decode cX7_lose 47 = .ok (.ifCond .eq 17, 3) := by decide +kernel
theorem dX7_lose_50 : decode cX7_lose 50 = .ok (.aload_n 0, 1) := by decide +kernel
theorem dX7_lose_51 : decode cX7_lose 51 = .ok (.getfield 34, 3) := by decide +kernel
theorem dX7_lose_54 : decode cX7_lose 54 = .ok (.getfield 131, 3) := by decide +kernel
theorem dX7_lose_57 : decode cX7_lose 57 = .ok (.iconst 1, 1) := by decide +kernel
theorem dX7_lose_58 : decode cX7_lose 58 = .ok (.iload_n 1, 1) := by decide +kernel
theorem dX7_lose_59 : decode cX7_lose 59 = .ok (.ishl, 1) := by decide +kernel
theorem dX7_lose_60 : decode cX7_lose 60 = .ok (.ior, 1) := by decide +kernel
theorem dX7_lose_61 : decode cX7_lose 61 = .ok (.goto 16, 3) := by decide +kernel
theorem dX7_lose_64 : decode cX7_lose 64 = .ok (.aload_n 0, 1) := by decide +kernel
theorem dX7_lose_65 : decode cX7_lose 65 = .ok (.getfield 34, 3) := by decide +kernel
theorem dX7_lose_68 : decode cX7_lose 68 = .ok (.getfield 131, 3) := by decide +kernel
theorem dX7_lose_71 : decode cX7_lose 71 = .ok (.iconst 1, 1) := by decide +kernel
theorem dX7_lose_72 : decode cX7_lose 72 = .ok (.iload_n 1, 1) := by decide +kernel
theorem dX7_lose_73 : decode cX7_lose 73 = .ok (.ishl, 1) := by decide +kernel
theorem dX7_lose_74 : decode cX7_lose 74 = .ok (.iconst (-1), 1) := by decide +kernel
theorem dX7_lose_75 : decode cX7_lose 75 = .ok (.ixor, 1) := by decide +kernel
theorem dX7_lose_76 : decode cX7_lose 76 = .ok (.iand, 1) := by decide +kernel
theorem dX7_lose_77 : decode cX7_lose 77 = .ok (.putfield 131, 3) := by decide +kernel
theorem dX7_lose_80 : decode cX7_lose 80 = .ok (.iload_n 3, 1) := by decide +kernel
theorem dX7_lose_81 : decode cX7_lose 81 = .ok (.ireturn, 1) := by decide +kernel
theorem dX7_drift_0 : decode cX7_drift 0 = .ok (.iload_n 1, 1) := by decide +kernel
theorem dX7_drift_1 : decode cX7_drift 1 = .ok (.iconst 1, 1) := by decide +kernel
theorem dX7_drift_2 : decode cX7_drift 2 = .ok (.if_icmp .lt 9, 3) := by decide +kernel
theorem dX7_drift_5 : decode cX7_drift 5 = .ok (.iload_n 1, 1) := by decide +kernel
theorem dX7_drift_6 : decode cX7_drift 6 = .ok (.bipush 40, 2) := by decide +kernel
theorem dX7_drift_8 : decode cX7_drift 8 = .ok (.if_icmp .le 6, 3) := by decide +kernel
theorem dX7_drift_11 : decode cX7_drift 11 = .ok (.ldc 83, 2) := by decide +kernel
theorem dX7_drift_13 : decode cX7_drift 13 = .ok (.ireturn, 1) := by decide +kernel
theorem dX7_drift_14 : decode cX7_drift 14 = .ok (.aload_n 0, 1) := by decide +kernel
theorem dX7_drift_15 : decode cX7_drift 15 = .ok (.getfield 27, 3) := by decide +kernel
theorem dX7_drift_18 : decode cX7_drift 18 = .ok (.getfield 115, 3) := by decide +kernel
theorem dX7_drift_21 : decode cX7_drift 21 = .ok (.ifCond .ne 6, 3) := by decide +kernel
theorem dX7_drift_24 : decode cX7_drift 24 = .ok (.ldc 186, 2) := by decide +kernel
theorem dX7_drift_26 : decode cX7_drift 26 = .ok (.ireturn, 1) := by decide +kernel
theorem dX7_drift_27 : decode cX7_drift 27 = .ok (.aload_n 0, 1) := by decide +kernel
theorem dX7_drift_28 : decode cX7_drift 28 = .ok (.getfield 34, 3) := by decide +kernel
theorem dX7_drift_31 : decode cX7_drift 31 = .ok (.getfield 134, 3) := by decide +kernel
theorem dX7_drift_34 : decode cX7_drift 34 = .ok (.ldc 187, 2) := by decide +kernel
theorem dX7_drift_36 : decode cX7_drift 36 = .ok (.if_icmp .le 6, 3) := by decide +kernel
theorem dX7_drift_39 : decode cX7_drift 39 = .ok (.ldc 88, 2) := by decide +kernel
theorem dX7_drift_41 : decode cX7_drift 41 = .ok (.ireturn, 1) := by decide +kernel
theorem dX7_drift_42 : decode cX7_drift 42 = .ok (.aload_n 0, 1) := by decide +kernel
theorem dX7_drift_43 : decode cX7_drift 43 = .ok (.getfield 46, 3) := by decide +kernel
theorem dX7_drift_46 : decode cX7_drift 46 = .ok (.aload_n 0, 1) := by decide +kernel
theorem dX7_drift_47 : decode cX7_drift 47 = .ok (.getfield 34, 3) := by decide +kernel
theorem dX7_drift_50 : decode cX7_drift 50 = .ok (.invokevirtual 175, 3) := by decide +kernel
theorem dX7_drift_53 : decode cX7_drift 53 = .ok (.iconst 0, 1) := by decide +kernel
theorem dX7_drift_54 : decode cX7_drift 54 = .ok (.istore_n 2, 1) := by decide +kernel
theorem dX7_drift_55 : decode cX7_drift 55 = .ok (.iload_n 2, 1) := by decide +kernel
theorem dX7_drift_56 : decode cX7_drift 56 = .ok (.iload_n 1, 1) := by decide +kernel
theorem dX7_drift_57 : decode cX7_drift 57 = .ok (.if_icmp .ge 84, 3) := by decide +kernel
theorem dX7_drift_60 : decode cX7_drift 60 = .ok (.aload_n 0, 1) := by decide +kernel
theorem dX7_drift_61 : decode cX7_drift 61 = .ok (.getfield 34, 3) := by decide +kernel
theorem dX7_drift_64 : decode cX7_drift 64 = .ok (.aload_n 0, 1) := by decide +kernel
theorem dX7_drift_65 : decode cX7_drift 65 = .ok (.getfield 27, 3) := by decide +kernel
theorem dX7_drift_68 : decode cX7_drift 68 = .ok (.getfield 115, 3) := by decide +kernel
theorem dX7_drift_71 : decode cX7_drift 71 = .ok (.invokevirtual 188, 3) := by decide +kernel
theorem dX7_drift_74 : decode cX7_drift 74 = .ok (.istore_n 3, 1) := by decide +kernel
theorem dX7_drift_75 : decode cX7_drift 75 = .ok (.aload_n 0, 1) := by decide +kernel
theorem dX7_drift_76 : decode cX7_drift 76 = .ok (.getfield 27, 3) := by decide +kernel
theorem dX7_drift_79 : decode cX7_drift 79 = .ok (.iload_n 3, 1) := by decide +kernel
theorem dX7_drift_80 : decode cX7_drift 80 = .ok (.invokevirtual 146, 3) := by decide +kernel
theorem dX7_drift_83 : decode cX7_drift 83 = .ok (.ifCond .eq 22, 3) := by decide +kernel
theorem dX7_drift_86 : decode cX7_drift 86 = .ok (.aload_n 0, 1) := by decide +kernel
theorem dX7_drift_87 : decode cX7_drift 87 = .ok (.getfield 34, 3) := by decide +kernel
theorem dX7_drift_90 : decode cX7_drift 90 = .ok (.aload_n 0, 1) := by decide +kernel
theorem dX7_drift_91 : decode cX7_drift 91 = .ok (.getfield 27, 3) := by decide +kernel
theorem dX7_drift_94 : decode cX7_drift 94 = .ok (.getfield 151, 3) := by decide +kernel
theorem dX7_drift_97 : decode cX7_drift 97 = .ok (.iload_n 3, 1) := by decide +kernel
theorem dX7_drift_98 : decode cX7_drift 98 = .ok (.iaload, 1) := by decide +kernel
theorem dX7_drift_99 : decode cX7_drift 99 = .ok (.invokevirtual 188, 3) := by decide +kernel
theorem dX7_drift_102 : decode cX7_drift 102 = .ok (.goto 4, 3) := by decide +kernel
theorem dX7_drift_105 : decode cX7_drift 105 = .ok (.iconst 0, 1) := by decide +kernel
theorem dX7_drift_106 : decode cX7_drift 106 = .ok (.istore 4, 2) := by decide +kernel
theorem dX7_drift_108 : decode cX7_drift 108 = .ok (.aload_n 0, 1) := by decide +kernel
theorem dX7_drift_109 : decode cX7_drift 109 = .ok (.getfield 34, 3) := by decide +kernel
theorem dX7_drift_112 : decode cX7_drift 112 = .ok (.bipush 10, 2) := by decide +kernel
theorem dX7_drift_114 : decode cX7_drift 114 = .ok (.invokevirtual 188, 3) := by decide +kernel
theorem dX7_drift_117 : decode cX7_drift 117 = .ok (.istore 5, 2) := by decide +kernel
theorem dX7_drift_119 : decode cX7_drift 119 = .ok (.aload_n 0, 1) := by decide +kernel
theorem dX7_drift_120 : decode cX7_drift 120 = .ok (.getfield 34, 3) := by decide +kernel
theorem dX7_drift_123 : decode cX7_drift 123 = .ok (.aload_n 0, 1) := by decide +kernel
theorem dX7_drift_124 : decode cX7_drift 124 = .ok (.getfield 27, 3) := by decide +kernel
theorem dX7_drift_127 : decode cX7_drift 127 = .ok (.iload_n 3, 1) := by decide +kernel
theorem dX7_drift_128 : decode cX7_drift 128 = .ok (.iload 4, 2) := by decide +kernel
theorem dX7_drift_130 : decode cX7_drift 130 = .ok (.iload 5, 2) := by decide +kernel
theorem dX7_drift_132 : decode cX7_drift 132 = .ok (.invokevirtual 179, 3) := by decide +kernel
theorem dX7_drift_135 : decode cX7_drift 135 = .ok (.iinc 2 1, 3) := by decide +kernel
theorem dX7_drift_138 : decode cX7_drift 138 = .ok (.goto (-83), 3) := by decide +kernel
theorem dX7_drift_141 : decode cX7_drift 141 = .ok (.aload_n 0, 1) := by decide +kernel
theorem dX7_drift_142 : decode cX7_drift 142 = .ok (.getfield 34, 3) := by decide +kernel
theorem dX7_drift_145 : decode cX7_drift 145 = .ok (.getfield 134, 3) := by decide +kernel
theorem dX7_drift_148 : decode cX7_drift 148 = .ok (.ireturn, 1) := by decide +kernel
theorem dX7_undo_0 : decode cX7_undo 0 = .ok (.aload_n 0, 1) := by decide +kernel
theorem dX7_undo_1 : decode cX7_undo 1 = .ok (.getfield 46, 3) := by decide +kernel
theorem dX7_undo_4 : decode cX7_undo 4 = .ok (.getfield 143, 3) := by decide +kernel
theorem dX7_undo_7 : decode cX7_undo 7 = .ok (.ifCond .ne 6, 3) := by decide +kernel
theorem dX7_undo_10 : decode cX7_undo 10 = .ok (.ldc 186, 2) := by decide +kernel
theorem dX7_undo_12 : decode cX7_undo 12 = .ok (.ireturn, 1) := by decide +kernel
theorem dX7_undo_13 : decode cX7_undo 13 = .ok (.aload_n 0, 1) := by decide +kernel
theorem dX7_undo_14 : decode cX7_undo 14 = .ok (.getfield 46, 3) := by decide +kernel
theorem dX7_undo_17 : decode cX7_undo 17 = .ok (.aload_n 0, 1) := by decide +kernel
theorem dX7_undo_18 : decode cX7_undo 18 = .ok (.getfield 34, 3) := by decide +kernel
theorem dX7_undo_21 : decode cX7_undo 21 = .ok (.invokevirtual 192, 3) := by decide +kernel
theorem dX7_undo_24 : decode cX7_undo 24 = .ok (.aload_n 0, 1) := by decide +kernel
theorem dX7_undo_25 : decode cX7_undo 25 = .ok (.getfield 46, 3) := by decide +kernel
theorem dX7_undo_28 : decode cX7_undo 28 = .ok (.getfield 143, 3) := by decide +kernel
theorem dX7_undo_31 : decode cX7_undo 31 = .ok (.ireturn, 1) := by decide +kernel
theorem dX7_shown_0 : decode cX7_shown 0 = .ok (.aload_n 0, 1) := by decide +kernel
theorem dX7_shown_1 : decode cX7_shown 1 = .ok (.getfield 27, 3) := by decide +kernel
theorem dX7_shown_4 : decode cX7_shown 4 = .ok (.iload_n 1, 1) := by decide +kernel
theorem dX7_shown_5 : decode cX7_shown 5 = .ok (.invokevirtual 195, 3) := by decide +kernel
theorem dX7_shown_8 : decode cX7_shown 8 = .ok (.ifCond .ne 6, 3) := by decide +kernel
theorem dX7_shown_11 : decode cX7_shown 11 = .ok (.ldc 83, 2) := by decide +kernel
theorem dX7_shown_13 : decode cX7_shown 13 = .ok (.ireturn, 1) := by decide +kernel
theorem dX7_shown_14 : decode cX7_shown 14 = .ok (.aload_n 0, 1) := by decide +kernel
theorem dX7_shown_15 : decode cX7_shown 15 = .ok (.getfield 19, 3) := by decide +kernel
theorem dX7_shown_18 : decode cX7_shown 18 = .ok (.invokevirtual 198, 3) := by decide +kernel
theorem dX7_shown_21 : decode cX7_shown 21 = .ok (.iload_n 2, 1) := by decide +kernel
theorem dX7_shown_22 : decode cX7_shown 22 = .ok (.iconst (-1), 1) := by decide +kernel
theorem dX7_shown_23 : decode cX7_shown 23 = .ok (.if_icmp .ne 20, 3) := by decide +kernel
theorem dX7_shown_26 : decode cX7_shown 26 = .ok (.aload_n 0, 1) := by decide +kernel
theorem dX7_shown_27 : decode cX7_shown 27 = .ok (.getfield 19, 3) := by decide +kernel
theorem dX7_shown_30 : decode cX7_shown 30 = .ok (.iload_n 1, 1) := by decide +kernel
theorem dX7_shown_31 : decode cX7_shown 31 = .ok (.invokevirtual 200, 3) := by decide +kernel
theorem dX7_shown_34 : decode cX7_shown 34 = .ok (.ifCond .eq 7, 3) := by decide +kernel
theorem dX7_shown_37 : decode cX7_shown 37 = .ok (.iconst 1, 1) := by decide +kernel
theorem dX7_shown_38 : decode cX7_shown 38 = .ok (.goto 4, 3) := by decide +kernel
theorem dX7_shown_41 : decode cX7_shown 41 = .ok (.iconst 0, 1) := by decide +kernel
theorem dX7_shown_42 : decode cX7_shown 42 = .ok (.ireturn, 1) := by decide +kernel
theorem dX7_shown_43 : decode cX7_shown 43 = .ok (.aload_n 0, 1) := by decide +kernel
theorem dX7_shown_44 : decode cX7_shown 44 = .ok (.getfield 19, 3) := by decide +kernel
theorem dX7_shown_47 : decode cX7_shown 47 = .ok (.iload_n 1, 1) := by decide +kernel
theorem dX7_shown_48 : decode cX7_shown 48 = .ok (.invokevirtual 200, 3) := by decide +kernel
theorem dX7_shown_51 : decode cX7_shown 51 = .ok (.ifCond .eq 15, 3) := by decide +kernel
theorem dX7_shown_54 : decode cX7_shown 54 = .ok (.aload_n 0, 1) := by decide +kernel
theorem dX7_shown_55 : decode cX7_shown 55 = .ok (.getfield 19, 3) := by decide +kernel
theorem dX7_shown_58 : decode cX7_shown 58 = .ok (.iload_n 1, 1) := by decide +kernel
theorem dX7_shown_59 : decode cX7_shown 59 = .ok (.iload_n 2, 1) := by decide +kernel
theorem dX7_shown_60 : decode cX7_shown 60 = .ok (.invokevirtual 203, 3) := by decide +kernel
theorem dX7_shown_63 : decode cX7_shown 63 = .ok (.goto 4, 3) := by decide +kernel
theorem dX7_shown_66 : decode cX7_shown 66 = .ok (.iconst (-1), 1) := by decide +kernel
theorem dX7_shown_67 : decode cX7_shown 67 = .ok (.ireturn, 1) := by decide +kernel
theorem dX7_days_0 : decode cX7_days 0 = .ok (.aload_n 0, 1) := by decide +kernel
theorem dX7_days_1 : decode cX7_days 1 = .ok (.getfield 19, 3) := by decide +kernel
theorem dX7_days_4 : decode cX7_days 4 = .ok (.invokevirtual 198, 3) := by decide +kernel
theorem dX7_days_7 : decode cX7_days 7 = .ok (.aload_n 0, 1) := by decide +kernel
theorem dX7_days_8 : decode cX7_days 8 = .ok (.getfield 19, 3) := by decide +kernel
theorem dX7_days_11 : decode cX7_days 11 = .ok (.invokevirtual 206, 3) := by decide +kernel
theorem dX7_days_14 : decode cX7_days 14 = .ok (.ireturn, 1) := by decide +kernel
theorem dX7_gap_0 : decode cX7_gap 0 = .ok (.aload_n 0, 1) := by decide +kernel
theorem dX7_gap_1 : decode cX7_gap 1 = .ok (.getfield 19, 3) := by decide +kernel
theorem dX7_gap_4 : decode cX7_gap 4 = .ok (.invokevirtual 198, 3) := by decide +kernel
theorem dX7_gap_7 : decode cX7_gap 7 = .ok (.aload_n 0, 1) := by decide +kernel
theorem dX7_gap_8 : decode cX7_gap 8 = .ok (.getfield 19, 3) := by decide +kernel
theorem dX7_gap_11 : decode cX7_gap 11 = .ok (.invokevirtual 210, 3) := by decide +kernel
theorem dX7_gap_14 : decode cX7_gap 14 = .ok (.ireturn, 1) := by decide +kernel
theorem dX7_must_0 : decode cX7_must 0 = .ok (.iload_n 1, 1) := by decide +kernel
theorem dX7_must_1 : decode cX7_must 1 = .ok (.invokestatic 165, 3) := by decide +kernel
theorem dX7_must_4 : decode cX7_must 4 = .ok (.ifCond .eq 14, 3) := by decide +kernel
theorem dX7_must_7 : decode cX7_must 7 = .ok (.aload_n 0, 1) := by decide +kernel
theorem dX7_must_8 : decode cX7_must 8 = .ok (.getfield 27, 3) := by decide +kernel
theorem dX7_must_11 : decode cX7_must 11 = .ok (.iload_n 1, 1) := by decide +kernel
theorem dX7_must_12 : decode cX7_must 12 = .ok (.invokevirtual 213, 3) := by decide +kernel
theorem dX7_must_15 : decode cX7_must 15 = .ok (.goto 5, 3) := by decide +kernel
theorem dX7_must_18 : decode cX7_must 18 = .ok (.ldc 150, 2) := by decide +kernel
theorem dX7_must_20 : decode cX7_must 20 = .ok (.ireturn, 1) := by decide +kernel
theorem dX7_search_0 : decode cX7_search 0 = .ok (.iload_n 1, 1) := by decide +kernel
theorem dX7_search_1 : decode cX7_search 1 = .ok (.iconst 1, 1) := by decide +kernel
theorem dX7_search_2 : decode cX7_search 2 = .ok (.if_icmp .lt 18, 3) := by decide +kernel
theorem dX7_search_5 : decode cX7_search 5 = .ok (.iload_n 1, 1) := by decide +kernel
theorem dX7_search_6 : decode cX7_search 6 = .ok (.bipush 6, 2) := by decide +kernel
theorem dX7_search_8 : decode cX7_search 8 = .ok (.if_icmp .gt 12, 3) := by decide +kernel
theorem dX7_search_11 : decode cX7_search 11 = .ok (.iload_n 2, 1) := by decide +kernel
theorem dX7_search_12 : decode cX7_search 12 = .ok (.ifCond .lt 8, 3) := by decide +kernel
theorem dX7_search_15 : decode cX7_search 15 = .ok (.iload_n 2, 1) := by decide +kernel
theorem dX7_search_16 : decode cX7_search 16 = .ok (.iconst 1, 1) := by decide +kernel
theorem dX7_search_17 : decode cX7_search 17 = .ok (.if_icmp .le 6, 3) := by decide +kernel
theorem dX7_search_20 : decode cX7_search 20 = .ok (.ldc 83, 2) := by decide +kernel
theorem dX7_search_22 : decode cX7_search 22 = .ok (.ireturn, 1) := by decide +kernel
theorem dX7_search_23 : decode cX7_search 23 = .ok (.aload_n 0, 1) := by decide +kernel
theorem dX7_search_24 : decode cX7_search 24 = .ok (.getfield 70, 3) := by decide +kernel
theorem dX7_search_27 : decode cX7_search 27 = .ok (.aload_n 0, 1) := by decide +kernel
theorem dX7_search_28 : decode cX7_search 28 = .ok (.getfield 27, 3) := by decide +kernel
theorem dX7_search_31 : decode cX7_search 31 = .ok (.iload_n 1, 1) := by decide +kernel
theorem dX7_search_32 : decode cX7_search 32 = .ok (.invokevirtual 216, 3) := by decide +kernel
theorem dX7_search_35 : decode cX7_search 35 = .ok (.iload_n 2, 1) := by decide +kernel
theorem dX7_search_36 : decode cX7_search 36 = .ok (.ifCond .ne 15, 3) := by decide +kernel
theorem dX7_search_39 : decode cX7_search 39 = .ok (.aload_n 0, 1) := by decide +kernel
theorem dX7_search_40 : decode cX7_search 40 = .ok (.getfield 70, 3) := by decide +kernel
theorem dX7_search_43 : decode cX7_search 43 = .ok (.getfield 220, 3) := by decide +kernel
theorem dX7_search_46 : decode cX7_search 46 = .ok (.iload_n 1, 1) := by decide +kernel
theorem dX7_search_47 : decode cX7_search 47 = .ok (.iaload, 1) := by decide +kernel
theorem dX7_search_48 : decode cX7_search 48 = .ok (.goto 12, 3) := by decide +kernel
theorem dX7_search_51 : decode cX7_search 51 = .ok (.aload_n 0, 1) := by decide +kernel
theorem dX7_search_52 : decode cX7_search 52 = .ok (.getfield 70, 3) := by decide +kernel
theorem dX7_search_55 : decode cX7_search 55 = .ok (.getfield 223, 3) := by decide +kernel
theorem dX7_search_58 : decode cX7_search 58 = .ok (.iload_n 1, 1) := by decide +kernel
theorem dX7_search_59 : decode cX7_search 59 = .ok (.iaload, 1) := by decide +kernel
theorem dX7_search_60 : decode cX7_search 60 = .ok (.ireturn, 1) := by decide +kernel
theorem dX7_most_0 : decode cX7_most 0 = .ok (.iload_n 1, 1) := by decide +kernel
theorem dX7_most_1 : decode cX7_most 1 = .ok (.iconst 1, 1) := by decide +kernel
theorem dX7_most_2 : decode cX7_most 2 = .ok (.if_icmp .lt 9, 3) := by decide +kernel
theorem dX7_most_5 : decode cX7_most 5 = .ok (.iload_n 1, 1) := by decide +kernel
theorem dX7_most_6 : decode cX7_most 6 = .ok (.bipush 6, 2) := by decide +kernel
theorem dX7_most_8 : decode cX7_most 8 = .ok (.if_icmp .le 6, 3) := by decide +kernel
theorem dX7_most_11 : decode cX7_most 11 = .ok (.ldc 83, 2) := by decide +kernel
theorem dX7_most_13 : decode cX7_most 13 = .ok (.ireturn, 1) := by decide +kernel
theorem dX7_most_14 : decode cX7_most 14 = .ok (.aload_n 0, 1) := by decide +kernel
theorem dX7_most_15 : decode cX7_most 15 = .ok (.getfield 70, 3) := by decide +kernel
theorem dX7_most_18 : decode cX7_most 18 = .ok (.aload_n 0, 1) := by decide +kernel
theorem dX7_most_19 : decode cX7_most 19 = .ok (.getfield 27, 3) := by decide +kernel
theorem dX7_most_22 : decode cX7_most 22 = .ok (.iload_n 1, 1) := by decide +kernel
theorem dX7_most_23 : decode cX7_most 23 = .ok (.invokevirtual 216, 3) := by decide +kernel
theorem dX7_most_26 : decode cX7_most 26 = .ok (.aload_n 0, 1) := by decide +kernel
theorem dX7_most_27 : decode cX7_most 27 = .ok (.getfield 70, 3) := by decide +kernel
theorem dX7_most_30 : decode cX7_most 30 = .ok (.getfield 226, 3) := by decide +kernel
theorem dX7_most_33 : decode cX7_most 33 = .ok (.iload_n 1, 1) := by decide +kernel
theorem dX7_most_34 : decode cX7_most 34 = .ok (.iaload, 1) := by decide +kernel
theorem dX7_most_35 : decode cX7_most 35 = .ok (.ireturn, 1) := by decide +kernel
theorem dX7_gone_0 : decode cX7_gone 0 = .ok (.aload_n 0, 1) := by decide +kernel
theorem dX7_gone_1 : decode cX7_gone 1 = .ok (.getfield 27, 3) := by decide +kernel
theorem dX7_gone_4 : decode cX7_gone 4 = .ok (.iload_n 1, 1) := by decide +kernel
theorem dX7_gone_5 : decode cX7_gone 5 = .ok (.invokevirtual 146, 3) := by decide +kernel
theorem dX7_gone_8 : decode cX7_gone 8 = .ok (.ifCond .ne 6, 3) := by decide +kernel
theorem dX7_gone_11 : decode cX7_gone 11 = .ok (.ldc 150, 2) := by decide +kernel
theorem dX7_gone_13 : decode cX7_gone 13 = .ok (.ireturn, 1) := by decide +kernel
theorem dX7_gone_14 : decode cX7_gone 14 = .ok (.aload_n 0, 1) := by decide +kernel
theorem dX7_gone_15 : decode cX7_gone 15 = .ok (.getfield 27, 3) := by decide +kernel
theorem dX7_gone_18 : decode cX7_gone 18 = .ok (.iload_n 1, 1) := by decide +kernel
theorem dX7_gone_19 : decode cX7_gone 19 = .ok (.iload_n 2, 1) := by decide +kernel
theorem dX7_gone_20 : decode cX7_gone 20 = .ok (.invokevirtual 154, 3) := by decide +kernel
theorem dX7_gone_23 : decode cX7_gone 23 = .ok (.ifCond .ne 6, 3) := by decide +kernel
theorem dX7_gone_26 : decode cX7_gone 26 = .ok (.ldc 83, 2) := by decide +kernel
theorem dX7_gone_28 : decode cX7_gone 28 = .ok (.ireturn, 1) := by decide +kernel
theorem dX7_gone_29 : decode cX7_gone 29 = .ok (.aload_n 0, 1) := by decide +kernel
theorem dX7_gone_30 : decode cX7_gone 30 = .ok (.getfield 19, 3) := by decide +kernel
theorem dX7_gone_33 : decode cX7_gone 33 = .ok (.invokevirtual 198, 3) := by decide +kernel
theorem dX7_gone_36 : decode cX7_gone 36 = .ok (.aload_n 0, 1) := by decide +kernel
theorem dX7_gone_37 : decode cX7_gone 37 = .ok (.getfield 19, 3) := by decide +kernel
theorem dX7_gone_40 : decode cX7_gone 40 = .ok (.invokevirtual 206, 3) := by decide +kernel
theorem dX7_gone_43 : decode cX7_gone 43 = .ok (.aload_n 0, 1) := by decide +kernel
theorem dX7_gone_44 : decode cX7_gone 44 = .ok (.getfield 19, 3) := by decide +kernel
theorem dX7_gone_47 : decode cX7_gone 47 = .ok (.iload_n 1, 1) := by decide +kernel
theorem dX7_gone_48 : decode cX7_gone 48 = .ok (.iload_n 2, 1) := by decide +kernel
theorem dX7_gone_49 : decode cX7_gone 49 = .ok (.invokevirtual 229, 3) := by decide +kernel
theorem dX7_gone_52 : decode cX7_gone 52 = .ok (.isub, 1) := by decide +kernel
theorem dX7_gone_53 : decode cX7_gone 53 = .ok (.ireturn, 1) := by decide +kernel
theorem dX7_worst_0 : decode cX7_worst 0 = .ok (.aload_n 0, 1) := by decide +kernel
theorem dX7_worst_1 : decode cX7_worst 1 = .ok (.getfield 19, 3) := by decide +kernel
theorem dX7_worst_4 : decode cX7_worst 4 = .ok (.invokevirtual 198, 3) := by decide +kernel
theorem dX7_worst_7 : decode cX7_worst 7 = .ok (.bipush 101, 2) := by decide +kernel
theorem dX7_worst_9 : decode cX7_worst 9 = .ok (.istore_n 1, 1) := by decide +kernel
theorem dX7_worst_10 : decode cX7_worst 10 = .ok (.iconst (-1), 1) := by decide +kernel
theorem dX7_worst_11 : decode cX7_worst 11 = .ok (.istore_n 2, 1) := by decide +kernel
theorem dX7_worst_12 : decode cX7_worst 12 = .ok (.iconst 0, 1) := by decide +kernel
theorem dX7_worst_13 : decode cX7_worst 13 = .ok (.istore_n 3, 1) := by decide +kernel
theorem dX7_worst_14 : decode cX7_worst 14 = .ok (.iload_n 3, 1) := by decide +kernel
theorem dX7_worst_15 : decode cX7_worst 15 = .ok (.aload_n 0, 1) := by decide +kernel
theorem dX7_worst_16 : decode cX7_worst 16 = .ok (.getfield 27, 3) := by decide +kernel
theorem dX7_worst_19 : decode cX7_worst 19 = .ok (.getfield 115, 3) := by decide +kernel
theorem dX7_worst_22 : decode cX7_worst 22 = .ok (.if_icmp .ge 72, 3) := by decide +kernel
theorem dX7_worst_25 : decode cX7_worst 25 = .ok (.iconst 0, 1) := by decide +kernel
theorem dX7_worst_26 : decode cX7_worst 26 = .ok (.istore 4, 2) := by decide +kernel
theorem dX7_worst_28 : decode cX7_worst 28 = .ok (.iload 4, 2) := by decide +kernel
theorem dX7_worst_30 : decode cX7_worst 30 = .ok (.aload_n 0, 1) := by decide +kernel
theorem dX7_worst_31 : decode cX7_worst 31 = .ok (.getfield 27, 3) := by decide +kernel
theorem dX7_worst_34 : decode cX7_worst 34 = .ok (.getfield 151, 3) := by decide +kernel
theorem dX7_worst_37 : decode cX7_worst 37 = .ok (.iload_n 3, 1) := by decide +kernel
theorem dX7_worst_38 : decode cX7_worst 38 = .ok (.iaload, 1) := by decide +kernel
theorem dX7_worst_39 : decode cX7_worst 39 = .ok (.if_icmp .ge 49, 3) := by decide +kernel
theorem dX7_worst_42 : decode cX7_worst 42 = .ok (.aload_n 0, 1) := by decide +kernel
theorem dX7_worst_43 : decode cX7_worst 43 = .ok (.getfield 34, 3) := by decide +kernel
theorem dX7_worst_46 : decode cX7_worst 46 = .ok (.iload_n 3, 1) := by decide +kernel
theorem dX7_worst_47 : decode cX7_worst 47 = .ok (.invokevirtual 183, 3) := by decide +kernel
theorem dX7_worst_50 : decode cX7_worst 50 = .ok (.ifCond .ne 38, 3) := by decide +kernel
theorem dX7_worst_53 : decode cX7_worst 53 = .ok (.aload_n 0, 1) := by decide +kernel
theorem dX7_worst_54 : decode cX7_worst 54 = .ok (.getfield 19, 3) := by decide +kernel
theorem dX7_worst_57 : decode cX7_worst 57 = .ok (.iload_n 3, 1) := by decide +kernel
theorem dX7_worst_58 : decode cX7_worst 58 = .ok (.iload 4, 2) := by decide +kernel
theorem dX7_worst_60 : decode cX7_worst 60 = .ok (.invokevirtual 229, 3) := by decide +kernel
theorem dX7_worst_63 : decode cX7_worst 63 = .ok (.istore 5, 2) := by decide +kernel
theorem dX7_worst_65 : decode cX7_worst 65 = .ok (.iload 5, 2) := by decide +kernel
theorem dX7_worst_67 : decode cX7_worst 67 = .ok (.iload_n 1, 1) := by decide +kernel
theorem dX7_worst_68 : decode cX7_worst 68 = .ok (.if_icmp .ge 14, 3) := by decide +kernel
theorem dX7_worst_71 : decode cX7_worst 71 = .ok (.iload 5, 2) := by decide +kernel
theorem dX7_worst_73 : decode cX7_worst 73 = .ok (.istore_n 1, 1) := by decide +kernel
theorem dX7_worst_74 : decode cX7_worst 74 = .ok (.bipush 10, 2) := by decide +kernel
theorem dX7_worst_76 : decode cX7_worst 76 = .ok (.iload_n 3, 1) := by decide +kernel
theorem dX7_worst_77 : decode cX7_worst 77 = .ok (.imul, 1) := by decide +kernel
theorem dX7_worst_78 : decode cX7_worst 78 = .ok (.iload 4, 2) := by decide +kernel
theorem dX7_worst_80 : decode cX7_worst 80 = .ok (.iadd, 1) := by decide +kernel
theorem dX7_worst_81 : decode cX7_worst 81 = .ok (.istore_n 2, 1) := by decide +kernel
theorem dX7_worst_82 : decode cX7_worst 82 = .ok (.iinc 4 1, 3) := by decide +kernel
theorem dX7_worst_85 : decode cX7_worst 85 = .ok (.goto (-57), 3) := by decide +kernel
theorem dX7_worst_88 : decode cX7_worst 88 = .ok (.iinc 3 1, 3) := by decide +kernel
theorem dX7_worst_91 : decode cX7_worst 91 = .ok (.goto (-77), 3) := by decide +kernel
theorem dX7_worst_94 : decode cX7_worst 94 = .ok (.iload_n 2, 1) := by decide +kernel
theorem dX7_worst_95 : decode cX7_worst 95 = .ok (.ireturn, 1) := by decide +kernel
theorem dX7_instead_0 : decode cX7_instead 0 = .ok (.aload_n 0, 1) := by decide +kernel
theorem dX7_instead_1 : decode cX7_instead 1 = .ok (.getfield 27, 3) := by decide +kernel
theorem dX7_instead_4 : decode cX7_instead 4 = .ok (.iload_n 1, 1) := by decide +kernel
theorem dX7_instead_5 : decode cX7_instead 5 = .ok (.invokevirtual 146, 3) := by decide +kernel
theorem dX7_instead_8 : decode cX7_instead 8 = .ok (.ifCond .ne 6, 3) := by decide +kernel
theorem dX7_instead_11 : decode cX7_instead 11 = .ok (.ldc 150, 2) := by decide +kernel
theorem dX7_instead_13 : decode cX7_instead 13 = .ok (.ireturn, 1) := by decide +kernel
theorem dX7_instead_14 : decode cX7_instead 14 = .ok (.aload_n 0, 1) := by decide +kernel
theorem dX7_instead_15 : decode cX7_instead 15 = .ok (.getfield 27, 3) := by decide +kernel
theorem dX7_instead_18 : decode cX7_instead 18 = .ok (.iload_n 1, 1) := by decide +kernel
theorem dX7_instead_19 : decode cX7_instead 19 = .ok (.iload_n 2, 1) := by decide +kernel
theorem dX7_instead_20 : decode cX7_instead 20 = .ok (.invokevirtual 154, 3) := by decide +kernel
theorem dX7_instead_23 : decode cX7_instead 23 = .ok (.ifCond .ne 6, 3) := by decide +kernel
theorem dX7_instead_26 : decode cX7_instead 26 = .ok (.ldc 83, 2) := by decide +kernel
theorem dX7_instead_28 : decode cX7_instead 28 = .ok (.ireturn, 1) := by decide +kernel
theorem dX7_instead_29 : decode cX7_instead 29 = .ok (.aload_n 0, 1) := by decide +kernel
theorem dX7_instead_30 : decode cX7_instead 30 = .ok (.getfield 19, 3) := by decide +kernel
theorem dX7_instead_33 : decode cX7_instead 33 = .ok (.invokevirtual 198, 3) := by decide +kernel
theorem dX7_instead_36 : decode cX7_instead 36 = .ok (.iconst 0, 1) := by decide +kernel
theorem dX7_instead_37 : decode cX7_instead 37 = .ok (.istore_n 3, 1) := by decide +kernel
theorem dX7_instead_38 : decode cX7_instead 38 = .ok (.iconst (-1), 1) := by decide +kernel
theorem dX7_instead_39 : decode cX7_instead 39 = .ok (.istore 4, 2) := by decide +kernel
theorem dX7_instead_41 : decode cX7_instead 41 = .ok (.iconst 0, 1) := by decide +kernel
theorem dX7_instead_42 : decode cX7_instead 42 = .ok (.istore 5, 2) := by decide +kernel
theorem dX7_instead_44 : decode cX7_instead 44 = .ok (.iload 5, 2) := by decide +kernel
theorem dX7_instead_46 : decode cX7_instead 46 = .ok (.bipush 10, 2) := by decide +kernel
theorem dX7_instead_48 : decode cX7_instead 48 = .ok (.if_icmp .ge 72, 3) := by decide +kernel
theorem dX7_instead_51 : decode cX7_instead 51 = .ok (.aload_n 0, 1) := by decide +kernel
theorem dX7_instead_52 : decode cX7_instead 52 = .ok (.getfield 19, 3) := by decide +kernel
theorem dX7_instead_55 : decode cX7_instead 55 = .ok (.iload_n 1, 1) := by decide +kernel
theorem dX7_instead_56 : decode cX7_instead 56 = .ok (.iload_n 2, 1) := by decide +kernel
theorem dX7_instead_57 : decode cX7_instead 57 = .ok (.iload 5, 2) := by decide +kernel
theorem dX7_instead_59 : decode cX7_instead 59 = .ok (.invokevirtual 232, 3) := by decide +kernel
theorem dX7_instead_62 : decode cX7_instead 62 = .ok (.aload_n 0, 1) := by decide +kernel
theorem dX7_instead_63 : decode cX7_instead 63 = .ok (.getfield 19, 3) := by decide +kernel
theorem dX7_instead_66 : decode cX7_instead 66 = .ok (.invokevirtual 206, 3) := by decide +kernel
theorem dX7_instead_69 : decode cX7_instead 69 = .ok (.istore 6, 2) := by decide +kernel
theorem dX7_instead_71 : decode cX7_instead 71 = .ok (.iload 6, 2) := by decide +kernel
theorem dX7_instead_73 : decode cX7_instead 73 = .ok (.iload 4, 2) := by decide +kernel
theorem dX7_instead_75 : decode cX7_instead 75 = .ok (.if_icmp .gt 32, 3) := by decide +kernel
theorem dX7_instead_78 : decode cX7_instead 78 = .ok (.iload 6, 2) := by decide +kernel
theorem dX7_instead_80 : decode cX7_instead 80 = .ok (.iload 4, 2) := by decide +kernel
theorem dX7_instead_82 : decode cX7_instead 82 = .ok (.if_icmp .ne 32, 3) := by decide +kernel
theorem dX7_instead_85 : decode cX7_instead 85 = .ok (.aload_n 0, 1) := by decide +kernel
theorem dX7_instead_86 : decode cX7_instead 86 = .ok (.getfield 27, 3) := by decide +kernel
theorem dX7_instead_89 : decode cX7_instead 89 = .ok (.getfield 236, 3) := by decide +kernel
theorem dX7_instead_92 : decode cX7_instead 92 = .ok (.iload 5, 2) := by decide +kernel
theorem dX7_instead_94 : decode cX7_instead 94 = .ok (.iaload, 1) := by decide +kernel
theorem dX7_instead_95 : decode cX7_instead 95 = .ok (.aload_n 0, 1) := by decide +kernel
theorem dX7_instead_96 : decode cX7_instead 96 = .ok (.getfield 27, 3) := by decide +kernel
theorem dX7_instead_99 : decode cX7_instead 99 = .ok (.getfield 236, 3) := by decide +kernel
theorem dX7_instead_102 : decode cX7_instead 102 = .ok (.iload_n 3, 1) := by decide +kernel
theorem dX7_instead_103 : decode cX7_instead 103 = .ok (.iaload, 1) := by decide +kernel
theorem dX7_instead_104 : decode cX7_instead 104 = .ok (.if_icmp .ge 10, 3) := by decide +kernel
theorem dX7_instead_107 : decode cX7_instead 107 = .ok (.iload 6, 2) := by decide +kernel
theorem dX7_instead_109 : decode cX7_instead 109 = .ok (.istore 4, 2) := by decide +kernel
theorem dX7_instead_111 : decode cX7_instead 111 = .ok (.iload 5, 2) := by decide +kernel
theorem dX7_instead_113 : decode cX7_instead 113 = .ok (.istore_n 3, 1) := by decide +kernel
theorem dX7_instead_114 : decode cX7_instead 114 = .ok (.iinc 5 1, 3) := by decide +kernel
theorem dX7_instead_117 : decode cX7_instead 117 = .ok (.goto (-73), 3) := by decide +kernel
theorem dX7_instead_120 : decode cX7_instead 120 = .ok (.iload_n 3, 1) := by decide +kernel
theorem dX7_instead_121 : decode cX7_instead 121 = .ok (.ireturn, 1) := by decide +kernel
theorem dX7_board_0 : decode cX7_board 0 = .ok (.iload_n 2, 1) := by decide +kernel
theorem dX7_board_1 : decode cX7_board 1 = .ok (.invokestatic 165, 3) := by decide +kernel
theorem dX7_board_4 : decode cX7_board 4 = .ok (.ifCond .ne 6, 3) := by decide +kernel
theorem dX7_board_7 : decode cX7_board 7 = .ok (.ldc 150, 2) := by decide +kernel
theorem dX7_board_9 : decode cX7_board 9 = .ok (.ireturn, 1) := by decide +kernel
theorem dX7_board_10 : decode cX7_board 10 = .ok (.iload_n 1, 1) := by decide +kernel
theorem dX7_board_11 : decode cX7_board 11 = .ok (.iconst 1, 1) := by decide +kernel
theorem dX7_board_12 : decode cX7_board 12 = .ok (.if_icmp .lt 8, 3) := by decide +kernel
theorem dX7_board_15 : decode cX7_board 15 = .ok (.iload_n 1, 1) := by decide +kernel
theorem dX7_board_16 : decode cX7_board 16 = .ok (.iconst 5, 1) := by decide +kernel
theorem dX7_board_17 : decode cX7_board 17 = .ok (.if_icmp .le 6, 3) := by decide +kernel
theorem dX7_board_20 : decode cX7_board 20 = .ok (.ldc 83, 2) := by decide +kernel
theorem dX7_board_22 : decode cX7_board 22 = .ok (.ireturn, 1) := by decide +kernel
theorem dX7_board_23 : decode cX7_board 23 = .ok (.aload_n 0, 1) := by decide +kernel
theorem dX7_board_24 : decode cX7_board 24 = .ok (.getfield 27, 3) := by decide +kernel
theorem dX7_board_27 : decode cX7_board 27 = .ok (.getfield 168, 3) := by decide +kernel
theorem dX7_board_30 : decode cX7_board 30 = .ok (.iload_n 2, 1) := by decide +kernel
theorem dX7_board_31 : decode cX7_board 31 = .ok (.iaload, 1) := by decide +kernel
theorem dX7_board_32 : decode cX7_board 32 = .ok (.iload_n 2, 1) := by decide +kernel
theorem dX7_board_33 : decode cX7_board 33 = .ok (.if_icmp .ge 7, 3) := by decide +kernel
theorem dX7_board_36 : decode cX7_board 36 = .ok (.iconst 0, 1) := by decide +kernel
theorem dX7_board_37 : decode cX7_board 37 = .ok (.goto 13, 3) := by decide +kernel
theorem dX7_board_40 : decode cX7_board 40 = .ok (.iload_n 1, 1) := by decide +kernel
theorem dX7_board_41 : decode cX7_board 41 = .ok (.aload_n 0, 1) := by decide +kernel
theorem dX7_board_42 : decode cX7_board 42 = .ok (.getfield 27, 3) := by decide +kernel
theorem dX7_board_45 : decode cX7_board 45 = .ok (.iload_n 2, 1) := by decide +kernel
theorem dX7_board_46 : decode cX7_board 46 = .ok (.invokevirtual 213, 3) := by decide +kernel
theorem dX7_board_49 : decode cX7_board 49 = .ok (.imul, 1) := by decide +kernel
theorem dX7_board_50 : decode cX7_board 50 = .ok (.ireturn, 1) := by decide +kernel
theorem dX7_sums_0 : decode cX7_sums 0 = .ok (.iload_n 1, 1) := by decide +kernel
theorem dX7_sums_1 : decode cX7_sums 1 = .ok (.ifCond .lt 9, 3) := by decide +kernel
theorem dX7_sums_4 : decode cX7_sums 4 = .ok (.iload_n 1, 1) := by decide +kernel
theorem dX7_sums_5 : decode cX7_sums 5 = .ok (.bipush 36, 2) := by decide +kernel
theorem dX7_sums_7 : decode cX7_sums 7 = .ok (.if_icmp .le 6, 3) := by decide +kernel
theorem dX7_sums_10 : decode cX7_sums 10 = .ok (.ldc 83, 2) := by decide +kernel
theorem dX7_sums_12 : decode cX7_sums 12 = .ok (.ireturn, 1) := by decide +kernel
theorem dX7_sums_13 : decode cX7_sums 13 = .ok (.aload_n 0, 1) := by decide +kernel
theorem dX7_sums_14 : decode cX7_sums 14 = .ok (.getfield 27, 3) := by decide +kernel
theorem dX7_sums_17 : decode cX7_sums 17 = .ok (.aload_n 0, 1) := by decide +kernel
theorem dX7_sums_18 : decode cX7_sums 18 = .ok (.getfield 34, 3) := by decide +kernel
theorem dX7_sums_21 : decode cX7_sums 21 = .ok (.iconst 0, 1) := by decide +kernel
theorem dX7_sums_22 : decode cX7_sums 22 = .ok (.iload_n 1, 1) := by decide +kernel
theorem dX7_sums_23 : decode cX7_sums 23 = .ok (.invokestatic 239, 3) := by decide +kernel
theorem dX7_sums_26 : decode cX7_sums 26 = .ok (.ireturn, 1) := by decide +kernel
theorem dX7_price_0 : decode cX7_price 0 = .ok (.iload_n 1, 1) := by decide +kernel
theorem dX7_price_1 : decode cX7_price 1 = .ok (.ifCond .lt 10, 3) := by decide +kernel
theorem dX7_price_4 : decode cX7_price 4 = .ok (.iload_n 1, 1) := by decide +kernel
theorem dX7_price_5 : decode cX7_price 5 = .ok (.sipush 1024, 3) := by decide +kernel
theorem dX7_price_8 : decode cX7_price 8 = .ok (.if_icmp .lt 6, 3) := by decide +kernel
theorem dX7_price_11 : decode cX7_price 11 = .ok (.ldc 150, 2) := by decide +kernel
theorem dX7_price_13 : decode cX7_price 13 = .ok (.ireturn, 1) := by decide +kernel
theorem dX7_price_14 : decode cX7_price 14 = .ok (.iconst 0, 1) := by decide +kernel
theorem dX7_price_15 : decode cX7_price 15 = .ok (.istore_n 2, 1) := by decide +kernel
theorem dX7_price_16 : decode cX7_price 16 = .ok (.iconst 0, 1) := by decide +kernel
theorem dX7_price_17 : decode cX7_price 17 = .ok (.istore_n 3, 1) := by decide +kernel
theorem dX7_price_18 : decode cX7_price 18 = .ok (.iload_n 3, 1) := by decide +kernel
theorem dX7_price_19 : decode cX7_price 19 = .ok (.bipush 10, 2) := by decide +kernel
theorem dX7_price_21 : decode cX7_price 21 = .ok (.if_icmp .ge 27, 3) := by decide +kernel
theorem dX7_price_24 : decode cX7_price 24 = .ok (.iload_n 2, 1) := by decide +kernel
theorem dX7_price_25 : decode cX7_price 25 = .ok (.iload_n 1, 1) := by decide +kernel
theorem dX7_price_26 : decode cX7_price 26 = .ok (.iload_n 3, 1) := by decide +kernel
theorem dX7_price_27 : decode cX7_price 27 = .ok (.ishr, 1) := by decide +kernel
theorem dX7_price_28 : decode cX7_price 28 = .ok (.iconst 1, 1) := by decide +kernel
theorem dX7_price_29 : decode cX7_price 29 = .ok (.iand, 1) := by decide +kernel
theorem dX7_price_30 : decode cX7_price 30 = .ok (.aload_n 0, 1) := by decide +kernel
theorem dX7_price_31 : decode cX7_price 31 = .ok (.getfield 27, 3) := by decide +kernel
theorem dX7_price_34 : decode cX7_price 34 = .ok (.getfield 236, 3) := by decide +kernel
theorem dX7_price_37 : decode cX7_price 37 = .ok (.iload_n 3, 1) := by decide +kernel
theorem dX7_price_38 : decode cX7_price 38 = .ok (.iaload, 1) := by decide +kernel
theorem dX7_price_39 : decode cX7_price 39 = .ok (.imul, 1) := by decide +kernel
theorem dX7_price_40 : decode cX7_price 40 = .ok (.iadd, 1) := by decide +kernel
theorem dX7_price_41 : decode cX7_price 41 = .ok (.istore_n 2, 1) := by decide +kernel
theorem dX7_price_42 : decode cX7_price 42 = .ok (.iinc 3 1, 3) := by decide +kernel
theorem dX7_price_45 : decode cX7_price 45 = .ok (.goto (-27), 3) := by decide +kernel
theorem dX7_price_48 : decode cX7_price 48 = .ok (.iload_n 2, 1) := by decide +kernel
theorem dX7_price_49 : decode cX7_price 49 = .ok (.ireturn, 1) := by decide +kernel
theorem dX7_cheapest_0 : decode cX7_cheapest 0 = .ok (.iload_n 1, 1) := by decide +kernel
theorem dX7_cheapest_1 : decode cX7_cheapest 1 = .ok (.ifCond .lt 8, 3) := by decide +kernel
theorem dX7_cheapest_4 : decode cX7_cheapest 4 = .ok (.iload_n 1, 1) := by decide +kernel
theorem dX7_cheapest_5 : decode cX7_cheapest 5 = .ok (.iconst 1, 1) := by decide +kernel
theorem dX7_cheapest_6 : decode cX7_cheapest 6 = .ok (.if_icmp .le 6, 3) := by decide +kernel
theorem dX7_cheapest_9 : decode cX7_cheapest 9 = .ok (.ldc 83, 2) := by decide +kernel
theorem dX7_cheapest_11 : decode cX7_cheapest 11 = .ok (.ireturn, 1) := by decide +kernel
theorem dX7_cheapest_12 : decode cX7_cheapest 12 = .ok (.aload_n 0, 1) := by decide +kernel
theorem dX7_cheapest_13 : decode cX7_cheapest 13 = .ok (.getfield 19, 3) := by decide +kernel
theorem dX7_cheapest_16 : decode cX7_cheapest 16 = .ok (.invokevirtual 198, 3) := by decide +kernel
theorem dX7_cheapest_19 : decode cX7_cheapest 19 = .ok (.aload_n 0, 1) := by decide +kernel
theorem dX7_cheapest_20 : decode cX7_cheapest 20 = .ok (.getfield 19, 3) := by decide +kernel
theorem dX7_cheapest_23 : decode cX7_cheapest 23 = .ok (.invokevirtual 210, 3) := by decide +kernel
theorem dX7_cheapest_26 : decode cX7_cheapest 26 = .ok (.istore_n 2, 1) := by decide +kernel
theorem dX7_cheapest_27 : decode cX7_cheapest 27 = .ok (.iconst (-1), 1) := by decide +kernel
theorem dX7_cheapest_28 : decode cX7_cheapest 28 = .ok (.istore_n 3, 1) := by decide +kernel
theorem dX7_cheapest_29 : decode cX7_cheapest 29 = .ok (.iconst (-1), 1) := by decide +kernel
theorem dX7_cheapest_30 : decode cX7_cheapest 30 = .ok (.istore 4, 2) := by decide +kernel
theorem dX7_cheapest_32 : decode cX7_cheapest 32 = .ok (.iconst 0, 1) := by decide +kernel
theorem dX7_cheapest_33 : decode cX7_cheapest 33 = .ok (.istore 5, 2) := by decide +kernel
theorem dX7_cheapest_35 : decode cX7_cheapest 35 = .ok (.iload 5, 2) := by decide +kernel
theorem dX7_cheapest_37 : decode cX7_cheapest 37 = .ok (.bipush 10, 2) := by decide +kernel
theorem dX7_cheapest_39 : decode cX7_cheapest 39 = .ok (.if_icmp .ge 63, 3) := by decide +kernel
theorem dX7_cheapest_42 : decode cX7_cheapest 42 = .ok (.iload_n 2, 1) := by decide +kernel
theorem dX7_cheapest_43 : decode cX7_cheapest 43 = .ok (.iconst (-1), 1) := by decide +kernel
theorem dX7_cheapest_44 : decode cX7_cheapest 44 = .ok (.if_icmp .eq 58, 3) := by decide +kernel
theorem dX7_cheapest_47 : decode cX7_cheapest 47 = .ok (.iload_n 3, 1) := by decide +kernel
theorem dX7_cheapest_48 : decode cX7_cheapest 48 = .ok (.iconst (-1), 1) := by decide +kernel
theorem dX7_cheapest_49 : decode cX7_cheapest 49 = .ok (.if_icmp .eq 25, 3) := by decide +kernel
theorem dX7_cheapest_52 : decode cX7_cheapest 52 = .ok (.aload_n 0, 1) := by decide +kernel
theorem dX7_cheapest_53 : decode cX7_cheapest 53 = .ok (.getfield 27, 3) := by decide +kernel
theorem dX7_cheapest_56 : decode cX7_cheapest 56 = .ok (.getfield 236, 3) := by decide +kernel
theorem dX7_cheapest_59 : decode cX7_cheapest 59 = .ok (.iload 5, 2) := by decide +kernel
theorem dX7_cheapest_61 : decode cX7_cheapest 61 = .ok (.iaload, 1) := by decide +kernel
theorem dX7_cheapest_62 : decode cX7_cheapest 62 = .ok (.aload_n 0, 1) := by decide +kernel
theorem dX7_cheapest_63 : decode cX7_cheapest 63 = .ok (.getfield 27, 3) := by decide +kernel
theorem dX7_cheapest_66 : decode cX7_cheapest 66 = .ok (.getfield 236, 3) := by decide +kernel
theorem dX7_cheapest_69 : decode cX7_cheapest 69 = .ok (.iload_n 3, 1) := by decide +kernel
theorem dX7_cheapest_70 : decode cX7_cheapest 70 = .ok (.iaload, 1) := by decide +kernel
theorem dX7_cheapest_71 : decode cX7_cheapest 71 = .ok (.if_icmp .ge 25, 3) := by decide +kernel
theorem dX7_cheapest_74 : decode cX7_cheapest 74 = .ok (.aload_n 0, 1) := by decide +kernel
theorem dX7_cheapest_75 : decode cX7_cheapest 75 = .ok (.iload_n 2, 1) := by decide +kernel
theorem dX7_cheapest_76 : decode cX7_cheapest 76 = .ok (.iload 5, 2) := by decide +kernel
theorem dX7_cheapest_78 : decode cX7_cheapest 78 = .ok (.invokevirtual 243, 3) := by decide +kernel
theorem dX7_cheapest_81 : decode cX7_cheapest 81 = .ok (.istore 6, 2) := by decide +kernel
theorem dX7_cheapest_83 : decode cX7_cheapest 83 = .ok (.iload 6, 2) := by decide +kernel
theorem dX7_cheapest_85 : decode cX7_cheapest 85 = .ok (.iconst (-1), 1) := by decide +kernel
theorem dX7_cheapest_86 : decode cX7_cheapest 86 = .ok (.if_icmp .eq 10, 3) := by decide +kernel
theorem dX7_cheapest_89 : decode cX7_cheapest 89 = .ok (.iload 5, 2) := by decide +kernel
theorem dX7_cheapest_91 : decode cX7_cheapest 91 = .ok (.istore_n 3, 1) := by decide +kernel
theorem dX7_cheapest_92 : decode cX7_cheapest 92 = .ok (.iload 6, 2) := by decide +kernel
theorem dX7_cheapest_94 : decode cX7_cheapest 94 = .ok (.istore 4, 2) := by decide +kernel
theorem dX7_cheapest_96 : decode cX7_cheapest 96 = .ok (.iinc 5 1, 3) := by decide +kernel
theorem dX7_cheapest_99 : decode cX7_cheapest 99 = .ok (.goto (-64), 3) := by decide +kernel
theorem dX7_cheapest_102 : decode cX7_cheapest 102 = .ok (.iload_n 1, 1) := by decide +kernel
theorem dX7_cheapest_103 : decode cX7_cheapest 103 = .ok (.ifCond .ne 7, 3) := by decide +kernel
theorem dX7_cheapest_106 : decode cX7_cheapest 106 = .ok (.iload_n 3, 1) := by decide +kernel
theorem dX7_cheapest_107 : decode cX7_cheapest 107 = .ok (.goto 5, 3) := by decide +kernel
theorem dX7_cheapest_110 : decode cX7_cheapest 110 = .ok (.iload 4, 2) := by decide +kernel
theorem dX7_cheapest_112 : decode cX7_cheapest 112 = .ok (.ireturn, 1) := by decide +kernel
theorem dX7_wrong_0 : decode cX7_wrong 0 = .ok (.aload_n 0, 1) := by decide +kernel
theorem dX7_wrong_1 : decode cX7_wrong 1 = .ok (.getfield 27, 3) := by decide +kernel
theorem dX7_wrong_4 : decode cX7_wrong 4 = .ok (.iload_n 1, 1) := by decide +kernel
theorem dX7_wrong_5 : decode cX7_wrong 5 = .ok (.invokevirtual 195, 3) := by decide +kernel
theorem dX7_wrong_8 : decode cX7_wrong 8 = .ok (.ifCond .ne 6, 3) := by decide +kernel
theorem dX7_wrong_11 : decode cX7_wrong 11 = .ok (.ldc 83, 2) := by decide +kernel
theorem dX7_wrong_13 : decode cX7_wrong 13 = .ok (.ireturn, 1) := by decide +kernel
theorem dX7_wrong_14 : decode cX7_wrong 14 = .ok (.aload_n 0, 1) := by decide +kernel
theorem dX7_wrong_15 : decode cX7_wrong 15 = .ok (.getfield 63, 3) := by decide +kernel
theorem dX7_wrong_18 : decode cX7_wrong 18 = .ok (.getfield 137, 3) := by decide +kernel
theorem dX7_wrong_21 : decode cX7_wrong 21 = .ok (.bipush 6, 2) := by decide +kernel
theorem dX7_wrong_23 : decode cX7_wrong 23 = .ok (.if_icmp .lt 6, 3) := by decide +kernel
theorem dX7_wrong_26 : decode cX7_wrong 26 = .ok (.ldc 88, 2) := by decide +kernel
theorem dX7_wrong_28 : decode cX7_wrong 28 = .ok (.ireturn, 1) := by decide +kernel
theorem dX7_wrong_29 : decode cX7_wrong 29 = .ok (.aload_n 0, 1) := by decide +kernel
theorem dX7_wrong_30 : decode cX7_wrong 30 = .ok (.getfield 63, 3) := by decide +kernel
theorem dX7_wrong_33 : decode cX7_wrong 33 = .ok (.iload_n 1, 1) := by decide +kernel
theorem dX7_wrong_34 : decode cX7_wrong 34 = .ok (.iload_n 2, 1) := by decide +kernel
theorem dX7_wrong_35 : decode cX7_wrong 35 = .ok (.invokevirtual 246, 3) := by decide +kernel
theorem dX7_wrong_38 : decode cX7_wrong 38 = .ok (.aload_n 0, 1) := by decide +kernel
theorem dX7_wrong_39 : decode cX7_wrong 39 = .ok (.getfield 63, 3) := by decide +kernel
theorem dX7_wrong_42 : decode cX7_wrong 42 = .ok (.getfield 137, 3) := by decide +kernel
theorem dX7_wrong_45 : decode cX7_wrong 45 = .ok (.ireturn, 1) := by decide +kernel
theorem dX7_paintedOver_0 : decode cX7_paintedOver 0 = .ok (.aload_n 0, 1) := by decide +kernel
theorem dX7_paintedOver_1 : decode cX7_paintedOver 1 = .ok (.getfield 19, 3) := by decide +kernel
theorem dX7_paintedOver_4 : decode cX7_paintedOver 4 = .ok (.invokevirtual 198, 3) := by decide +kernel
theorem dX7_paintedOver_7 : decode cX7_paintedOver 7 = .ok (.iconst 0, 1) := by decide +kernel
theorem dX7_paintedOver_8 : decode cX7_paintedOver 8 = .ok (.istore_n 2, 1) := by decide +kernel
theorem dX7_paintedOver_9 : decode cX7_paintedOver 9 = .ok (.iconst 0, 1) := by decide +kernel
theorem dX7_paintedOver_10 : decode cX7_paintedOver 10 = .ok (.istore_n 3, 1) := by decide +kernel
theorem dX7_paintedOver_11 : decode cX7_paintedOver 11 = .ok (.iload_n 3, 1) := by decide +kernel
theorem dX7_paintedOver_12 : decode cX7_paintedOver 12 = .ok (.sipush 240, 3) := by decide +kernel
theorem dX7_paintedOver_15 : decode cX7_paintedOver 15 = .ok (.if_icmp .ge 57, 3) := by decide +kernel
theorem dX7_paintedOver_18 : decode cX7_paintedOver 18 = .ok (.aload_n 0, 1) := by decide +kernel
theorem dX7_paintedOver_19 : decode cX7_paintedOver 19 = .ok (.iload_n 3, 1) := by decide +kernel
theorem dX7_paintedOver_20 : decode cX7_paintedOver 20 = .ok (.invokevirtual 250, 3) := by decide +kernel
theorem dX7_paintedOver_23 : decode cX7_paintedOver 23 = .ok (.ifCond .eq 32, 3) := by decide +kernel
theorem dX7_paintedOver_26 : decode cX7_paintedOver 26 = .ok (.iload_n 2, 1) := by decide +kernel
theorem dX7_paintedOver_27 : decode cX7_paintedOver 27 = .ok (.iload_n 1, 1) := by decide +kernel
theorem dX7_paintedOver_28 : decode cX7_paintedOver 28 = .ok (.if_icmp .ne 24, 3) := by decide +kernel
theorem dX7_paintedOver_31 : decode cX7_paintedOver 31 = .ok (.bipush 100, 2) := by decide +kernel
theorem dX7_paintedOver_33 : decode cX7_paintedOver 33 = .ok (.iload_n 3, 1) := by decide +kernel
theorem dX7_paintedOver_34 : decode cX7_paintedOver 34 = .ok (.invokestatic 253, 3) := by decide +kernel
theorem dX7_paintedOver_37 : decode cX7_paintedOver 37 = .ok (.imul, 1) := by decide +kernel
theorem dX7_paintedOver_38 : decode cX7_paintedOver 38 = .ok (.bipush 10, 2) := by decide +kernel
theorem dX7_paintedOver_40 : decode cX7_paintedOver 40 = .ok (.iload_n 3, 1) := by decide +kernel
theorem dX7_paintedOver_41 : decode cX7_paintedOver 41 = .ok (.invokestatic 256, 3) := by decide +kernel
theorem dX7_paintedOver_44 : decode cX7_paintedOver 44 = .ok (.imul, 1) := by decide +kernel
theorem dX7_paintedOver_45 : decode cX7_paintedOver 45 = .ok (.iadd, 1) := by decide +kernel
theorem dX7_paintedOver_46 : decode cX7_paintedOver 46 = .ok (.iload_n 3, 1) := by decide +kernel
theorem dX7_paintedOver_47 : decode cX7_paintedOver 47 = .ok (.invokestatic 259, 3) := by decide +kernel
theorem dX7_paintedOver_50 : decode cX7_paintedOver 50 = .ok (.iadd, 1) := by decide +kernel
theorem dX7_paintedOver_51 : decode cX7_paintedOver 51 = .ok (.ireturn, 1) := by decide +kernel
theorem dX7_paintedOver_52 : decode cX7_paintedOver 52 = .ok (.iinc 2 1, 3) := by decide +kernel
theorem dX7_paintedOver_55 : decode cX7_paintedOver 55 = .ok (.aload_n 0, 1) := by decide +kernel
theorem dX7_paintedOver_56 : decode cX7_paintedOver 56 = .ok (.getfield 19, 3) := by decide +kernel
theorem dX7_paintedOver_59 : decode cX7_paintedOver 59 = .ok (.iload_n 3, 1) := by decide +kernel
theorem dX7_paintedOver_60 : decode cX7_paintedOver 60 = .ok (.invokestatic 253, 3) := by decide +kernel
theorem dX7_paintedOver_63 : decode cX7_paintedOver 63 = .ok (.invokevirtual 262, 3) := by decide +kernel
theorem dX7_paintedOver_66 : decode cX7_paintedOver 66 = .ok (.iinc 3 1, 3) := by decide +kernel
theorem dX7_paintedOver_69 : decode cX7_paintedOver 69 = .ok (.goto (-58), 3) := by decide +kernel
theorem dX7_paintedOver_72 : decode cX7_paintedOver 72 = .ok (.iload_n 1, 1) := by decide +kernel
theorem dX7_paintedOver_73 : decode cX7_paintedOver 73 = .ok (.iconst (-1), 1) := by decide +kernel
theorem dX7_paintedOver_74 : decode cX7_paintedOver 74 = .ok (.if_icmp .ne 7, 3) := by decide +kernel
theorem dX7_paintedOver_77 : decode cX7_paintedOver 77 = .ok (.iload_n 2, 1) := by decide +kernel
theorem dX7_paintedOver_78 : decode cX7_paintedOver 78 = .ok (.goto 4, 3) := by decide +kernel
theorem dX7_paintedOver_81 : decode cX7_paintedOver 81 = .ok (.iconst (-1), 1) := by decide +kernel
theorem dX7_paintedOver_82 : decode cX7_paintedOver 82 = .ok (.ireturn, 1) := by decide +kernel
theorem dX7_lookOn_0 : decode cX7_lookOn 0 = .ok (.aload_n 0, 1) := by decide +kernel
theorem dX7_lookOn_1 : decode cX7_lookOn 1 = .ok (.getfield 19, 3) := by decide +kernel
theorem dX7_lookOn_4 : decode cX7_lookOn 4 = .ok (.invokevirtual 198, 3) := by decide +kernel
theorem dX7_lookOn_7 : decode cX7_lookOn 7 = .ok (.iconst 0, 1) := by decide +kernel
theorem dX7_lookOn_8 : decode cX7_lookOn 8 = .ok (.istore_n 1, 1) := by decide +kernel
theorem dX7_lookOn_9 : decode cX7_lookOn 9 = .ok (.aload_n 0, 1) := by decide +kernel
theorem dX7_lookOn_10 : decode cX7_lookOn 10 = .ok (.getfield 74, 3) := by decide +kernel
theorem dX7_lookOn_13 : decode cX7_lookOn 13 = .ok (.iconst 0, 1) := by decide +kernel
theorem dX7_lookOn_14 : decode cX7_lookOn 14 = .ok (.invokestatic 266, 3) := by decide +kernel
theorem dX7_lookOn_17 : decode cX7_lookOn 17 = .ok (.iconst 0, 1) := by decide +kernel
theorem dX7_lookOn_18 : decode cX7_lookOn 18 = .ok (.istore_n 2, 1) := by decide +kernel
theorem dX7_lookOn_19 : decode cX7_lookOn 19 = .ok (.iload_n 2, 1) := by decide +kernel
theorem dX7_lookOn_20 : decode cX7_lookOn 20 = .ok (.sipush 240, 3) := by decide +kernel
theorem dX7_lookOn_23 : decode cX7_lookOn 23 = .ok (.if_icmp .ge 42, 3) := by decide +kernel
theorem dX7_lookOn_26 : decode cX7_lookOn 26 = .ok (.aload_n 0, 1) := by decide +kernel
theorem dX7_lookOn_27 : decode cX7_lookOn 27 = .ok (.iload_n 2, 1) := by decide +kernel
theorem dX7_lookOn_28 : decode cX7_lookOn 28 = .ok (.invokevirtual 250, 3) := by decide +kernel
theorem dX7_lookOn_31 : decode cX7_lookOn 31 = .ok (.ifCond .eq 17, 3) := by decide +kernel
theorem dX7_lookOn_34 : decode cX7_lookOn 34 = .ok (.iinc 1 1, 3) := by decide +kernel
theorem dX7_lookOn_37 : decode cX7_lookOn 37 = .ok (.aload_n 0, 1) := by decide +kernel
theorem dX7_lookOn_38 : decode cX7_lookOn 38 = .ok (.getfield 19, 3) := by decide +kernel
