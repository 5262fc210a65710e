theorem dX12_storm_11 : decode cX12_storm 11 = .ok (.isub, 1) := by decide +kernel
theorem dX12_storm_12 : decode cX12_storm 12 = .ok (.invokestatic 33, 3) := by decide +kernel
theorem dX12_storm_15 : decode cX12_storm 15 = .ok (.ifCond .eq 12, 3) := by decide +kernel
theorem dX12_storm_18 : decode cX12_storm 18 = .ok (.iload_n 2, 1) := by decide +kernel
theorem dX12_storm_19 : decode cX12_storm 19 = .ok (.iconst 0, 1) := by decide +kernel
theorem dX12_storm_20 : decode cX12_storm 20 = .ok (.iconst 5, 1) := by decide +kernel
theorem dX12_storm_21 : decode cX12_storm 21 = .ok (.invokestatic 33, 3) := by decide +kernel
theorem dX12_storm_24 : decode cX12_storm 24 = .ok (.ifCond .ne 5, 3) := by decide +kernel
theorem dX12_storm_27 : decode cX12_storm 27 = .ok (.iconst (-1), 1) := by decide +kernel
theorem dX12_storm_28 : decode cX12_storm 28 = .ok (.ireturn, 1) := by decide +kernel
theorem dX12_storm_29 : decode cX12_storm 29 = .ok (.aload_n 0, 1) := by decide +kernel
theorem dX12_storm_30 : decode cX12_storm 30 = .ok (.getfield 26, 3) := by decide +kernel
theorem dX12_storm_33 : decode cX12_storm 33 = .ok (.iload_n 1, 1) := by decide +kernel
theorem dX12_storm_34 : decode cX12_storm 34 = .ok (.iconst 1, 1) := by decide +kernel
theorem dX12_storm_35 : decode cX12_storm 35 = .ok (.iadd, 1) := by decide +kernel
theorem dX12_storm_36 : decode cX12_storm 36 = .ok (.iaload, 1) := by decide +kernel
theorem dX12_storm_37 : decode cX12_storm 37 = .ok (.iconst 1, 1) := by decide +kernel
theorem dX12_storm_38 : decode cX12_storm 38 = .ok (.isub, 1) := by decide +kernel
theorem dX12_storm_39 : decode cX12_storm 39 = .ok (.istore_n 3, 1) := by decide +kernel
theorem dX12_storm_40 : decode cX12_storm 40 = .ok (.iload_n 2, 1) := by decide +kernel
theorem dX12_storm_41 : decode cX12_storm 41 = .ok (.tableswitch 90 0 4 #[35, 42, 53, 78, 84], 35) := by decide +kernel
theorem dX12_storm_76 : decode cX12_storm 76 = .ok (.aload_n 0, 1) := by decide +kernel
theorem dX12_storm_77 : decode cX12_storm 77 = .ok (.getfield 26, 3) := by decide +kernel
theorem dX12_storm_80 : decode cX12_storm 80 = .ok (.iload_n 1, 1) := by decide +kernel
theorem dX12_storm_81 : decode cX12_storm 81 = .ok (.iaload, 1) := by decide +kernel
theorem dX12_storm_82 : decode cX12_storm 82 = .ok (.ireturn, 1) := by decide +kernel
theorem dX12_storm_83 : decode cX12_storm 83 = .ok (.iload_n 3, 1) := by decide +kernel
theorem dX12_storm_84 : decode cX12_storm 84 = .ok (.iconst 1, 1) := by decide +kernel
theorem dX12_storm_85 : decode cX12_storm 85 = .ok (.iadd, 1) := by decide +kernel
theorem dX12_storm_86 : decode cX12_storm 86 = .ok (.aload_n 0, 1) := by decide +kernel
theorem dX12_storm_87 : decode cX12_storm 87 = .ok (.getfield 26, 3) := by decide +kernel
theorem dX12_storm_90 : decode cX12_storm 90 = .ok (.iload_n 1, 1) := by decide +kernel
theorem dX12_storm_91 : decode cX12_storm 91 = .ok (.iaload, 1) := by decide +kernel
theorem dX12_storm_92 : decode cX12_storm 92 = .ok (.isub, 1) := by decide +kernel
theorem dX12_storm_93 : decode cX12_storm 93 = .ok (.ireturn, 1) := by decide +kernel
theorem dX12_storm_94 : decode cX12_storm 94 = .ok (.aload_n 0, 1) := by decide +kernel
theorem dX12_storm_95 : decode cX12_storm 95 = .ok (.getfield 7, 3) := by decide +kernel
theorem dX12_storm_98 : decode cX12_storm 98 = .ok (.bipush 64, 2) := by decide +kernel
theorem dX12_storm_100 : decode cX12_storm 100 = .ok (.iload_n 3, 1) := by decide +kernel
theorem dX12_storm_101 : decode cX12_storm 101 = .ok (.iadd, 1) := by decide +kernel
theorem dX12_storm_102 : decode cX12_storm 102 = .ok (.iaload, 1) := by decide +kernel
theorem dX12_storm_103 : decode cX12_storm 103 = .ok (.aload_n 0, 1) := by decide +kernel
theorem dX12_storm_104 : decode cX12_storm 104 = .ok (.getfield 7, 3) := by decide +kernel
theorem dX12_storm_107 : decode cX12_storm 107 = .ok (.bipush 64, 2) := by decide +kernel
theorem dX12_storm_109 : decode cX12_storm 109 = .ok (.aload_n 0, 1) := by decide +kernel
theorem dX12_storm_110 : decode cX12_storm 110 = .ok (.getfield 26, 3) := by decide +kernel
theorem dX12_storm_113 : decode cX12_storm 113 = .ok (.iload_n 1, 1) := by decide +kernel
theorem dX12_storm_114 : decode cX12_storm 114 = .ok (.iaload, 1) := by decide +kernel
theorem dX12_storm_115 : decode cX12_storm 115 = .ok (.iadd, 1) := by decide +kernel
theorem dX12_storm_116 : decode cX12_storm 116 = .ok (.iaload, 1) := by decide +kernel
theorem dX12_storm_117 : decode cX12_storm 117 = .ok (.isub, 1) := by decide +kernel
theorem dX12_storm_118 : decode cX12_storm 118 = .ok (.ireturn, 1) := by decide +kernel
theorem dX12_storm_119 : decode cX12_storm 119 = .ok (.aload_n 0, 1) := by decide +kernel
theorem dX12_storm_120 : decode cX12_storm 120 = .ok (.iload_n 1, 1) := by decide +kernel
theorem dX12_storm_121 : decode cX12_storm 121 = .ok (.invokevirtual 97, 3) := by decide +kernel
theorem dX12_storm_124 : decode cX12_storm 124 = .ok (.ireturn, 1) := by decide +kernel
theorem dX12_storm_125 : decode cX12_storm 125 = .ok (.aload_n 0, 1) := by decide +kernel
theorem dX12_storm_126 : decode cX12_storm 126 = .ok (.iload_n 1, 1) := by decide +kernel
theorem dX12_storm_127 : decode cX12_storm 127 = .ok (.invokevirtual 100, 3) := by decide +kernel
theorem dX12_storm_130 : decode cX12_storm 130 = .ok (.ireturn, 1) := by decide +kernel
theorem dX12_storm_131 : decode cX12_storm 131 = .ok (.aload_n 0, 1) := by decide +kernel
theorem dX12_storm_132 : decode cX12_storm 132 = .ok (.iload_n 1, 1) := by decide +kernel
theorem dX12_storm_133 : decode cX12_storm 133 = .ok (.invokevirtual 103, 3) := by decide +kernel
theorem dX12_storm_136 : decode cX12_storm 136 = .ok (.ireturn, 1) := by decide +kernel
theorem dX12_greatestStorm_0 : decode cX12_greatestStorm 0 = .ok (.aload_n 0, 1) := by decide +kernel
theorem dX12_greatestStorm_1 : decode cX12_greatestStorm 1 = .ok (.invokevirtual 85, 3) := by decide +kernel
theorem dX12_greatestStorm_4 : decode cX12_greatestStorm 4 = .ok (.bipush (-4), 2) := by decide +kernel
theorem dX12_greatestStorm_6 : decode cX12_greatestStorm 6 = .ok (.istore_n 1, 1) := by decide +kernel
theorem dX12_greatestStorm_7 : decode cX12_greatestStorm 7 = .ok (.iconst (-1), 1) := by decide +kernel
theorem dX12_greatestStorm_8 : decode cX12_greatestStorm 8 = .ok (.istore_n 2, 1) := by decide +kernel
theorem dX12_greatestStorm_9 : decode cX12_greatestStorm 9 = .ok (.iconst 0, 1) := by decide +kernel
theorem dX12_greatestStorm_10 : decode cX12_greatestStorm 10 = .ok (.istore_n 3, 1) := by decide +kernel
theorem dX12_greatestStorm_11 : decode cX12_greatestStorm 11 = .ok (.iload_n 3, 1) := by decide +kernel
theorem dX12_greatestStorm_12 : decode cX12_greatestStorm 12 = .ok (.aload_n 0, 1) := by decide +kernel
theorem dX12_greatestStorm_13 : decode cX12_greatestStorm 13 = .ok (.getfield 88, 3) := by decide +kernel
theorem dX12_greatestStorm_16 : decode cX12_greatestStorm 16 = .ok (.if_icmp .ge 47, 3) := by decide +kernel
theorem dX12_greatestStorm_19 : decode cX12_greatestStorm 19 = .ok (.aload_n 0, 1) := by decide +kernel
theorem dX12_greatestStorm_20 : decode cX12_greatestStorm 20 = .ok (.iload_n 3, 1) := by decide +kernel
theorem dX12_greatestStorm_21 : decode cX12_greatestStorm 21 = .ok (.invokevirtual 97, 3) := by decide +kernel
theorem dX12_greatestStorm_24 : decode cX12_greatestStorm 24 = .ok (.aload_n 0, 1) := by decide +kernel
theorem dX12_greatestStorm_25 : decode cX12_greatestStorm 25 = .ok (.iload_n 3, 1) := by decide +kernel
theorem dX12_greatestStorm_26 : decode cX12_greatestStorm 26 = .ok (.invokevirtual 100, 3) := by decide +kernel
theorem dX12_greatestStorm_29 : decode cX12_greatestStorm 29 = .ok (.iadd, 1) := by decide +kernel
theorem dX12_greatestStorm_30 : decode cX12_greatestStorm 30 = .ok (.istore 4, 2) := by decide +kernel
theorem dX12_greatestStorm_32 : decode cX12_greatestStorm 32 = .ok (.iload 4, 2) := by decide +kernel
theorem dX12_greatestStorm_34 : decode cX12_greatestStorm 34 = .ok (.iload_n 2, 1) := by decide +kernel
theorem dX12_greatestStorm_35 : decode cX12_greatestStorm 35 = .ok (.if_icmp .le 7, 3) := by decide +kernel
theorem dX12_greatestStorm_38 : decode cX12_greatestStorm 38 = .ok (.iload_n 3, 1) := by decide +kernel
theorem dX12_greatestStorm_39 : decode cX12_greatestStorm 39 = .ok (.goto 4, 3) := by decide +kernel
theorem dX12_greatestStorm_42 : decode cX12_greatestStorm 42 = .ok (.iload_n 1, 1) := by decide +kernel
theorem dX12_greatestStorm_43 : decode cX12_greatestStorm 43 = .ok (.istore_n 1, 1) := by decide +kernel
theorem dX12_greatestStorm_44 : decode cX12_greatestStorm 44 = .ok (.iload 4, 2) := by decide +kernel
theorem dX12_greatestStorm_46 : decode cX12_greatestStorm 46 = .ok (.iload_n 2, 1) := by decide +kernel
theorem dX12_greatestStorm_47 : decode cX12_greatestStorm 47 = .ok (.if_icmp .le 8, 3) := by decide +kernel
theorem dX12_greatestStorm_50 : decode cX12_greatestStorm 50 = .ok (.iload 4, 2) := by decide +kernel
theorem dX12_greatestStorm_52 : decode cX12_greatestStorm 52 = .ok (.goto 4, 3) := by decide +kernel
theorem dX12_greatestStorm_55 : decode cX12_greatestStorm 55 = .ok (.iload_n 2, 1) := by decide +kernel
theorem dX12_greatestStorm_56 : decode cX12_greatestStorm 56 = .ok (.istore_n 2, 1) := by decide +kernel
theorem dX12_greatestStorm_57 : decode cX12_greatestStorm 57 = .ok (.iinc 3 1, 3) := by decide +kernel
theorem dX12_greatestStorm_60 : decode cX12_greatestStorm 60 = .ok (.goto (-49), 3) := by decide +kernel
theorem dX12_greatestStorm_63 : decode cX12_greatestStorm 63 = .ok (.iload_n 1, 1) := by decide +kernel
theorem dX12_greatestStorm_64 : decode cX12_greatestStorm 64 = .ok (.ireturn, 1) := by decide +kernel
theorem dX12_gapForOne_0 : decode cX12_gapForOne 0 = .ok (.iconst 1, 1) := by decide +kernel
theorem dX12_gapForOne_1 : decode cX12_gapForOne 1 = .ok (.istore_n 1, 1) := by decide +kernel
theorem dX12_gapForOne_2 : decode cX12_gapForOne 2 = .ok (.iconst 1, 1) := by decide +kernel
theorem dX12_gapForOne_3 : decode cX12_gapForOne 3 = .ok (.istore_n 2, 1) := by decide +kernel
theorem dX12_gapForOne_4 : decode cX12_gapForOne 4 = .ok (.iload_n 2, 1) := by decide +kernel
theorem dX12_gapForOne_5 : decode cX12_gapForOne 5 = .ok (.aload_n 0, 1) := by decide +kernel
theorem dX12_gapForOne_6 : decode cX12_gapForOne 6 = .ok (.getfield 7, 3) := by decide +kernel
theorem dX12_gapForOne_9 : decode cX12_gapForOne 9 = .ok (.bipush 63, 2) := by decide +kernel
theorem dX12_gapForOne_11 : decode cX12_gapForOne 11 = .ok (.iaload, 1) := by decide +kernel
theorem dX12_gapForOne_12 : decode cX12_gapForOne 12 = .ok (.if_icmp .ge 28, 3) := by decide +kernel
theorem dX12_gapForOne_15 : decode cX12_gapForOne 15 = .ok (.aload_n 0, 1) := by decide +kernel
theorem dX12_gapForOne_16 : decode cX12_gapForOne 16 = .ok (.iload_n 2, 1) := by decide +kernel
theorem dX12_gapForOne_17 : decode cX12_gapForOne 17 = .ok (.invokevirtual 94, 3) := by decide +kernel
theorem dX12_gapForOne_20 : decode cX12_gapForOne 20 = .ok (.iload_n 1, 1) := by decide +kernel
theorem dX12_gapForOne_21 : decode cX12_gapForOne 21 = .ok (.if_icmp .le 11, 3) := by decide +kernel
theorem dX12_gapForOne_24 : decode cX12_gapForOne 24 = .ok (.aload_n 0, 1) := by decide +kernel
theorem dX12_gapForOne_25 : decode cX12_gapForOne 25 = .ok (.iload_n 2, 1) := by decide +kernel
theorem dX12_gapForOne_26 : decode cX12_gapForOne 26 = .ok (.invokevirtual 94, 3) := by decide +kernel
theorem dX12_gapForOne_29 : decode cX12_gapForOne 29 = .ok (.goto 4, 3) := by decide +kernel
theorem dX12_gapForOne_32 : decode cX12_gapForOne 32 = .ok (.iload_n 1, 1) := by decide +kernel
theorem dX12_gapForOne_33 : decode cX12_gapForOne 33 = .ok (.istore_n 1, 1) := by decide +kernel
theorem dX12_gapForOne_34 : decode cX12_gapForOne 34 = .ok (.iinc 2 1, 3) := by decide +kernel
theorem dX12_gapForOne_37 : decode cX12_gapForOne 37 = .ok (.goto (-33), 3) := by decide +kernel
theorem dX12_gapForOne_40 : decode cX12_gapForOne 40 = .ok (.aload_n 0, 1) := by decide +kernel
theorem dX12_gapForOne_41 : decode cX12_gapForOne 41 = .ok (.getfield 7, 3) := by decide +kernel
theorem dX12_gapForOne_44 : decode cX12_gapForOne 44 = .ok (.bipush 63, 2) := by decide +kernel
theorem dX12_gapForOne_46 : decode cX12_gapForOne 46 = .ok (.iaload, 1) := by decide +kernel
theorem dX12_gapForOne_47 : decode cX12_gapForOne 47 = .ok (.ifCond .eq 10, 3) := by decide +kernel
theorem dX12_gapForOne_50 : decode cX12_gapForOne 50 = .ok (.iload_n 1, 1) := by decide +kernel
theorem dX12_gapForOne_51 : decode cX12_gapForOne 51 = .ok (.sipush 1000, 3) := by decide +kernel
theorem dX12_gapForOne_54 : decode cX12_gapForOne 54 = .ok (.if_icmp .le 8, 3) := by decide +kernel
theorem dX12_gapForOne_57 : decode cX12_gapForOne 57 = .ok (.bipush (-4), 2) := by decide +kernel
theorem dX12_gapForOne_59 : decode cX12_gapForOne 59 = .ok (.goto 4, 3) := by decide +kernel
theorem dX12_gapForOne_62 : decode cX12_gapForOne 62 = .ok (.iload_n 1, 1) := by decide +kernel
theorem dX12_gapForOne_63 : decode cX12_gapForOne 63 = .ok (.ireturn, 1) := by decide +kernel
theorem dX12_ifRun_0 : decode cX12_ifRun 0 = .ok (.iload_n 1, 1) := by decide +kernel
theorem dX12_ifRun_1 : decode cX12_ifRun 1 = .ok (.iconst 1, 1) := by decide +kernel
theorem dX12_ifRun_2 : decode cX12_ifRun 2 = .ok (.sipush 1000, 3) := by decide +kernel
theorem dX12_ifRun_5 : decode cX12_ifRun 5 = .ok (.invokestatic 33, 3) := by decide +kernel
theorem dX12_ifRun_8 : decode cX12_ifRun 8 = .ok (.ifCond .eq 13, 3) := by decide +kernel
theorem dX12_ifRun_11 : decode cX12_ifRun 11 = .ok (.iload_n 2, 1) := by decide +kernel
theorem dX12_ifRun_12 : decode cX12_ifRun 12 = .ok (.iconst 0, 1) := by decide +kernel
theorem dX12_ifRun_13 : decode cX12_ifRun 13 = .ok (.bipush 7, 2) := by decide +kernel
theorem dX12_ifRun_15 : decode cX12_ifRun 15 = .ok (.invokestatic 33, 3) := by decide +kernel
theorem dX12_ifRun_18 : decode cX12_ifRun 18 = .ok (.ifCond .ne 5, 3) := by decide +kernel
theorem dX12_ifRun_21 : decode cX12_ifRun 21 = .ok (.iconst (-1), 1) := by decide +kernel
theorem dX12_ifRun_22 : decode cX12_ifRun 22 = .ok (.ireturn, 1) := by decide +kernel
theorem dX12_ifRun_23 : decode cX12_ifRun 23 = .ok (.aload_n 0, 1) := by decide +kernel
theorem dX12_ifRun_24 : decode cX12_ifRun 24 = .ok (.getfield 7, 3) := by decide +kernel
theorem dX12_ifRun_27 : decode cX12_ifRun 27 = .ok (.iconst 0, 1) := by decide +kernel
theorem dX12_ifRun_28 : decode cX12_ifRun 28 = .ok (.iaload, 1) := by decide +kernel
theorem dX12_ifRun_29 : decode cX12_ifRun 29 = .ok (.iload_n 1, 1) := by decide +kernel
theorem dX12_ifRun_30 : decode cX12_ifRun 30 = .ok (.iadd, 1) := by decide +kernel
theorem dX12_ifRun_31 : decode cX12_ifRun 31 = .ok (.sipush 5000, 3) := by decide +kernel
theorem dX12_ifRun_34 : decode cX12_ifRun 34 = .ok (.if_icmp .le 6, 3) := by decide +kernel
theorem dX12_ifRun_37 : decode cX12_ifRun 37 = .ok (.bipush (-3), 2) := by decide +kernel
theorem dX12_ifRun_39 : decode cX12_ifRun 39 = .ok (.ireturn, 1) := by decide +kernel
theorem dX12_ifRun_40 : decode cX12_ifRun 40 = .ok (.aload_n 0, 1) := by decide +kernel
theorem dX12_ifRun_41 : decode cX12_ifRun 41 = .ok (.invokevirtual 106, 3) := by decide +kernel
theorem dX12_ifRun_44 : decode cX12_ifRun 44 = .ok (.aload_n 0, 1) := by decide +kernel
theorem dX12_ifRun_45 : decode cX12_ifRun 45 = .ok (.iload_n 1, 1) := by decide +kernel
theorem dX12_ifRun_46 : decode cX12_ifRun 46 = .ok (.invokevirtual 74, 3) := by decide +kernel
theorem dX12_ifRun_49 : decode cX12_ifRun 49 = .ok (.istore_n 3, 1) := by decide +kernel
theorem dX12_ifRun_50 : decode cX12_ifRun 50 = .ok (.iload_n 2, 1) := by decide +kernel
theorem dX12_ifRun_51 : decode cX12_ifRun 51 = .ok (.ifCond .ne 7, 3) := by decide +kernel
theorem dX12_ifRun_54 : decode cX12_ifRun 54 = .ok (.iload_n 3, 1) := by decide +kernel
theorem dX12_ifRun_55 : decode cX12_ifRun 55 = .ok (.goto 51, 3) := by decide +kernel
theorem dX12_ifRun_58 : decode cX12_ifRun 58 = .ok (.iload_n 2, 1) := by decide +kernel
theorem dX12_ifRun_59 : decode cX12_ifRun 59 = .ok (.iconst 5, 1) := by decide +kernel
theorem dX12_ifRun_60 : decode cX12_ifRun 60 = .ok (.if_icmp .ge 25, 3) := by decide +kernel
theorem dX12_ifRun_63 : decode cX12_ifRun 63 = .ok (.aload_n 0, 1) := by decide +kernel
theorem dX12_ifRun_64 : decode cX12_ifRun 64 = .ok (.getfield 7, 3) := by decide +kernel
theorem dX12_ifRun_67 : decode cX12_ifRun 67 = .ok (.bipush 6, 2) := by decide +kernel
theorem dX12_ifRun_69 : decode cX12_ifRun 69 = .ok (.iload_n 2, 1) := by decide +kernel
theorem dX12_ifRun_70 : decode cX12_ifRun 70 = .ok (.iadd, 1) := by decide +kernel
theorem dX12_ifRun_71 : decode cX12_ifRun 71 = .ok (.iaload, 1) := by decide +kernel
theorem dX12_ifRun_72 : decode cX12_ifRun 72 = .ok (.aload_n 0, 1) := by decide +kernel
theorem dX12_ifRun_73 : decode cX12_ifRun 73 = .ok (.getfield 16, 3) := by decide +kernel
theorem dX12_ifRun_76 : decode cX12_ifRun 76 = .ok (.bipush 6, 2) := by decide +kernel
theorem dX12_ifRun_78 : decode cX12_ifRun 78 = .ok (.iload_n 2, 1) := by decide +kernel
theorem dX12_ifRun_79 : decode cX12_ifRun 79 = .ok (.iadd, 1) := by decide +kernel
theorem dX12_ifRun_80 : decode cX12_ifRun 80 = .ok (.iaload, 1) := by decide +kernel
theorem dX12_ifRun_81 : decode cX12_ifRun 81 = .ok (.isub, 1) := by decide +kernel
theorem dX12_ifRun_82 : decode cX12_ifRun 82 = .ok (.goto 24, 3) := by decide +kernel
theorem dX12_ifRun_85 : decode cX12_ifRun 85 = .ok (.iload_n 2, 1) := by decide +kernel
theorem dX12_ifRun_86 : decode cX12_ifRun 86 = .ok (.bipush 7, 2) := by decide +kernel
theorem dX12_ifRun_88 : decode cX12_ifRun 88 = .ok (.if_icmp .ge 14, 3) := by decide +kernel
theorem dX12_ifRun_91 : decode cX12_ifRun 91 = .ok (.aload_n 0, 1) := by decide +kernel
theorem dX12_ifRun_92 : decode cX12_ifRun 92 = .ok (.getfield 7, 3) := by decide +kernel
theorem dX12_ifRun_95 : decode cX12_ifRun 95 = .ok (.iload_n 2, 1) := by decide +kernel
theorem dX12_ifRun_96 : decode cX12_ifRun 96 = .ok (.iconst 4, 1) := by decide +kernel
theorem dX12_ifRun_97 : decode cX12_ifRun 97 = .ok (.isub, 1) := by decide +kernel
theorem dX12_ifRun_98 : decode cX12_ifRun 98 = .ok (.iaload, 1) := by decide +kernel
theorem dX12_ifRun_99 : decode cX12_ifRun 99 = .ok (.goto 7, 3) := by decide +kernel
theorem dX12_ifRun_102 : decode cX12_ifRun 102 = .ok (.aload_n 0, 1) := by decide +kernel
theorem dX12_ifRun_103 : decode cX12_ifRun 103 = .ok (.invokevirtual 37, 3) := by decide +kernel
theorem dX12_ifRun_106 : decode cX12_ifRun 106 = .ok (.istore 4, 2) := by decide +kernel
theorem dX12_ifRun_108 : decode cX12_ifRun 108 = .ok (.aload_n 0, 1) := by decide +kernel
theorem dX12_ifRun_109 : decode cX12_ifRun 109 = .ok (.invokevirtual 109, 3) := by decide +kernel
theorem dX12_ifRun_112 : decode cX12_ifRun 112 = .ok (.iload 4, 2) := by decide +kernel
theorem dX12_ifRun_114 : decode cX12_ifRun 114 = .ok (.ireturn, 1) := by decide +kernel
theorem dX12_capacityFor_0 : decode cX12_capacityFor 0 = .ok (.iload_n 1, 1) := by decide +kernel
theorem dX12_capacityFor_1 : decode cX12_capacityFor 1 = .ok (.iconst 1, 1) := by decide +kernel
theorem dX12_capacityFor_2 : decode cX12_capacityFor 2 = .ok (.sipush 1000, 3) := by decide +kernel
theorem dX12_capacityFor_5 : decode cX12_capacityFor 5 = .ok (.invokestatic 33, 3) := by decide +kernel
theorem dX12_capacityFor_8 : decode cX12_capacityFor 8 = .ok (.ifCond .eq 13, 3) := by decide +kernel
theorem dX12_capacityFor_11 : decode cX12_capacityFor 11 = .ok (.iload_n 2, 1) := by decide +kernel
theorem dX12_capacityFor_12 : decode cX12_capacityFor 12 = .ok (.iconst 0, 1) := by decide +kernel
theorem dX12_capacityFor_13 : decode cX12_capacityFor 13 = .ok (.ldc 112, 2) := by decide +kernel
theorem dX12_capacityFor_15 : decode cX12_capacityFor 15 = .ok (.invokestatic 33, 3) := by decide +kernel
theorem dX12_capacityFor_18 : decode cX12_capacityFor 18 = .ok (.ifCond .ne 5, 3) := by decide +kernel
theorem dX12_capacityFor_21 : decode cX12_capacityFor 21 = .ok (.iconst (-1), 1) := by decide +kernel
theorem dX12_capacityFor_22 : decode cX12_capacityFor 22 = .ok (.ireturn, 1) := by decide +kernel
theorem dX12_capacityFor_23 : decode cX12_capacityFor 23 = .ok (.aload_n 0, 1) := by decide +kernel
theorem dX12_capacityFor_24 : decode cX12_capacityFor 24 = .ok (.getfield 7, 3) := by decide +kernel
theorem dX12_capacityFor_27 : decode cX12_capacityFor 27 = .ok (.iconst 0, 1) := by decide +kernel
theorem dX12_capacityFor_28 : decode cX12_capacityFor 28 = .ok (.iaload, 1) := by decide +kernel
theorem dX12_capacityFor_29 : decode cX12_capacityFor 29 = .ok (.iload_n 1, 1) := by decide +kernel
theorem dX12_capacityFor_30 : decode cX12_capacityFor 30 = .ok (.iadd, 1) := by decide +kernel
theorem dX12_capacityFor_31 : decode cX12_capacityFor 31 = .ok (.sipush 5000, 3) := by decide +kernel
theorem dX12_capacityFor_34 : decode cX12_capacityFor 34 = .ok (.if_icmp .le 6, 3) := by decide +kernel
theorem dX12_capacityFor_37 : decode cX12_capacityFor 37 = .ok (.bipush (-3), 2) := by decide +kernel
theorem dX12_capacityFor_39 : decode cX12_capacityFor 39 = .ok (.ireturn, 1) := by decide +kernel
theorem dX12_capacityFor_40 : decode cX12_capacityFor 40 = .ok (.aload_n 0, 1) := by decide +kernel
theorem dX12_capacityFor_41 : decode cX12_capacityFor 41 = .ok (.invokevirtual 106, 3) := by decide +kernel
theorem dX12_capacityFor_44 : decode cX12_capacityFor 44 = .ok (.bipush (-4), 2) := by decide +kernel
theorem dX12_capacityFor_46 : decode cX12_capacityFor 46 = .ok (.istore_n 3, 1) := by decide +kernel
theorem dX12_capacityFor_47 : decode cX12_capacityFor 47 = .ok (.bipush 20, 2) := by decide +kernel
theorem dX12_capacityFor_49 : decode cX12_capacityFor 49 = .ok (.istore 4, 2) := by decide +kernel
theorem dX12_capacityFor_51 : decode cX12_capacityFor 51 = .ok (.iload 4, 2) := by decide +kernel
theorem dX12_capacityFor_53 : decode cX12_capacityFor 53 = .ok (.sipush 500, 3) := by decide +kernel
theorem dX12_capacityFor_56 : decode cX12_capacityFor 56 = .ok (.if_icmp .gt 80, 3) := by decide +kernel
theorem dX12_capacityFor_59 : decode cX12_capacityFor 59 = .ok (.iload_n 3, 1) := by decide +kernel
theorem dX12_capacityFor_60 : decode cX12_capacityFor 60 = .ok (.bipush (-4), 2) := by decide +kernel
theorem dX12_capacityFor_62 : decode cX12_capacityFor 62 = .ok (.if_icmp .ne 74, 3) := by decide +kernel
theorem dX12_capacityFor_65 : decode cX12_capacityFor 65 = .ok (.aload_n 0, 1) := by decide +kernel
theorem dX12_capacityFor_66 : decode cX12_capacityFor 66 = .ok (.getfield 7, 3) := by decide +kernel
theorem dX12_capacityFor_69 : decode cX12_capacityFor 69 = .ok (.bipush 11, 2) := by decide +kernel
theorem dX12_capacityFor_71 : decode cX12_capacityFor 71 = .ok (.iload 4, 2) := by decide +kernel
theorem dX12_capacityFor_73 : decode cX12_capacityFor 73 = .ok (.iastore, 1) := by decide +kernel
theorem dX12_capacityFor_74 : decode cX12_capacityFor 74 = .ok (.aload_n 0, 1) := by decide +kernel
theorem dX12_capacityFor_75 : decode cX12_capacityFor 75 = .ok (.iload_n 1, 1) := by decide +kernel
theorem dX12_capacityFor_76 : decode cX12_capacityFor 76 = .ok (.invokevirtual 74, 3) := by decide +kernel
theorem dX12_capacityFor_79 : decode cX12_capacityFor 79 = .ok (.pop, 1) := by decide +kernel
theorem dX12_capacityFor_80 : decode cX12_capacityFor 80 = .ok (.aload_n 0, 1) := by decide +kernel
theorem dX12_capacityFor_81 : decode cX12_capacityFor 81 = .ok (.getfield 7, 3) := by decide +kernel
theorem dX12_capacityFor_84 : decode cX12_capacityFor 84 = .ok (.bipush 9, 2) := by decide +kernel
theorem dX12_capacityFor_86 : decode cX12_capacityFor 86 = .ok (.iaload, 1) := by decide +kernel
theorem dX12_capacityFor_87 : decode cX12_capacityFor 87 = .ok (.aload_n 0, 1) := by decide +kernel
theorem dX12_capacityFor_88 : decode cX12_capacityFor 88 = .ok (.getfield 16, 3) := by decide +kernel
theorem dX12_capacityFor_91 : decode cX12_capacityFor 91 = .ok (.bipush 9, 2) := by decide +kernel
theorem dX12_capacityFor_93 : decode cX12_capacityFor 93 = .ok (.iaload, 1) := by decide +kernel
theorem dX12_capacityFor_94 : decode cX12_capacityFor 94 = .ok (.isub, 1) := by decide +kernel
theorem dX12_capacityFor_95 : decode cX12_capacityFor 95 = .ok (.aload_n 0, 1) := by decide +kernel
theorem dX12_capacityFor_96 : decode cX12_capacityFor 96 = .ok (.getfield 7, 3) := by decide +kernel
theorem dX12_capacityFor_99 : decode cX12_capacityFor 99 = .ok (.bipush 8, 2) := by decide +kernel
theorem dX12_capacityFor_101 : decode cX12_capacityFor 101 = .ok (.iaload, 1) := by decide +kernel
theorem dX12_capacityFor_102 : decode cX12_capacityFor 102 = .ok (.iadd, 1) := by decide +kernel
theorem dX12_capacityFor_103 : decode cX12_capacityFor 103 = .ok (.aload_n 0, 1) := by decide +kernel
theorem dX12_capacityFor_104 : decode cX12_capacityFor 104 = .ok (.getfield 16, 3) := by decide +kernel
theorem dX12_capacityFor_107 : decode cX12_capacityFor 107 = .ok (.bipush 8, 2) := by decide +kernel
theorem dX12_capacityFor_109 : decode cX12_capacityFor 109 = .ok (.iaload, 1) := by decide +kernel
theorem dX12_capacityFor_110 : decode cX12_capacityFor 110 = .ok (.isub, 1) := by decide +kernel
theorem dX12_capacityFor_111 : decode cX12_capacityFor 111 = .ok (.istore 5, 2) := by decide +kernel
theorem dX12_capacityFor_113 : decode cX12_capacityFor 113 = .ok (.iload 5, 2) := by decide +kernel
theorem dX12_capacityFor_115 : decode cX12_capacityFor 115 = .ok (.iload_n 2, 1) := by decide +kernel
theorem dX12_capacityFor_116 : decode cX12_capacityFor 116 = .ok (.if_icmp .gt 8, 3) := by decide +kernel
theorem dX12_capacityFor_119 : decode cX12_capacityFor 119 = .ok (.iload 4, 2) := by decide +kernel
theorem dX12_capacityFor_121 : decode cX12_capacityFor 121 = .ok (.goto 4, 3) := by decide +kernel
theorem dX12_capacityFor_124 : decode cX12_capacityFor 124 = .ok (.iload_n 3, 1) := by decide +kernel
theorem dX12_capacityFor_125 : decode cX12_capacityFor 125 = .ok (.istore_n 3, 1) := by decide +kernel
theorem dX12_capacityFor_126 : decode cX12_capacityFor 126 = .ok (.aload_n 0, 1) := by decide +kernel
theorem dX12_capacityFor_127 : decode cX12_capacityFor 127 = .ok (.invokevirtual 109, 3) := by decide +kernel
theorem dX12_capacityFor_130 : decode cX12_capacityFor 130 = .ok (.iinc 4 1, 3) := by decide +kernel
theorem dX12_capacityFor_133 : decode cX12_capacityFor 133 = .ok (.goto (-82), 3) := by decide +kernel
theorem dX12_capacityFor_136 : decode cX12_capacityFor 136 = .ok (.iload_n 3, 1) := by decide +kernel
theorem dX12_capacityFor_137 : decode cX12_capacityFor 137 = .ok (.ireturn, 1) := by decide +kernel
theorem dX12_untilStop_0 : decode cX12_untilStop 0 = .ok (.aload_n 0, 1) := by decide +kernel
theorem dX12_untilStop_1 : decode cX12_untilStop 1 = .ok (.getfield 7, 3) := by decide +kernel
theorem dX12_untilStop_4 : decode cX12_untilStop 4 = .ok (.iconst 4, 1) := by decide +kernel
theorem dX12_untilStop_5 : decode cX12_untilStop 5 = .ok (.iaload, 1) := by decide +kernel
theorem dX12_untilStop_6 : decode cX12_untilStop 6 = .ok (.ireturn, 1) := by decide +kernel
theorem dX12_gearsFor_0 : decode cX12_gearsFor 0 = .ok (.iload_n 1, 1) := by decide +kernel
theorem dX12_gearsFor_1 : decode cX12_gearsFor 1 = .ok (.iconst 1, 1) := by decide +kernel
theorem dX12_gearsFor_2 : decode cX12_gearsFor 2 = .ok (.ldc 112, 2) := by decide +kernel
theorem dX12_gearsFor_4 : decode cX12_gearsFor 4 = .ok (.invokestatic 33, 3) := by decide +kernel
theorem dX12_gearsFor_7 : decode cX12_gearsFor 7 = .ok (.ifCond .ne 5, 3) := by decide +kernel
theorem dX12_gearsFor_10 : decode cX12_gearsFor 10 = .ok (.iconst (-1), 1) := by decide +kernel
theorem dX12_gearsFor_11 : decode cX12_gearsFor 11 = .ok (.ireturn, 1) := by decide +kernel
theorem dX12_gearsFor_12 : decode cX12_gearsFor 12 = .ok (.bipush 8, 2) := by decide +kernel
theorem dX12_gearsFor_14 : decode cX12_gearsFor 14 = .ok (.istore_n 2, 1) := by decide +kernel
theorem dX12_gearsFor_15 : decode cX12_gearsFor 15 = .ok (.iload_n 2, 1) := by decide +kernel
theorem dX12_gearsFor_16 : decode cX12_gearsFor 16 = .ok (.bipush 120, 2) := by decide +kernel
theorem dX12_gearsFor_18 : decode cX12_gearsFor 18 = .ok (.if_icmp .gt 47, 3) := by decide +kernel
theorem dX12_gearsFor_21 : decode cX12_gearsFor 21 = .ok (.bipush 8, 2) := by decide +kernel
theorem dX12_gearsFor_23 : decode cX12_gearsFor 23 = .ok (.istore_n 3, 1) := by decide +kernel
theorem dX12_gearsFor_24 : decode cX12_gearsFor 24 = .ok (.iload_n 3, 1) := by decide +kernel
theorem dX12_gearsFor_25 : decode cX12_gearsFor 25 = .ok (.bipush 120, 2) := by decide +kernel
theorem dX12_gearsFor_27 : decode cX12_gearsFor 27 = .ok (.if_icmp .gt 32, 3) := by decide +kernel
theorem dX12_gearsFor_30 : decode cX12_gearsFor 30 = .ok (.aload_n 0, 1) := by decide +kernel
theorem dX12_gearsFor_31 : decode cX12_gearsFor 31 = .ok (.getfield 7, 3) := by decide +kernel
theorem dX12_gearsFor_34 : decode cX12_gearsFor 34 = .ok (.bipush 16, 2) := by decide +kernel
theorem dX12_gearsFor_36 : decode cX12_gearsFor 36 = .ok (.iaload, 1) := by decide +kernel
theorem dX12_gearsFor_37 : decode cX12_gearsFor 37 = .ok (.iload_n 3, 1) := by decide +kernel
theorem dX12_gearsFor_38 : decode cX12_gearsFor 38 = .ok (.imul, 1) := by decide +kernel
theorem dX12_gearsFor_39 : decode cX12_gearsFor 39 = .ok (.iload_n 1, 1) := by decide +kernel
theorem dX12_gearsFor_40 : decode cX12_gearsFor 40 = .ok (.iload_n 2, 1) := by decide +kernel
theorem dX12_gearsFor_41 : decode cX12_gearsFor 41 = .ok (.imul, 1) := by decide +kernel
theorem dX12_gearsFor_42 : decode cX12_gearsFor 42 = .ok (.if_icmp .ne 11, 3) := by decide +kernel
theorem dX12_gearsFor_45 : decode cX12_gearsFor 45 = .ok (.sipush 1000, 3) := by decide +kernel
theorem dX12_gearsFor_48 : decode cX12_gearsFor 48 = .ok (.iload_n 2, 1) := by decide +kernel
theorem dX12_gearsFor_49 : decode cX12_gearsFor 49 = .ok (.imul, 1) := by decide +kernel
theorem dX12_gearsFor_50 : decode cX12_gearsFor 50 = .ok (.iload_n 3, 1) := by decide +kernel
theorem dX12_gearsFor_51 : decode cX12_gearsFor 51 = .ok (.iadd, 1) := by decide +kernel
theorem dX12_gearsFor_52 : decode cX12_gearsFor 52 = .ok (.ireturn, 1) := by decide +kernel
theorem dX12_gearsFor_53 : decode cX12_gearsFor 53 = .ok (.iinc 3 1, 3) := by decide +kernel
theorem dX12_gearsFor_56 : decode cX12_gearsFor 56 = .ok (.goto (-32), 3) := by decide +kernel
theorem dX12_gearsFor_59 : decode cX12_gearsFor 59 = .ok (.iinc 2 1, 3) := by decide +kernel
theorem dX12_gearsFor_62 : decode cX12_gearsFor 62 = .ok (.goto (-47), 3) := by decide +kernel
theorem dX12_gearsFor_65 : decode cX12_gearsFor 65 = .ok (.bipush (-4), 2) := by decide +kernel
theorem dX12_gearsFor_67 : decode cX12_gearsFor 67 = .ok (.ireturn, 1) := by decide +kernel
theorem dX12_type_0 : decode cX12_type 0 = .ok (.iload_n 1, 1) := by decide +kernel
theorem dX12_type_1 : decode cX12_type 1 = .ok (.bipush 32, 2) := by decide +kernel
theorem dX12_type_3 : decode cX12_type 3 = .ok (.bipush 126, 2) := by decide +kernel
theorem dX12_type_5 : decode cX12_type 5 = .ok (.invokestatic 33, 3) := by decide +kernel
theorem dX12_type_8 : decode cX12_type 8 = .ok (.ifCond .ne 5, 3) := by decide +kernel
theorem dX12_type_11 : decode cX12_type 11 = .ok (.iconst (-1), 1) := by decide +kernel
theorem dX12_type_12 : decode cX12_type 12 = .ok (.ireturn, 1) := by decide +kernel
theorem dX12_type_13 : decode cX12_type 13 = .ok (.aload_n 0, 1) := by decide +kernel
theorem dX12_type_14 : decode cX12_type 14 = .ok (.getfield 91, 3) := by decide +kernel
theorem dX12_type_17 : decode cX12_type 17 = .ok (.bipush 100, 2) := by decide +kernel
theorem dX12_type_19 : decode cX12_type 19 = .ok (.if_icmp .ne 6, 3) := by decide +kernel
theorem dX12_type_22 : decode cX12_type 22 = .ok (.bipush (-3), 2) := by decide +kernel
theorem dX12_type_24 : decode cX12_type 24 = .ok (.ireturn, 1) := by decide +kernel
theorem dX12_type_25 : decode cX12_type 25 = .ok (.aload_n 0, 1) := by decide +kernel
theorem dX12_type_26 : decode cX12_type 26 = .ok (.getfield 19, 3) := by decide +kernel
theorem dX12_type_29 : decode cX12_type 29 = .ok (.aload_n 0, 1) := by decide +kernel
theorem dX12_type_30 : decode cX12_type 30 = .ok (.getfield 91, 3) := by decide +kernel
theorem dX12_type_33 : decode cX12_type 33 = .ok (.iload_n 1, 1) := by decide +kernel
theorem dX12_type_34 : decode cX12_type 34 = .ok (.i2c, 1) := by decide +kernel
theorem dX12_type_35 : decode cX12_type 35 = .ok (.castore, 1) := by decide +kernel
theorem dX12_type_36 : decode cX12_type 36 = .ok (.aload_n 0, 1) := by decide +kernel
theorem dX12_type_37 : decode cX12_type 37 = .ok (.dup, 1) := by decide +kernel
theorem dX12_type_38 : decode cX12_type 38 = .ok (.getfield 91, 3) := by decide +kernel
theorem dX12_type_41 : decode cX12_type 41 = .ok (.iconst 1, 1) := by decide +kernel
theorem dX12_type_42 : decode cX12_type 42 = .ok (.iadd, 1) := by decide +kernel
theorem dX12_type_43 : decode cX12_type 43 = .ok (.putfield 91, 3) := by decide +kernel
theorem dX12_type_46 : decode cX12_type 46 = .ok (.aload_n 0, 1) := by decide +kernel
theorem dX12_type_47 : decode cX12_type 47 = .ok (.getfield 91, 3) := by decide +kernel
theorem dX12_type_50 : decode cX12_type 50 = .ok (.ireturn, 1) := by decide +kernel
theorem dX12_clearText_0 : decode cX12_clearText 0 = .ok (.aload_n 0, 1) := by decide +kernel
theorem dX12_clearText_1 : decode cX12_clearText 1 = .ok (.getfield 91, 3) := by decide +kernel
theorem dX12_clearText_4 : decode cX12_clearText 4 = .ok (.istore_n 1, 1) := by decide +kernel
theorem dX12_clearText_5 : decode cX12_clearText 5 = .ok (.aload_n 0, 1) := by decide +kernel
theorem dX12_clearText_6 : decode cX12_clearText 6 = .ok (.iconst 0, 1) := by decide +kernel
theorem dX12_clearText_7 : decode cX12_clearText 7 = .ok (.putfield 91, 3) := by decide +kernel
theorem dX12_clearText_10 : decode cX12_clearText 10 = .ok (.iload_n 1, 1) := by decide +kernel
theorem dX12_clearText_11 : decode cX12_clearText 11 = .ok (.ireturn, 1) := by decide +kernel
theorem dX12_takes_0 : decode cX12_takes 0 = .ok (.aload_n 0, 1) := by decide +kernel
theorem dX12_takes_1 : decode cX12_takes 1 = .ok (.getfield 113, 3) := by decide +kernel
theorem dX12_takes_4 : decode cX12_takes 4 = .ok (.istore_n 3, 1) := by decide +kernel
theorem dX12_takes_5 : decode cX12_takes 5 = .ok (.iconst 0, 1) := by decide +kernel
theorem dX12_takes_6 : decode cX12_takes 6 = .ok (.istore 4, 2) := by decide +kernel
theorem dX12_takes_8 : decode cX12_takes 8 = .ok (.aload_n 0, 1) := by decide +kernel
theorem dX12_takes_9 : decode cX12_takes 9 = .ok (.getfield 113, 3) := by decide +kernel
theorem dX12_takes_12 : decode cX12_takes 12 = .ok (.aload_n 0, 1) := by decide +kernel
theorem dX12_takes_13 : decode cX12_takes 13 = .ok (.getfield 91, 3) := by decide +kernel
theorem dX12_takes_16 : decode cX12_takes 16 = .ok (.if_icmp .ge 65, 3) := by decide +kernel
theorem dX12_takes_19 : decode cX12_takes 19 = .ok (.aload_n 0, 1) := by decide +kernel
theorem dX12_takes_20 : decode cX12_takes 20 = .ok (.getfield 113, 3) := by decide +kernel
theorem dX12_takes_23 : decode cX12_takes 23 = .ok (.iload_n 3, 1) := by decide +kernel
theorem dX12_takes_24 : decode cX12_takes 24 = .ok (.iconst 4, 1) := by decide +kernel
theorem dX12_takes_25 : decode cX12_takes 25 = .ok (.iadd, 1) := by decide +kernel
theorem dX12_takes_26 : decode cX12_takes 26 = .ok (.if_icmp .ge 55, 3) := by decide +kernel
theorem dX12_takes_29 : decode cX12_takes 29 = .ok (.aload_n 0, 1) := by decide +kernel
theorem dX12_takes_30 : decode cX12_takes 30 = .ok (.getfield 19, 3) := by decide +kernel
theorem dX12_takes_33 : decode cX12_takes 33 = .ok (.aload_n 0, 1) := by decide +kernel
theorem dX12_takes_34 : decode cX12_takes 34 = .ok (.getfield 113, 3) := by decide +kernel
theorem dX12_takes_37 : decode cX12_takes 37 = .ok (.caload, 1) := by decide +kernel
theorem dX12_takes_38 : decode cX12_takes 38 = .ok (.bipush 48, 2) := by decide +kernel
theorem dX12_takes_40 : decode cX12_takes 40 = .ok (.bipush 57, 2) := by decide +kernel
theorem dX12_takes_42 : decode cX12_takes 42 = .ok (.invokestatic 33, 3) := by decide +kernel
theorem dX12_takes_45 : decode cX12_takes 45 = .ok (.ifCond .eq 36, 3) := by decide +kernel
theorem dX12_takes_48 : decode cX12_takes 48 = .ok (.bipush 10, 2) := by decide +kernel
theorem dX12_takes_50 : decode cX12_takes 50 = .ok (.iload 4, 2) := by decide +kernel
theorem dX12_takes_52 : decode cX12_takes 52 = .ok (.imul, 1) := by decide +kernel
theorem dX12_takes_53 : decode cX12_takes 53 = .ok (.aload_n 0, 1) := by decide +kernel
theorem dX12_takes_54 : decode cX12_takes 54 = .ok (.getfield 19, 3) := by decide +kernel
theorem dX12_takes_57 : decode cX12_takes 57 = .ok (.aload_n 0, 1) := by decide +kernel
theorem dX12_takes_58 : decode cX12_takes 58 = .ok (.getfield 113, 3) := by decide +kernel
theorem dX12_takes_61 : decode cX12_takes 61 = .ok (.caload, 1) := by decide +kernel
theorem dX12_takes_62 : decode cX12_takes 62 = .ok (.iadd, 1) := by decide +kernel
theorem dX12_takes_63 : decode cX12_takes 63 = .ok (.bipush 48, 2) := by decide +kernel
theorem dX12_takes_65 : decode cX12_takes 65 = .ok (.isub, 1) := by decide +kernel
theorem dX12_takes_66 : decode cX12_takes 66 = .ok (.istore 4, 2) := by decide +kernel
theorem dX12_takes_68 : decode cX12_takes 68 = .ok (.aload_n 0, 1) := by decide +kernel
theorem dX12_takes_69 : decode cX12_takes 69 = .ok (.dup, 1) := by decide +kernel
theorem dX12_takes_70 : decode cX12_takes 70 = .ok (.getfield 113, 3) := by decide +kernel
theorem dX12_takes_73 : decode cX12_takes 73 = .ok (.iconst 1, 1) := by decide +kernel
theorem dX12_takes_74 : decode cX12_takes 74 = .ok (.iadd, 1) := by decide +kernel
theorem dX12_takes_75 : decode cX12_takes 75 = .ok (.putfield 113, 3) := by decide +kernel
theorem dX12_takes_78 : decode cX12_takes 78 = .ok (.goto (-70), 3) := by decide +kernel
theorem dX12_takes_81 : decode cX12_takes 81 = .ok (.aload_n 0, 1) := by decide +kernel
theorem dX12_takes_82 : decode cX12_takes 82 = .ok (.getfield 23, 3) := by decide +kernel
theorem dX12_takes_85 : decode cX12_takes 85 = .ok (.iload_n 1, 1) := by decide +kernel
theorem dX12_takes_86 : decode cX12_takes 86 = .ok (.iload 4, 2) := by decide +kernel
theorem dX12_takes_88 : decode cX12_takes 88 = .ok (.iastore, 1) := by decide +kernel
theorem dX12_takes_89 : decode cX12_takes 89 = .ok (.aload_n 0, 1) := by decide +kernel
theorem dX12_takes_90 : decode cX12_takes 90 = .ok (.getfield 113, 3) := by decide +kernel
theorem dX12_takes_93 : decode cX12_takes 93 = .ok (.aload_n 0, 1) := by decide +kernel
theorem dX12_takes_94 : decode cX12_takes 94 = .ok (.getfield 91, 3) := by decide +kernel
theorem dX12_takes_97 : decode cX12_takes 97 = .ok (.if_icmp .ge 20, 3) := by decide +kernel
theorem dX12_takes_100 : decode cX12_takes 100 = .ok (.aload_n 0, 1) := by decide +kernel
theorem dX12_takes_101 : decode cX12_takes 101 = .ok (.getfield 19, 3) := by decide +kernel
theorem dX12_takes_104 : decode cX12_takes 104 = .ok (.aload_n 0, 1) := by decide +kernel
theorem dX12_takes_105 : decode cX12_takes 105 = .ok (.getfield 113, 3) := by decide +kernel
theorem dX12_takes_108 : decode cX12_takes 108 = .ok (.caload, 1) := by decide +kernel
theorem dX12_takes_109 : decode cX12_takes 109 = .ok (.iload_n 2, 1) := by decide +kernel
theorem dX12_takes_110 : decode cX12_takes 110 = .ok (.if_icmp .ne 7, 3) := by decide +kernel
theorem dX12_takes_113 : decode cX12_takes 113 = .ok (.iconst 1, 1) := by decide +kernel
theorem dX12_takes_114 : decode cX12_takes 114 = .ok (.goto 4, 3) := by decide +kernel
theorem dX12_takes_117 : decode cX12_takes 117 = .ok (.iconst 0, 1) := by decide +kernel
theorem dX12_takes_118 : decode cX12_takes 118 = .ok (.istore 5, 2) := by decide +kernel
theorem dX12_takes_120 : decode cX12_takes 120 = .ok (.aload_n 0, 1) := by decide +kernel
theorem dX12_takes_121 : decode cX12_takes 121 = .ok (.aload_n 0, 1) := by decide +kernel
theorem dX12_takes_122 : decode cX12_takes 122 = .ok (.getfield 113, 3) := by decide +kernel
theorem dX12_takes_125 : decode cX12_takes 125 = .ok (.iload_n 3, 1) := by decide +kernel
theorem dX12_takes_126 : decode cX12_takes 126 = .ok (.if_icmp .ne 7, 3) := by decide +kernel
theorem dX12_takes_129 : decode cX12_takes 129 = .ok (.iconst 1, 1) := by decide +kernel
theorem dX12_takes_130 : decode cX12_takes 130 = .ok (.goto 13, 3) := by decide +kernel
theorem dX12_takes_133 : decode cX12_takes 133 = .ok (.iload 5, 2) := by decide +kernel
theorem dX12_takes_135 : decode cX12_takes 135 = .ok (.ifCond .eq 7, 3) := by decide +kernel
theorem dX12_takes_138 : decode cX12_takes 138 = .ok (.iconst 0, 1) := by decide +kernel
theorem dX12_takes_139 : decode cX12_takes 139 = .ok (.goto 4, 3) := by decide +kernel
theorem dX12_takes_142 : decode cX12_takes 142 = .ok (.iconst 2, 1) := by decide +kernel
theorem dX12_takes_143 : decode cX12_takes 143 = .ok (.putfield 116, 3) := by decide +kernel
theorem dX12_takes_146 : decode cX12_takes 146 = .ok (.aload_n 0, 1) := by decide +kernel
theorem dX12_takes_147 : decode cX12_takes 147 = .ok (.dup, 1) := by decide +kernel
theorem dX12_takes_148 : decode cX12_takes 148 = .ok (.getfield 113, 3) := by decide +kernel
theorem dX12_takes_151 : decode cX12_takes 151 = .ok (.iconst 1, 1) := by decide +kernel
theorem dX12_takes_152 : decode cX12_takes 152 = .ok (.iadd, 1) := by decide +kernel
theorem dX12_takes_153 : decode cX12_takes 153 = .ok (.putfield 113, 3) := by decide +kernel
theorem dX12_takes_156 : decode cX12_takes 156 = .ok (.aload_n 0, 1) := by decide +kernel
theorem dX12_takes_157 : decode cX12_takes 157 = .ok (.getfield 116, 3) := by decide +kernel
theorem dX12_takes_160 : decode cX12_takes 160 = .ok (.ifCond .ne 7, 3) := by decide +kernel
theorem dX12_takes_163 : decode cX12_takes 163 = .ok (.iconst 1, 1) := by decide +kernel
theorem dX12_takes_164 : decode cX12_takes 164 = .ok (.goto 4, 3) := by decide +kernel
theorem dX12_takes_167 : decode cX12_takes 167 = .ok (.iconst 0, 1) := by decide +kernel
theorem dX12_takes_168 : decode cX12_takes 168 = .ok (.ireturn, 1) := by decide +kernel
theorem dX12_readsShower_0 : decode cX12_readsShower 0 = .ok (.iconst 3, 1) := by decide +kernel
theorem dX12_readsShower_1 : decode cX12_readsShower 1 = .ok (.aload_n 0, 1) := by decide +kernel
theorem dX12_readsShower_2 : decode cX12_readsShower 2 = .ok (.getfield 119, 3) := by decide +kernel
theorem dX12_readsShower_5 : decode cX12_readsShower 5 = .ok (.imul, 1) := by decide +kernel
theorem dX12_readsShower_6 : decode cX12_readsShower 6 = .ok (.istore_n 1, 1) := by decide +kernel
theorem dX12_readsShower_7 : decode cX12_readsShower 7 = .ok (.aload_n 0, 1) := by decide +kernel
theorem dX12_readsShower_8 : decode cX12_readsShower 8 = .ok (.iload_n 1, 1) := by decide +kernel
theorem dX12_readsShower_9 : decode cX12_readsShower 9 = .ok (.bipush 43, 2) := by decide +kernel
theorem dX12_readsShower_11 : decode cX12_readsShower 11 = .ok (.invokevirtual 122, 3) := by decide +kernel
theorem dX12_readsShower_14 : decode cX12_readsShower 14 = .ok (.ifCond .eq 27, 3) := by decide +kernel
theorem dX12_readsShower_17 : decode cX12_readsShower 17 = .ok (.aload_n 0, 1) := by decide +kernel
theorem dX12_readsShower_18 : decode cX12_readsShower 18 = .ok (.iload_n 1, 1) := by decide +kernel
theorem dX12_readsShower_19 : decode cX12_readsShower 19 = .ok (.iconst 1, 1) := by decide +kernel
theorem dX12_readsShower_20 : decode cX12_readsShower 20 = .ok (.iadd, 1) := by decide +kernel
theorem dX12_readsShower_21 : decode cX12_readsShower 21 = .ok (.bipush 42, 2) := by decide +kernel
theorem dX12_readsShower_23 : decode cX12_readsShower 23 = .ok (.invokevirtual 122, 3) := by decide +kernel
theorem dX12_readsShower_26 : decode cX12_readsShower 26 = .ok (.ifCond .eq 15, 3) := by decide +kernel
theorem dX12_readsShower_29 : decode cX12_readsShower 29 = .ok (.aload_n 0, 1) := by decide +kernel
theorem dX12_readsShower_30 : decode cX12_readsShower 30 = .ok (.iload_n 1, 1) := by decide +kernel
theorem dX12_readsShower_31 : decode cX12_readsShower 31 = .ok (.iconst 2, 1) := by decide +kernel
theorem dX12_readsShower_32 : decode cX12_readsShower 32 = .ok (.iadd, 1) := by decide +kernel
theorem dX12_readsShower_33 : decode cX12_readsShower 33 = .ok (.bipush 59, 2) := by decide +kernel
theorem dX12_readsShower_35 : decode cX12_readsShower 35 = .ok (.invokevirtual 122, 3) := by decide +kernel
theorem dX12_readsShower_38 : decode cX12_readsShower 38 = .ok (.ifCond .ne 5, 3) := by decide +kernel
theorem dX12_readsShower_41 : decode cX12_readsShower 41 = .ok (.iconst 0, 1) := by decide +kernel
theorem dX12_readsShower_42 : decode cX12_readsShower 42 = .ok (.ireturn, 1) := by decide +kernel
theorem dX12_readsShower_43 : decode cX12_readsShower 43 = .ok (.aload_n 0, 1) := by decide +kernel
theorem dX12_readsShower_44 : decode cX12_readsShower 44 = .ok (.getfield 7, 3) := by decide +kernel
theorem dX12_readsShower_47 : decode cX12_readsShower 47 = .ok (.iconst 0, 1) := by decide +kernel
theorem dX12_readsShower_48 : decode cX12_readsShower 48 = .ok (.iaload, 1) := by decide +kernel
theorem dX12_readsShower_49 : decode cX12_readsShower 49 = .ok (.aload_n 0, 1) := by decide +kernel
theorem dX12_readsShower_50 : decode cX12_readsShower 50 = .ok (.getfield 23, 3) := by decide +kernel
theorem dX12_readsShower_53 : decode cX12_readsShower 53 = .ok (.iload_n 1, 1) := by decide +kernel
theorem dX12_readsShower_54 : decode cX12_readsShower 54 = .ok (.iaload, 1) := by decide +kernel
theorem dX12_readsShower_55 : decode cX12_readsShower 55 = .ok (.iadd, 1) := by decide +kernel
theorem dX12_readsShower_56 : decode cX12_readsShower 56 = .ok (.sipush 5000, 3) := by decide +kernel
theorem dX12_readsShower_59 : decode cX12_readsShower 59 = .ok (.if_icmp .gt 43, 3) := by decide +kernel
theorem dX12_readsShower_62 : decode cX12_readsShower 62 = .ok (.aload_n 0, 1) := by decide +kernel
theorem dX12_readsShower_63 : decode cX12_readsShower 63 = .ok (.getfield 23, 3) := by decide +kernel
theorem dX12_readsShower_66 : decode cX12_readsShower 66 = .ok (.iload_n 1, 1) := by decide +kernel
theorem dX12_readsShower_67 : decode cX12_readsShower 67 = .ok (.iconst 1, 1) := by decide +kernel
theorem dX12_readsShower_68 : decode cX12_readsShower 68 = .ok (.iadd, 1) := by decide +kernel
theorem dX12_readsShower_69 : decode cX12_readsShower 69 = .ok (.iaload, 1) := by decide +kernel
theorem dX12_readsShower_70 : decode cX12_readsShower 70 = .ok (.iconst 1, 1) := by decide +kernel
theorem dX12_readsShower_71 : decode cX12_readsShower 71 = .ok (.sipush 500, 3) := by decide +kernel
theorem dX12_readsShower_74 : decode cX12_readsShower 74 = .ok (.invokestatic 33, 3) := by decide +kernel
theorem dX12_readsShower_77 : decode cX12_readsShower 77 = .ok (.ifCond .eq 25, 3) := by decide +kernel
theorem dX12_readsShower_80 : decode cX12_readsShower 80 = .ok (.aload_n 0, 1) := by decide +kernel
theorem dX12_readsShower_81 : decode cX12_readsShower 81 = .ok (.getfield 23, 3) := by decide +kernel
theorem dX12_readsShower_84 : decode cX12_readsShower 84 = .ok (.iload_n 1, 1) := by decide +kernel
theorem dX12_readsShower_85 : decode cX12_readsShower 85 = .ok (.iconst 2, 1) := by decide +kernel
theorem dX12_readsShower_86 : decode cX12_readsShower 86 = .ok (.iadd, 1) := by decide +kernel
theorem dX12_readsShower_87 : decode cX12_readsShower 87 = .ok (.iaload, 1) := by decide +kernel
theorem dX12_readsShower_88 : decode cX12_readsShower 88 = .ok (.iconst 1, 1) := by decide +kernel
theorem dX12_readsShower_89 : decode cX12_readsShower 89 = .ok (.sipush 200, 3) := by decide +kernel
theorem dX12_readsShower_92 : decode cX12_readsShower 92 = .ok (.invokestatic 33, 3) := by decide +kernel
theorem dX12_readsShower_95 : decode cX12_readsShower 95 = .ok (.ifCond .eq 7, 3) := by decide +kernel
theorem dX12_readsShower_98 : decode cX12_readsShower 98 = .ok (.iconst 1, 1) := by decide +kernel
theorem dX12_readsShower_99 : decode cX12_readsShower 99 = .ok (.goto 4, 3) := by decide +kernel
theorem dX12_readsShower_102 : decode cX12_readsShower 102 = .ok (.iconst 0, 1) := by decide +kernel
theorem dX12_readsShower_103 : decode cX12_readsShower 103 = .ok (.istore_n 2, 1) := by decide +kernel
theorem dX12_readsShower_104 : decode cX12_readsShower 104 = .ok (.aload_n 0, 1) := by decide +kernel
theorem dX12_readsShower_105 : decode cX12_readsShower 105 = .ok (.iload_n 2, 1) := by decide +kernel
theorem dX12_readsShower_106 : decode cX12_readsShower 106 = .ok (.ifCond .ne 7, 3) := by decide +kernel
theorem dX12_readsShower_109 : decode cX12_readsShower 109 = .ok (.iconst 3, 1) := by decide +kernel
theorem dX12_readsShower_110 : decode cX12_readsShower 110 = .ok (.goto 25, 3) := by decide +kernel
theorem dX12_readsShower_113 : decode cX12_readsShower 113 = .ok (.aload_n 0, 1) := by decide +kernel
theorem dX12_readsShower_114 : decode cX12_readsShower 114 = .ok (.getfield 7, 3) := by decide +kernel
theorem dX12_readsShower_117 : decode cX12_readsShower 117 = .ok (.bipush 26, 2) := by decide +kernel
theorem dX12_readsShower_119 : decode cX12_readsShower 119 = .ok (.iaload, 1) := by decide +kernel
theorem dX12_readsShower_120 : decode cX12_readsShower 120 = .ok (.aload_n 0, 1) := by decide +kernel
theorem dX12_readsShower_121 : decode cX12_readsShower 121 = .ok (.getfield 119, 3) := by decide +kernel
theorem dX12_readsShower_124 : decode cX12_readsShower 124 = .ok (.iadd, 1) := by decide +kernel
theorem dX12_readsShower_125 : decode cX12_readsShower 125 = .ok (.bipush 12, 2) := by decide +kernel
theorem dX12_readsShower_127 : decode cX12_readsShower 127 = .ok (.if_icmp .ne 7, 3) := by decide +kernel
theorem dX12_readsShower_130 : decode cX12_readsShower 130 = .ok (.iconst 4, 1) := by decide +kernel
theorem dX12_readsShower_131 : decode cX12_readsShower 131 = .ok (.goto 4, 3) := by decide +kernel
theorem dX12_readsShower_134 : decode cX12_readsShower 134 = .ok (.iconst 0, 1) := by decide +kernel
theorem dX12_readsShower_135 : decode cX12_readsShower 135 = .ok (.putfield 116, 3) := by decide +kernel
theorem dX12_readsShower_138 : decode cX12_readsShower 138 = .ok (.aload_n 0, 1) := by decide +kernel
theorem dX12_readsShower_139 : decode cX12_readsShower 139 = .ok (.dup, 1) := by decide +kernel
theorem dX12_readsShower_140 : decode cX12_readsShower 140 = .ok (.getfield 119, 3) := by decide +kernel
theorem dX12_readsShower_143 : decode cX12_readsShower 143 = .ok (.iconst 1, 1) := by decide +kernel
theorem dX12_readsShower_144 : decode cX12_readsShower 144 = .ok (.iadd, 1) := by decide +kernel
theorem dX12_readsShower_145 : decode cX12_readsShower 145 = .ok (.putfield 119, 3) := by decide +kernel
theorem dX12_readsShower_148 : decode cX12_readsShower 148 = .ok (.aload_n 0, 1) := by decide +kernel
theorem dX12_readsShower_149 : decode cX12_readsShower 149 = .ok (.getfield 116, 3) := by decide +kernel
theorem dX12_readsShower_152 : decode cX12_readsShower 152 = .ok (.ifCond .ne 7, 3) := by decide +kernel
theorem dX12_readsShower_155 : decode cX12_readsShower 155 = .ok (.iconst 1, 1) := by decide +kernel
theorem dX12_readsShower_156 : decode cX12_readsShower 156 = .ok (.goto 4, 3) := by decide +kernel
theorem dX12_readsShower_159 : decode cX12_readsShower 159 = .ok (.iconst 0, 1) := by decide +kernel
theorem dX12_readsShower_160 : decode cX12_readsShower 160 = .ok (.ireturn, 1) := by decide +kernel
theorem dX12_faulty_0 : decode cX12_faulty 0 = .ok (.aload_n 0, 1) := by decide +kernel
theorem dX12_faulty_1 : decode cX12_faulty 1 = .ok (.iconst 0, 1) := by decide +kernel
theorem dX12_faulty_2 : decode cX12_faulty 2 = .ok (.putfield 113, 3) := by decide +kernel
theorem dX12_faulty_5 : decode cX12_faulty 5 = .ok (.aload_n 0, 1) := by decide +kernel
theorem dX12_faulty_6 : decode cX12_faulty 6 = .ok (.iconst 0, 1) := by decide +kernel
theorem dX12_faulty_7 : decode cX12_faulty 7 = .ok (.putfield 119, 3) := by decide +kernel
theorem dX12_faulty_10 : decode cX12_faulty 10 = .ok (.aload_n 0, 1) := by decide +kernel
theorem dX12_faulty_11 : decode cX12_faulty 11 = .ok (.getfield 113, 3) := by decide +kernel
theorem dX12_faulty_14 : decode cX12_faulty 14 = .ok (.aload_n 0, 1) := by decide +kernel
theorem dX12_faulty_15 : decode cX12_faulty 15 = .ok (.getfield 91, 3) := by decide +kernel
theorem dX12_faulty_18 : decode cX12_faulty 18 = .ok (.if_icmp .ge 20, 3) := by decide +kernel
theorem dX12_faulty_21 : decode cX12_faulty 21 = .ok (.aload_n 0, 1) := by decide +kernel
theorem dX12_faulty_22 : decode cX12_faulty 22 = .ok (.getfield 113, 3) := by decide +kernel
theorem dX12_faulty_25 : decode cX12_faulty 25 = .ok (.istore_n 1, 1) := by decide +kernel
theorem dX12_faulty_26 : decode cX12_faulty 26 = .ok (.aload_n 0, 1) := by decide +kernel
theorem dX12_faulty_27 : decode cX12_faulty 27 = .ok (.invokevirtual 126, 3) := by decide +kernel
theorem dX12_faulty_30 : decode cX12_faulty 30 = .ok (.ifCond .ne 5, 3) := by decide +kernel
theorem dX12_faulty_33 : decode cX12_faulty 33 = .ok (.iload_n 1, 1) := by decide +kernel
theorem dX12_faulty_34 : decode cX12_faulty 34 = .ok (.ireturn, 1) := by decide +kernel
theorem dX12_faulty_35 : decode cX12_faulty 35 = .ok (.goto (-25), 3) := by decide +kernel
theorem dX12_faulty_38 : decode cX12_faulty 38 = .ok (.bipush (-4), 2) := by decide +kernel
theorem dX12_faulty_40 : decode cX12_faulty 40 = .ok (.ireturn, 1) := by decide +kernel
theorem dX12_fault_0 : decode cX12_fault 0 = .ok (.iload_n 1, 1) := by decide +kernel
theorem dX12_fault_1 : decode cX12_fault 1 = .ok (.iconst 0, 1) := by decide +kernel
theorem dX12_fault_2 : decode cX12_fault 2 = .ok (.iconst 1, 1) := by decide +kernel
theorem dX12_fault_3 : decode cX12_fault 3 = .ok (.invokestatic 33, 3) := by decide +kernel
theorem dX12_fault_6 : decode cX12_fault 6 = .ok (.ifCond .ne 5, 3) := by decide +kernel
theorem dX12_fault_9 : decode cX12_fault 9 = .ok (.iconst (-1), 1) := by decide +kernel
theorem dX12_fault_10 : decode cX12_fault 10 = .ok (.ireturn, 1) := by decide +kernel
theorem dX12_fault_11 : decode cX12_fault 11 = .ok (.aload_n 0, 1) := by decide +kernel
theorem dX12_fault_12 : decode cX12_fault 12 = .ok (.invokevirtual 129, 3) := by decide +kernel
theorem dX12_fault_15 : decode cX12_fault 15 = .ok (.istore_n 2, 1) := by decide +kernel
theorem dX12_fault_16 : decode cX12_fault 16 = .ok (.iload_n 2, 1) := by decide +kernel
theorem dX12_fault_17 : decode cX12_fault 17 = .ok (.bipush (-4), 2) := by decide +kernel
theorem dX12_fault_19 : decode cX12_fault 19 = .ok (.if_icmp .eq 7, 3) := by decide +kernel
theorem dX12_fault_22 : decode cX12_fault 22 = .ok (.iload_n 1, 1) := by decide +kernel
theorem dX12_fault_23 : decode cX12_fault 23 = .ok (.ifCond .ne 7, 3) := by decide +kernel
theorem dX12_fault_26 : decode cX12_fault 26 = .ok (.iload_n 2, 1) := by decide +kernel
theorem dX12_fault_27 : decode cX12_fault 27 = .ok (.goto 7, 3) := by decide +kernel
theorem dX12_fault_30 : decode cX12_fault 30 = .ok (.aload_n 0, 1) := by decide +kernel
theorem dX12_fault_31 : decode cX12_fault 31 = .ok (.getfield 116, 3) := by decide +kernel
theorem dX12_fault_34 : decode cX12_fault 34 = .ok (.ireturn, 1) := by decide +kernel
theorem dX12_lay_0 : decode cX12_lay 0 = .ok (.aload_n 0, 1) := by decide +kernel
theorem dX12_lay_1 : decode cX12_lay 1 = .ok (.invokevirtual 129, 3) := by decide +kernel
theorem dX12_lay_4 : decode cX12_lay 4 = .ok (.bipush (-4), 2) := by decide +kernel
theorem dX12_lay_6 : decode cX12_lay 6 = .ok (.if_icmp .eq 6, 3) := by decide +kernel
theorem dX12_lay_9 : decode cX12_lay 9 = .ok (.bipush (-2), 2) := by decide +kernel
theorem dX12_lay_11 : decode cX12_lay 11 = .ok (.ireturn, 1) := by decide +kernel
theorem dX12_lay_12 : decode cX12_lay 12 = .ok (.aload_n 0, 1) := by decide +kernel
theorem dX12_lay_13 : decode cX12_lay 13 = .ok (.invokevirtual 63, 3) := by decide +kernel
theorem dX12_lay_16 : decode cX12_lay 16 = .ok (.iconst 0, 1) := by decide +kernel
theorem dX12_lay_17 : decode cX12_lay 17 = .ok (.istore_n 1, 1) := by decide +kernel
theorem dX12_lay_18 : decode cX12_lay 18 = .ok (.iload_n 1, 1) := by decide +kernel
theorem dX12_lay_19 : decode cX12_lay 19 = .ok (.aload_n 0, 1) := by decide +kernel
theorem dX12_lay_20 : decode cX12_lay 20 = .ok (.getfield 119, 3) := by decide +kernel
theorem dX12_lay_23 : decode cX12_lay 23 = .ok (.if_icmp .ge 49, 3) := by decide +kernel
theorem dX12_lay_26 : decode cX12_lay 26 = .ok (.aload_n 0, 1) := by decide +kernel
theorem dX12_lay_27 : decode cX12_lay 27 = .ok (.aload_n 0, 1) := by decide +kernel
theorem dX12_lay_28 : decode cX12_lay 28 = .ok (.getfield 7, 3) := by decide +kernel
theorem dX12_lay_31 : decode cX12_lay 31 = .ok (.iconst 0, 1) := by decide +kernel
theorem dX12_lay_32 : decode cX12_lay 32 = .ok (.iaload, 1) := by decide +kernel
theorem dX12_lay_33 : decode cX12_lay 33 = .ok (.aload_n 0, 1) := by decide +kernel
theorem dX12_lay_34 : decode cX12_lay 34 = .ok (.getfield 23, 3) := by decide +kernel
theorem dX12_lay_37 : decode cX12_lay 37 = .ok (.iconst 3, 1) := by decide +kernel
theorem dX12_lay_38 : decode cX12_lay 38 = .ok (.iload_n 1, 1) := by decide +kernel
theorem dX12_lay_39 : decode cX12_lay 39 = .ok (.imul, 1) := by decide +kernel
theorem dX12_lay_40 : decode cX12_lay 40 = .ok (.iaload, 1) := by decide +kernel
theorem dX12_lay_41 : decode cX12_lay 41 = .ok (.iadd, 1) := by decide +kernel
theorem dX12_lay_42 : decode cX12_lay 42 = .ok (.aload_n 0, 1) := by decide +kernel
theorem dX12_lay_43 : decode cX12_lay 43 = .ok (.getfield 23, 3) := by decide +kernel
theorem dX12_lay_46 : decode cX12_lay 46 = .ok (.iconst 3, 1) := by decide +kernel
theorem dX12_lay_47 : decode cX12_lay 47 = .ok (.iload_n 1, 1) := by decide +kernel
theorem dX12_lay_48 : decode cX12_lay 48 = .ok (.imul, 1) := by decide +kernel
theorem dX12_lay_49 : decode cX12_lay 49 = .ok (.iconst 1, 1) := by decide +kernel
theorem dX12_lay_50 : decode cX12_lay 50 = .ok (.iadd, 1) := by decide +kernel
theorem dX12_lay_51 : decode cX12_lay 51 = .ok (.iaload, 1) := by decide +kernel
theorem dX12_lay_52 : decode cX12_lay 52 = .ok (.aload_n 0, 1) := by decide +kernel
theorem dX12_lay_53 : decode cX12_lay 53 = .ok (.getfield 23, 3) := by decide +kernel
theorem dX12_lay_56 : decode cX12_lay 56 = .ok (.iconst 3, 1) := by decide +kernel
theorem dX12_lay_57 : decode cX12_lay 57 = .ok (.iload_n 1, 1) := by decide +kernel
theorem dX12_lay_58 : decode cX12_lay 58 = .ok (.imul, 1) := by decide +kernel
theorem dX12_lay_59 : decode cX12_lay 59 = .ok (.iconst 2, 1) := by decide +kernel
theorem dX12_lay_60 : decode cX12_lay 60 = .ok (.iadd, 1) := by decide +kernel
theorem dX12_lay_61 : decode cX12_lay 61 = .ok (.iaload, 1) := by decide +kernel
theorem dX12_lay_62 : decode cX12_lay 62 = .ok (.invokevirtual 66, 3) := by decide +kernel
theorem dX12_lay_65 : decode cX12_lay 65 = .ok (.pop, 1) := by decide +kernel
theorem dX12_lay_66 : decode cX12_lay 66 = .ok (.iinc 1 1, 3) := by decide +kernel
theorem dX12_lay_69 : decode cX12_lay 69 = .ok (.goto (-51), 3) := by decide +kernel
theorem dX12_lay_72 : decode cX12_lay 72 = .ok (.aload_n 0, 1) := by decide +kernel
theorem dX12_lay_73 : decode cX12_lay 73 = .ok (.getfield 119, 3) := by decide +kernel
theorem dX12_lay_76 : decode cX12_lay 76 = .ok (.ireturn, 1) := by decide +kernel
theorem dJ9_floorDiv_7cf53_0 : decode cJ9_floorDiv_7cf53 0 = .ok (.iload_n 0, 1) := by decide +kernel
theorem dJ9_floorDiv_7cf53_1 : decode cJ9_floorDiv_7cf53 1 = .ok (.iload_n 1, 1) := by decide +kernel
theorem dJ9_floorDiv_7cf53_2 : decode cJ9_floorDiv_7cf53 2 = .ok (.idiv, 1) := by decide +kernel
theorem dJ9_floorDiv_7cf53_3 : decode cJ9_floorDiv_7cf53 3 = .ok (.istore_n 2, 1) := by decide +kernel
theorem dJ9_floorDiv_7cf53_4 : decode cJ9_floorDiv_7cf53 4 = .ok (.iload_n 0, 1) := by decide +kernel
theorem dJ9_floorDiv_7cf53_5 : decode cJ9_floorDiv_7cf53 5 = .ok (.iload_n 1, 1) := by decide +kernel
theorem dJ9_floorDiv_7cf53_6 : decode cJ9_floorDiv_7cf53 6 = .ok (.ixor, 1) := by decide +kernel
theorem dJ9_floorDiv_7cf53_7 : decode cJ9_floorDiv_7cf53 7 = .ok (.ifCond .ge 14, 3) := by decide +kernel
theorem dJ9_floorDiv_7cf53_10 : decode cJ9_floorDiv_7cf53 10 = .ok (.iload_n 2, 1) := by decide +kernel
theorem dJ9_floorDiv_7cf53_11 : decode cJ9_floorDiv_7cf53 11 = .ok (.iload_n 1, 1) := by decide +kernel
theorem dJ9_floorDiv_7cf53_12 : decode cJ9_floorDiv_7cf53 12 = .ok (.imul, 1) := by decide +kernel
theorem dJ9_floorDiv_7cf53_13 : decode cJ9_floorDiv_7cf53 13 = .ok (.iload_n 0, 1) := by decide +kernel
theorem dJ9_floorDiv_7cf53_14 : decode cJ9_floorDiv_7cf53 14 = .ok (.if_icmp .eq 7, 3) := by decide +kernel
theorem dJ9_floorDiv_7cf53_17 : decode cJ9_floorDiv_7cf53 17 = .ok (.iload_n 2, 1) := by decide +kernel
theorem dJ9_floorDiv_7cf53_18 : decode cJ9_floorDiv_7cf53 18 = .ok (.iconst 1, 1) := by decide +kernel
theorem dJ9_floorDiv_7cf53_19 : decode cJ9_floorDiv_7cf53 19 = .ok (.isub, 1) := by decide +kernel
theorem dJ9_floorDiv_7cf53_20 : decode cJ9_floorDiv_7cf53 20 = .ok (.ireturn, 1) := by decide +kernel
theorem dJ9_floorDiv_7cf53_21 : decode cJ9_floorDiv_7cf53 21 = .ok (.iload_n 2, 1) := by decide +kernel
theorem dJ9_floorDiv_7cf53_22 : decode cJ9_floorDiv_7cf53 22 = .ok (.ireturn, 1) := by decide +kernel
theorem dJ9_max_7cf53_0 : decode cJ9_max_7cf53 0 = .ok (.iload_n 0, 1) := by decide +kernel
theorem dJ9_max_7cf53_1 : decode cJ9_max_7cf53 1 = .ok (.iload_n 1, 1) := by decide +kernel
theorem dJ9_max_7cf53_2 : decode cJ9_max_7cf53 2 = .ok (.if_icmp .lt 7, 3) := by decide +kernel
theorem dJ9_max_7cf53_5 : decode cJ9_max_7cf53 5 = .ok (.iload_n 0, 1) := by decide +kernel
theorem dJ9_max_7cf53_6 : decode cJ9_max_7cf53 6 = .ok (.goto 4, 3) := by decide +kernel
theorem dJ9_max_7cf53_9 : decode cJ9_max_7cf53 9 = .ok (.iload_n 1, 1) := by decide +kernel
theorem dJ9_max_7cf53_10 : decode cJ9_max_7cf53 10 = .ok (.ireturn, 1) := by decide +kernel
theorem dJ9_min_7cf53_0 : decode cJ9_min_7cf53 0 = .ok (.iload_n 0, 1) := by decide +kernel
theorem dJ9_min_7cf53_1 : decode cJ9_min_7cf53 1 = .ok (.iload_n 1, 1) := by decide +kernel
theorem dJ9_min_7cf53_2 : decode cJ9_min_7cf53 2 = .ok (.if_icmp .gt 7, 3) := by decide +kernel
theorem dJ9_min_7cf53_5 : decode cJ9_min_7cf53 5 = .ok (.iload_n 0, 1) := by decide +kernel
theorem dJ9_min_7cf53_6 : decode cJ9_min_7cf53 6 = .ok (.goto 4, 3) := by decide +kernel
theorem dJ9_min_7cf53_9 : decode cJ9_min_7cf53 9 = .ok (.iload_n 1, 1) := by decide +kernel
theorem dJ9_min_7cf53_10 : decode cJ9_min_7cf53 10 = .ok (.ireturn, 1) := by decide +kernel
theorem dL_law_0 : decode cL_law 0 = .ok (.new 7, 3) := by decide +kernel
theorem dL_law_3 : decode cL_law 3 = .ok (.dup, 1) := by decide +kernel
theorem dL_law_4 : decode cL_law 4 = .ok (.invokespecial 9, 3) := by decide +kernel
theorem dL_law_7 : decode cL_law 7 = .ok (.astore_n 1, 1) := by decide +kernel
theorem dL_law_8 : decode cL_law 8 = .ok (.new 10, 3) := by decide +kernel
theorem dL_law_11 : decode cL_law 11 = .ok (.dup, 1) := by decide +kernel
theorem dL_law_12 : decode cL_law 12 = .ok (.invokespecial 12, 3) := by decide +kernel
theorem dL_law_15 : decode cL_law 15 = .ok (.astore_n 2, 1) := by decide +kernel
theorem dL_law_16 : decode cL_law 16 = .ok (.iconst 0, 1) := by decide +kernel
theorem dL_law_17 : decode cL_law 17 = .ok (.istore_n 3, 1) := by decide +kernel
theorem dL_law_18 : decode cL_law 18 = .ok (.iload_n 3, 1) := by decide +kernel
theorem dL_law_19 : decode cL_law 19 = .ok (.aload_n 0, 1) := by decide +kernel
theorem dL_law_20 : decode cL_law 20 = .ok (.arraylength, 1) := by decide +kernel
theorem dL_law_21 : decode cL_law 21 = .ok (.iconst 4, 1) := by decide +kernel
theorem dL_law_22 : decode cL_law 22 = .ok (.isub, 1) := by decide +kernel
theorem dL_law_23 : decode cL_law 23 = .ok (.if_icmp .gt 709, 3) := by decide +kernel
theorem dL_law_26 : decode cL_law 26 = .ok (.aload_n 0, 1) := by decide +kernel
theorem dL_law_27 : decode cL_law 27 = .ok (.iload_n 3, 1) := by decide +kernel
theorem dL_law_28 : decode cL_law 28 = .ok (.iaload, 1) := by decide +kernel
theorem dL_law_29 : decode cL_law 29 = .ok (.bipush 31, 2) := by decide +kernel
theorem dL_law_31 : decode cL_law 31 = .ok (.iand, 1) := by decide +kernel
theorem dL_law_32 : decode cL_law 32 = .ok (.tableswitch 694 0 23 #[112, 155, 178, 211, 234, 247, 280, 293, 326, 349, 382, 405, 428, 461, 494, 507, 520, 553, 586, 599, 622, 645, 658, 681], 112) := by decide +kernel
theorem dL_law_144 : decode cL_law 144 = .ok (.aload_n 1, 1) := by decide +kernel
theorem dL_law_145 : decode cL_law 145 = .ok (.aload_n 0, 1) := by decide +kernel
theorem dL_law_146 : decode cL_law 146 = .ok (.iload_n 3, 1) := by decide +kernel
theorem dL_law_147 : decode cL_law 147 = .ok (.iconst 1, 1) := by decide +kernel
theorem dL_law_148 : decode cL_law 148 = .ok (.iadd, 1) := by decide +kernel
theorem dL_law_149 : decode cL_law 149 = .ok (.iaload, 1) := by decide +kernel
theorem dL_law_150 : decode cL_law 150 = .ok (.aload_n 0, 1) := by decide +kernel
theorem dL_law_151 : decode cL_law 151 = .ok (.iload_n 3, 1) := by decide +kernel
theorem dL_law_152 : decode cL_law 152 = .ok (.iconst 2, 1) := by decide +kernel
theorem dL_law_153 : decode cL_law 153 = .ok (.iadd, 1) := by decide +kernel
theorem dL_law_154 : decode cL_law 154 = .ok (.iaload, 1) := by decide +kernel
theorem dL_law_155 : decode cL_law 155 = .ok (.aload_n 0, 1) := by decide +kernel
theorem dL_law_156 : decode cL_law 156 = .ok (.iload_n 3, 1) := by decide +kernel
theorem dL_law_157 : decode cL_law 157 = .ok (.iconst 3, 1) := by decide +kernel
theorem dL_law_158 : decode cL_law 158 = .ok (.iadd, 1) := by decide +kernel
theorem dL_law_159 : decode cL_law 159 = .ok (.iaload, 1) := by decide +kernel
theorem dL_law_160 : decode cL_law 160 = .ok (.invokevirtual 13, 3) := by decide +kernel
theorem dL_law_163 : decode cL_law 163 = .ok (.aload_n 2, 1) := by decide +kernel
theorem dL_law_164 : decode cL_law 164 = .ok (.aload_n 0, 1) := by decide +kernel
theorem dL_law_165 : decode cL_law 165 = .ok (.iload_n 3, 1) := by decide +kernel
theorem dL_law_166 : decode cL_law 166 = .ok (.iconst 1, 1) := by decide +kernel
theorem dL_law_167 : decode cL_law 167 = .ok (.iadd, 1) := by decide +kernel
theorem dL_law_168 : decode cL_law 168 = .ok (.iaload, 1) := by decide +kernel
theorem dL_law_169 : decode cL_law 169 = .ok (.aload_n 0, 1) := by decide +kernel
theorem dL_law_170 : decode cL_law 170 = .ok (.iload_n 3, 1) := by decide +kernel
theorem dL_law_171 : decode cL_law 171 = .ok (.iconst 2, 1) := by decide +kernel
theorem dL_law_172 : decode cL_law 172 = .ok (.iadd, 1) := by decide +kernel
theorem dL_law_173 : decode cL_law 173 = .ok (.iaload, 1) := by decide +kernel
theorem dL_law_174 : decode cL_law 174 = .ok (.aload_n 0, 1) := by decide +kernel
theorem dL_law_175 : decode cL_law 175 = .ok (.iload_n 3, 1) := by decide +kernel
theorem dL_law_176 : decode cL_law 176 = .ok (.iconst 3, 1) := by decide +kernel
theorem dL_law_177 : decode cL_law 177 = .ok (.iadd, 1) := by decide +kernel
theorem dL_law_178 : decode cL_law 178 = .ok (.iaload, 1) := by decide +kernel
theorem dL_law_179 : decode cL_law 179 = .ok (.invokevirtual 17, 3) := by decide +kernel
theorem dL_law_182 : decode cL_law 182 = .ok (.if_icmp .eq 544, 3) := by decide +kernel
theorem dL_law_185 : decode cL_law 185 = .ok (.iconst 0, 1) := by decide +kernel
theorem dL_law_186 : decode cL_law 186 = .ok (.ireturn, 1) := by decide +kernel
theorem dL_law_187 : decode cL_law 187 = .ok (.aload_n 1, 1) := by decide +kernel
theorem dL_law_188 : decode cL_law 188 = .ok (.aload_n 0, 1) := by decide +kernel
theorem dL_law_189 : decode cL_law 189 = .ok (.iload_n 3, 1) := by decide +kernel
theorem dL_law_190 : decode cL_law 190 = .ok (.iconst 1, 1) := by decide +kernel
theorem dL_law_191 : decode cL_law 191 = .ok (.iadd, 1) := by decide +kernel
theorem dL_law_192 : decode cL_law 192 = .ok (.iaload, 1) := by decide +kernel
theorem dL_law_193 : decode cL_law 193 = .ok (.invokevirtual 18, 3) := by decide +kernel
theorem dL_law_196 : decode cL_law 196 = .ok (.aload_n 2, 1) := by decide +kernel
theorem dL_law_197 : decode cL_law 197 = .ok (.aload_n 0, 1) := by decide +kernel
theorem dL_law_198 : decode cL_law 198 = .ok (.iload_n 3, 1) := by decide +kernel
theorem dL_law_199 : decode cL_law 199 = .ok (.iconst 1, 1) := by decide +kernel
theorem dL_law_200 : decode cL_law 200 = .ok (.iadd, 1) := by decide +kernel
theorem dL_law_201 : decode cL_law 201 = .ok (.iaload, 1) := by decide +kernel
theorem dL_law_202 : decode cL_law 202 = .ok (.invokevirtual 22, 3) := by decide +kernel
theorem dL_law_205 : decode cL_law 205 = .ok (.if_icmp .eq 521, 3) := by decide +kernel
theorem dL_law_208 : decode cL_law 208 = .ok (.iconst 0, 1) := by decide +kernel
theorem dL_law_209 : decode cL_law 209 = .ok (.ireturn, 1) := by decide +kernel
theorem dL_law_210 : decode cL_law 210 = .ok (.aload_n 1, 1) := by decide +kernel
theorem dL_law_211 : decode cL_law 211 = .ok (.aload_n 0, 1) := by decide +kernel
theorem dL_law_212 : decode cL_law 212 = .ok (.iload_n 3, 1) := by decide +kernel
theorem dL_law_213 : decode cL_law 213 = .ok (.iconst 1, 1) := by decide +kernel
theorem dL_law_214 : decode cL_law 214 = .ok (.iadd, 1) := by decide +kernel
theorem dL_law_215 : decode cL_law 215 = .ok (.iaload, 1) := by decide +kernel
theorem dL_law_216 : decode cL_law 216 = .ok (.aload_n 0, 1) := by decide +kernel
theorem dL_law_217 : decode cL_law 217 = .ok (.iload_n 3, 1) := by decide +kernel
theorem dL_law_218 : decode cL_law 218 = .ok (.iconst 2, 1) := by decide +kernel
theorem dL_law_219 : decode cL_law 219 = .ok (.iadd, 1) := by decide +kernel
theorem dL_law_220 : decode cL_law 220 = .ok (.iaload, 1) := by decide +kernel
theorem dL_law_221 : decode cL_law 221 = .ok (.invokevirtual 23, 3) := by decide +kernel
theorem dL_law_224 : decode cL_law 224 = .ok (.aload_n 2, 1) := by decide +kernel
theorem dL_law_225 : decode cL_law 225 = .ok (.aload_n 0, 1) := by decide +kernel
theorem dL_law_226 : decode cL_law 226 = .ok (.iload_n 3, 1) := by decide +kernel
theorem dL_law_227 : decode cL_law 227 = .ok (.iconst 1, 1) := by decide +kernel
theorem dL_law_228 : decode cL_law 228 = .ok (.iadd, 1) := by decide +kernel
theorem dL_law_229 : decode cL_law 229 = .ok (.iaload, 1) := by decide +kernel
theorem dL_law_230 : decode cL_law 230 = .ok (.aload_n 0, 1) := by decide +kernel
theorem dL_law_231 : decode cL_law 231 = .ok (.iload_n 3, 1) := by decide +kernel
theorem dL_law_232 : decode cL_law 232 = .ok (.iconst 2, 1) := by decide +kernel
theorem dL_law_233 : decode cL_law 233 = .ok (.iadd, 1) := by decide +kernel
theorem dL_law_234 : decode cL_law 234 = .ok (.iaload, 1) := by decide +kernel
theorem dL_law_235 : decode cL_law 235 = .ok (.invokevirtual 27, 3) := by decide +kernel
theorem dL_law_238 : decode cL_law 238 = .ok (.if_icmp .eq 488, 3) := by decide +kernel
theorem dL_law_241 : decode cL_law 241 = .ok (.iconst 0, 1) := by decide +kernel
theorem dL_law_242 : decode cL_law 242 = .ok (.ireturn, 1) := by decide +kernel
theorem dL_law_243 : decode cL_law 243 = .ok (.aload_n 1, 1) := by decide +kernel
theorem dL_law_244 : decode cL_law 244 = .ok (.aload_n 0, 1) := by decide +kernel
theorem dL_law_245 : decode cL_law 245 = .ok (.iload_n 3, 1) := by decide +kernel
theorem dL_law_246 : decode cL_law 246 = .ok (.iconst 1, 1) := by decide +kernel
theorem dL_law_247 : decode cL_law 247 = .ok (.iadd, 1) := by decide +kernel
theorem dL_law_248 : decode cL_law 248 = .ok (.iaload, 1) := by decide +kernel
theorem dL_law_249 : decode cL_law 249 = .ok (.invokevirtual 28, 3) := by decide +kernel
theorem dL_law_252 : decode cL_law 252 = .ok (.aload_n 2, 1) := by decide +kernel
theorem dL_law_253 : decode cL_law 253 = .ok (.aload_n 0, 1) := by decide +kernel
theorem dL_law_254 : decode cL_law 254 = .ok (.iload_n 3, 1) := by decide +kernel
theorem dL_law_255 : decode cL_law 255 = .ok (.iconst 1, 1) := by decide +kernel
theorem dL_law_256 : decode cL_law 256 = .ok (.iadd, 1) := by decide +kernel
theorem dL_law_257 : decode cL_law 257 = .ok (.iaload, 1) := by decide +kernel
theorem dL_law_258 : decode cL_law 258 = .ok (.invokevirtual 31, 3) := by decide +kernel
theorem dL_law_261 : decode cL_law 261 = .ok (.if_icmp .eq 465, 3) := by decide +kernel
theorem dL_law_264 : decode cL_law 264 = .ok (.iconst 0, 1) := by decide +kernel
theorem dL_law_265 : decode cL_law 265 = .ok (.ireturn, 1) := by decide +kernel
theorem dL_law_266 : decode cL_law 266 = .ok (.aload_n 1, 1) := by decide +kernel
theorem dL_law_267 : decode cL_law 267 = .ok (.invokevirtual 32, 3) := by decide +kernel
theorem dL_law_270 : decode cL_law 270 = .ok (.aload_n 2, 1) := by decide +kernel
theorem dL_law_271 : decode cL_law 271 = .ok (.invokevirtual 36, 3) := by decide +kernel
theorem dL_law_274 : decode cL_law 274 = .ok (.if_icmp .eq 452, 3) := by decide +kernel
theorem dL_law_277 : decode cL_law 277 = .ok (.iconst 0, 1) := by decide +kernel
theorem dL_law_278 : decode cL_law 278 = .ok (.ireturn, 1) := by decide +kernel
theorem dL_law_279 : decode cL_law 279 = .ok (.aload_n 1, 1) := by decide +kernel
theorem dL_law_280 : decode cL_law 280 = .ok (.aload_n 0, 1) := by decide +kernel
theorem dL_law_281 : decode cL_law 281 = .ok (.iload_n 3, 1) := by decide +kernel
theorem dL_law_282 : decode cL_law 282 = .ok (.iconst 1, 1) := by decide +kernel
theorem dL_law_283 : decode cL_law 283 = .ok (.iadd, 1) := by decide +kernel
theorem dL_law_284 : decode cL_law 284 = .ok (.iaload, 1) := by decide +kernel
theorem dL_law_285 : decode cL_law 285 = .ok (.aload_n 0, 1) := by decide +kernel
theorem dL_law_286 : decode cL_law 286 = .ok (.iload_n 3, 1) := by decide +kernel
theorem dL_law_287 : decode cL_law 287 = .ok (.iconst 2, 1) := by decide +kernel
theorem dL_law_288 : decode cL_law 288 = .ok (.iadd, 1) := by decide +kernel
theorem dL_law_289 : decode cL_law 289 = .ok (.iaload, 1) := by decide +kernel
theorem dL_law_290 : decode cL_law 290 = .ok (.invokevirtual 37, 3) := by decide +kernel
theorem dL_law_293 : decode cL_law 293 = .ok (.aload_n 2, 1) := by decide +kernel
theorem dL_law_294 : decode cL_law 294 = .ok (.aload_n 0, 1) := by decide +kernel
theorem dL_law_295 : decode cL_law 295 = .ok (.iload_n 3, 1) := by decide +kernel
theorem dL_law_296 : decode cL_law 296 = .ok (.iconst 1, 1) := by decide +kernel
theorem dL_law_297 : decode cL_law 297 = .ok (.iadd, 1) := by decide +kernel
theorem dL_law_298 : decode cL_law 298 = .ok (.iaload, 1) := by decide +kernel
theorem dL_law_299 : decode cL_law 299 = .ok (.aload_n 0, 1) := by decide +kernel
theorem dL_law_300 : decode cL_law 300 = .ok (.iload_n 3, 1) := by decide +kernel
theorem dL_law_301 : decode cL_law 301 = .ok (.iconst 2, 1) := by decide +kernel
theorem dL_law_302 : decode cL_law 302 = .ok (.iadd, 1) := by decide +kernel
theorem dL_law_303 : decode cL_law 303 = .ok (.iaload, 1) := by decide +kernel
theorem dL_law_304 : decode cL_law 304 = .ok (.invokevirtual 40, 3) := by decide +kernel
theorem dL_law_307 : decode cL_law 307 = .ok (.if_icmp .eq 419, 3) := by decide +kernel
theorem dL_law_310 : decode cL_law 310 = .ok (.iconst 0, 1) := by decide +kernel
theorem dL_law_311 : decode cL_law 311 = .ok (.ireturn, 1) := by decide +kernel
theorem dL_law_312 : decode cL_law 312 = .ok (.aload_n 1, 1) := by decide +kernel
theorem dL_law_313 : decode cL_law 313 = .ok (.invokevirtual 41, 3) := by decide +kernel
theorem dL_law_316 : decode cL_law 316 = .ok (.aload_n 2, 1) := by decide +kernel
theorem dL_law_317 : decode cL_law 317 = .ok (.invokevirtual 44, 3) := by decide +kernel
theorem dL_law_320 : decode cL_law 320 = .ok (.if_icmp .eq 406, 3) := by decide +kernel
theorem dL_law_323 : decode cL_law 323 = .ok (.iconst 0, 1) := by decide +kernel
theorem dL_law_324 : decode cL_law 324 = .ok (.ireturn, 1) := by decide +kernel
theorem dL_law_325 : decode cL_law 325 = .ok (.aload_n 1, 1) := by decide +kernel
theorem dL_law_326 : decode cL_law 326 = .ok (.aload_n 0, 1) := by decide +kernel
theorem dL_law_327 : decode cL_law 327 = .ok (.iload_n 3, 1) := by decide +kernel
theorem dL_law_328 : decode cL_law 328 = .ok (.iconst 1, 1) := by decide +kernel
theorem dL_law_329 : decode cL_law 329 = .ok (.iadd, 1) := by decide +kernel
theorem dL_law_330 : decode cL_law 330 = .ok (.iaload, 1) := by decide +kernel
theorem dL_law_331 : decode cL_law 331 = .ok (.aload_n 0, 1) := by decide +kernel
theorem dL_law_332 : decode cL_law 332 = .ok (.iload_n 3, 1) := by decide +kernel
theorem dL_law_333 : decode cL_law 333 = .ok (.iconst 2, 1) := by decide +kernel
theorem dL_law_334 : decode cL_law 334 = .ok (.iadd, 1) := by decide +kernel
theorem dL_law_335 : decode cL_law 335 = .ok (.iaload, 1) := by decide +kernel
theorem dL_law_336 : decode cL_law 336 = .ok (.invokevirtual 45, 3) := by decide +kernel
theorem dL_law_339 : decode cL_law 339 = .ok (.aload_n 2, 1) := by decide +kernel
theorem dL_law_340 : decode cL_law 340 = .ok (.aload_n 0, 1) := by decide +kernel
theorem dL_law_341 : decode cL_law 341 = .ok (.iload_n 3, 1) := by decide +kernel
theorem dL_law_342 : decode cL_law 342 = .ok (.iconst 1, 1) := by decide +kernel
theorem dL_law_343 : decode cL_law 343 = .ok (.iadd, 1) := by decide +kernel
theorem dL_law_344 : decode cL_law 344 = .ok (.iaload, 1) := by decide +kernel
theorem dL_law_345 : decode cL_law 345 = .ok (.aload_n 0, 1) := by decide +kernel
theorem dL_law_346 : decode cL_law 346 = .ok (.iload_n 3, 1) := by decide +kernel
theorem dL_law_347 : decode cL_law 347 = .ok (.iconst 2, 1) := by decide +kernel
theorem dL_law_348 : decode cL_law 348 = .ok (.iadd, 1) := by decide +kernel
theorem dL_law_349 : decode cL_law 349 = .ok (.iaload, 1) := by decide +kernel
theorem dL_law_350 : decode cL_law 350 = .ok (.invokevirtual 48, 3) := by decide +kernel
theorem dL_law_353 : decode cL_law 353 = .ok (.if_icmp .eq 373, 3) := by decide +kernel
theorem dL_law_356 : decode cL_law 356 = .ok (.iconst 0, 1) := by decide +kernel
theorem dL_law_357 : decode cL_law 357 = .ok (.ireturn, 1) := by decide +kernel
theorem dL_law_358 : decode cL_law 358 = .ok (.aload_n 1, 1) := by decide +kernel
theorem dL_law_359 : decode cL_law 359 = .ok (.aload_n 0, 1) := by decide +kernel
theorem dL_law_360 : decode cL_law 360 = .ok (.iload_n 3, 1) := by decide +kernel
theorem dL_law_361 : decode cL_law 361 = .ok (.iconst 1, 1) := by decide +kernel
theorem dL_law_362 : decode cL_law 362 = .ok (.iadd, 1) := by decide +kernel
theorem dL_law_363 : decode cL_law 363 = .ok (.iaload, 1) := by decide +kernel
theorem dL_law_364 : decode cL_law 364 = .ok (.invokevirtual 49, 3) := by decide +kernel
theorem dL_law_367 : decode cL_law 367 = .ok (.aload_n 2, 1) := by decide +kernel
theorem dL_law_368 : decode cL_law 368 = .ok (.aload_n 0, 1) := by decide +kernel
theorem dL_law_369 : decode cL_law 369 = .ok (.iload_n 3, 1) := by decide +kernel
theorem dL_law_370 : decode cL_law 370 = .ok (.iconst 1, 1) := by decide +kernel
theorem dL_law_371 : decode cL_law 371 = .ok (.iadd, 1) := by decide +kernel
theorem dL_law_372 : decode cL_law 372 = .ok (.iaload, 1) := by decide +kernel
theorem dL_law_373 : decode cL_law 373 = .ok (.invokevirtual 52, 3) := by decide +kernel
theorem dL_law_376 : decode cL_law 376 = .ok (.if_icmp .eq 350, 3) := by decide +kernel
theorem dL_law_379 : decode cL_law 379 = .ok (.iconst 0, 1) := by decide +kernel
theorem dL_law_380 : decode cL_law 380 = .ok (.ireturn, 1) := by decide +kernel
theorem dL_law_381 : decode cL_law 381 = .ok (.aload_n 1, 1) := by decide +kernel
theorem dL_law_382 : decode cL_law 382 = .ok (.aload_n 0, 1) := by decide +kernel
theorem dL_law_383 : decode cL_law 383 = .ok (.iload_n 3, 1) := by decide +kernel
theorem dL_law_384 : decode cL_law 384 = .ok (.iconst 1, 1) := by decide +kernel
theorem dL_law_385 : decode cL_law 385 = .ok (.iadd, 1) := by decide +kernel
theorem dL_law_386 : decode cL_law 386 = .ok (.iaload, 1) := by decide +kernel
theorem dL_law_387 : decode cL_law 387 = .ok (.aload_n 0, 1) := by decide +kernel
theorem dL_law_388 : decode cL_law 388 = .ok (.iload_n 3, 1) := by decide +kernel
theorem dL_law_389 : decode cL_law 389 = .ok (.iconst 2, 1) := by decide +kernel
theorem dL_law_390 : decode cL_law 390 = .ok (.iadd, 1) := by decide +kernel
theorem dL_law_391 : decode cL_law 391 = .ok (.iaload, 1) := by decide +kernel
theorem dL_law_392 : decode cL_law 392 = .ok (.invokevirtual 53, 3) := by decide +kernel
theorem dL_law_395 : decode cL_law 395 = .ok (.aload_n 2, 1) := by decide +kernel
theorem dL_law_396 : decode cL_law 396 = .ok (.aload_n 0, 1) := by decide +kernel
theorem dL_law_397 : decode cL_law 397 = .ok (.iload_n 3, 1) := by decide +kernel
theorem dL_law_398 : decode cL_law 398 = .ok (.iconst 1, 1) := by decide +kernel
theorem dL_law_399 : decode cL_law 399 = .ok (.iadd, 1) := by decide +kernel
theorem dL_law_400 : decode cL_law 400 = .ok (.iaload, 1) := by decide +kernel
theorem dL_law_401 : decode cL_law 401 = .ok (.aload_n 0, 1) := by decide +kernel
theorem dL_law_402 : decode cL_law 402 = .ok (.iload_n 3, 1) := by decide +kernel
theorem dL_law_403 : decode cL_law 403 = .ok (.iconst 2, 1) := by decide +kernel
theorem dL_law_404 : decode cL_law 404 = .ok (.iadd, 1) := by decide +kernel
theorem dL_law_405 : decode cL_law 405 = .ok (.iaload, 1) := by decide +kernel
theorem dL_law_406 : decode cL_law 406 = .ok (.invokevirtual 56, 3) := by decide +kernel
theorem dL_law_409 : decode cL_law 409 = .ok (.if_icmp .eq 317, 3) := by decide +kernel
theorem dL_law_412 : decode cL_law 412 = .ok (.iconst 0, 1) := by decide +kernel
theorem dL_law_413 : decode cL_law 413 = .ok (.ireturn, 1) := by decide +kernel
theorem dL_law_414 : decode cL_law 414 = .ok (.aload_n 1, 1) := by decide +kernel
theorem dL_law_415 : decode cL_law 415 = .ok (.aload_n 0, 1) := by decide +kernel
theorem dL_law_416 : decode cL_law 416 = .ok (.iload_n 3, 1) := by decide +kernel
theorem dL_law_417 : decode cL_law 417 = .ok (.iconst 1, 1) := by decide +kernel
theorem dL_law_418 : decode cL_law 418 = .ok (.iadd, 1) := by decide +kernel
theorem dL_law_419 : decode cL_law 419 = .ok (.iaload, 1) := by decide +kernel
theorem dL_law_420 : decode cL_law 420 = .ok (.invokevirtual 57, 3) := by decide +kernel
theorem dL_law_423 : decode cL_law 423 = .ok (.aload_n 2, 1) := by decide +kernel
theorem dL_law_424 : decode cL_law 424 = .ok (.aload_n 0, 1) := by decide +kernel
theorem dL_law_425 : decode cL_law 425 = .ok (.iload_n 3, 1) := by decide +kernel
theorem dL_law_426 : decode cL_law 426 = .ok (.iconst 1, 1) := by decide +kernel
theorem dL_law_427 : decode cL_law 427 = .ok (.iadd, 1) := by decide +kernel
theorem dL_law_428 : decode cL_law 428 = .ok (.iaload, 1) := by decide +kernel
theorem dL_law_429 : decode cL_law 429 = .ok (.invokevirtual 60, 3) := by decide +kernel
theorem dL_law_432 : decode cL_law 432 = .ok (.if_icmp .eq 294, 3) := by decide +kernel
theorem dL_law_435 : decode cL_law 435 = .ok (.iconst 0, 1) := by decide +kernel
theorem dL_law_436 : decode cL_law 436 = .ok (.ireturn, 1) := by decide +kernel
theorem dL_law_437 : decode cL_law 437 = .ok (.aload_n 1, 1) := by decide +kernel
theorem dL_law_438 : decode cL_law 438 = .ok (.aload_n 0, 1) := by decide +kernel
theorem dL_law_439 : decode cL_law 439 = .ok (.iload_n 3, 1) := by decide +kernel
theorem dL_law_440 : decode cL_law 440 = .ok (.iconst 1, 1) := by decide +kernel
theorem dL_law_441 : decode cL_law 441 = .ok (.iadd, 1) := by decide +kernel
theorem dL_law_442 : decode cL_law 442 = .ok (.iaload, 1) := by decide +kernel
theorem dL_law_443 : decode cL_law 443 = .ok (.invokevirtual 61, 3) := by decide +kernel
theorem dL_law_446 : decode cL_law 446 = .ok (.aload_n 2, 1) := by decide +kernel
theorem dL_law_447 : decode cL_law 447 = .ok (.aload_n 0, 1) := by decide +kernel
theorem dL_law_448 : decode cL_law 448 = .ok (.iload_n 3, 1) := by decide +kernel
theorem dL_law_449 : decode cL_law 449 = .ok (.iconst 1, 1) := by decide +kernel
theorem dL_law_450 : decode cL_law 450 = .ok (.iadd, 1) := by decide +kernel
theorem dL_law_451 : decode cL_law 451 = .ok (.iaload, 1) := by decide +kernel
theorem dL_law_452 : decode cL_law 452 = .ok (.invokevirtual 64, 3) := by decide +kernel
theorem dL_law_455 : decode cL_law 455 = .ok (.if_icmp .eq 271, 3) := by decide +kernel
theorem dL_law_458 : decode cL_law 458 = .ok (.iconst 0, 1) := by decide +kernel
theorem dL_law_459 : decode cL_law 459 = .ok (.ireturn, 1) := by decide +kernel
theorem dL_law_460 : decode cL_law 460 = .ok (.aload_n 1, 1) := by decide +kernel
theorem dL_law_461 : decode cL_law 461 = .ok (.aload_n 0, 1) := by decide +kernel
theorem dL_law_462 : decode cL_law 462 = .ok (.iload_n 3, 1) := by decide +kernel
theorem dL_law_463 : decode cL_law 463 = .ok (.iconst 1, 1) := by decide +kernel
theorem dL_law_464 : decode cL_law 464 = .ok (.iadd, 1) := by decide +kernel
theorem dL_law_465 : decode cL_law 465 = .ok (.iaload, 1) := by decide +kernel
theorem dL_law_466 : decode cL_law 466 = .ok (.aload_n 0, 1) := by decide +kernel
theorem dL_law_467 : decode cL_law 467 = .ok (.iload_n 3, 1) := by decide +kernel
theorem dL_law_468 : decode cL_law 468 = .ok (.iconst 2, 1) := by decide +kernel
theorem dL_law_469 : decode cL_law 469 = .ok (.iadd, 1) := by decide +kernel
theorem dL_law_470 : decode cL_law 470 = .ok (.iaload, 1) := by decide +kernel
theorem dL_law_471 : decode cL_law 471 = .ok (.invokevirtual 65, 3) := by decide +kernel
theorem dL_law_474 : decode cL_law 474 = .ok (.aload_n 2, 1) := by decide +kernel
theorem dL_law_475 : decode cL_law 475 = .ok (.aload_n 0, 1) := by decide +kernel
theorem dL_law_476 : decode cL_law 476 = .ok (.iload_n 3, 1) := by decide +kernel
theorem dL_law_477 : decode cL_law 477 = .ok (.iconst 1, 1) := by decide +kernel
theorem dL_law_478 : decode cL_law 478 = .ok (.iadd, 1) := by decide +kernel
theorem dL_law_479 : decode cL_law 479 = .ok (.iaload, 1) := by decide +kernel
theorem dL_law_480 : decode cL_law 480 = .ok (.aload_n 0, 1) := by decide +kernel
theorem dL_law_481 : decode cL_law 481 = .ok (.iload_n 3, 1) := by decide +kernel
theorem dL_law_482 : decode cL_law 482 = .ok (.iconst 2, 1) := by decide +kernel
theorem dL_law_483 : decode cL_law 483 = .ok (.iadd, 1) := by decide +kernel
theorem dL_law_484 : decode cL_law 484 = .ok (.iaload, 1) := by decide +kernel
theorem dL_law_485 : decode cL_law 485 = .ok (.invokevirtual 68, 3) := by decide +kernel
theorem dL_law_488 : decode cL_law 488 = .ok (.if_icmp .eq 238, 3) := by decide +kernel
theorem dL_law_491 : decode cL_law 491 = .ok (.iconst 0, 1) := by decide +kernel
theorem dL_law_492 : decode cL_law 492 = .ok (.ireturn, 1) := by decide +kernel
theorem dL_law_493 : decode cL_law 493 = .ok (.aload_n 1, 1) := by decide +kernel
theorem dL_law_494 : decode cL_law 494 = .ok (.aload_n 0, 1) := by decide +kernel
theorem dL_law_495 : decode cL_law 495 = .ok (.iload_n 3, 1) := by decide +kernel
theorem dL_law_496 : decode cL_law 496 = .ok (.iconst 1, 1) := by decide +kernel
theorem dL_law_497 : decode cL_law 497 = .ok (.iadd, 1) := by decide +kernel
theorem dL_law_498 : decode cL_law 498 = .ok (.iaload, 1) := by decide +kernel
theorem dL_law_499 : decode cL_law 499 = .ok (.aload_n 0, 1) := by decide +kernel
theorem dL_law_500 : decode cL_law 500 = .ok (.iload_n 3, 1) := by decide +kernel
theorem dL_law_501 : decode cL_law 501 = .ok (.iconst 2, 1) := by decide +kernel
theorem dL_law_502 : decode cL_law 502 = .ok (.iadd, 1) := by decide +kernel
theorem dL_law_503 : decode cL_law 503 = .ok (.iaload, 1) := by decide +kernel
theorem dL_law_504 : decode cL_law 504 = .ok (.invokevirtual 69, 3) := by decide +kernel
theorem dL_law_507 : decode cL_law 507 = .ok (.aload_n 2, 1) := by decide +kernel
theorem dL_law_508 : decode cL_law 508 = .ok (.aload_n 0, 1) := by decide +kernel
theorem dL_law_509 : decode cL_law 509 = .ok (.iload_n 3, 1) := by decide +kernel
theorem dL_law_510 : decode cL_law 510 = .ok (.iconst 1, 1) := by decide +kernel
theorem dL_law_511 : decode cL_law 511 = .ok (.iadd, 1) := by decide +kernel
theorem dL_law_512 : decode cL_law 512 = .ok (.iaload, 1) := by decide +kernel
theorem dL_law_513 : decode cL_law 513 = .ok (.aload_n 0, 1) := by decide +kernel
theorem dL_law_514 : decode cL_law 514 = .ok (.iload_n 3, 1) := by decide +kernel
theorem dL_law_515 : decode cL_law 515 = .ok (.iconst 2, 1) := by decide +kernel
theorem dL_law_516 : decode cL_law 516 = .ok (.iadd, 1) := by decide +kernel
theorem dL_law_517 : decode cL_law 517 = .ok (.iaload, 1) := by decide +kernel
theorem dL_law_518 : decode cL_law 518 = .ok (.invokevirtual 72, 3) := by decide +kernel
theorem dL_law_521 : decode cL_law 521 = .ok (.if_icmp .eq 205, 3) := by decide +kernel
theorem dL_law_524 : decode cL_law 524 = .ok (.iconst 0, 1) := by decide +kernel
theorem dL_law_525 : decode cL_law 525 = .ok (.ireturn, 1) := by decide +kernel
theorem dL_law_526 : decode cL_law 526 = .ok (.aload_n 1, 1) := by decide +kernel
theorem dL_law_527 : decode cL_law 527 = .ok (.invokevirtual 73, 3) := by decide +kernel
theorem dL_law_530 : decode cL_law 530 = .ok (.aload_n 2, 1) := by decide +kernel
theorem dL_law_531 : decode cL_law 531 = .ok (.invokevirtual 76, 3) := by decide +kernel
theorem dL_law_534 : decode cL_law 534 = .ok (.if_icmp .eq 192, 3) := by decide +kernel
theorem dL_law_537 : decode cL_law 537 = .ok (.iconst 0, 1) := by decide +kernel
theorem dL_law_538 : decode cL_law 538 = .ok (.ireturn, 1) := by decide +kernel
theorem dL_law_539 : decode cL_law 539 = .ok (.aload_n 1, 1) := by decide +kernel
theorem dL_law_540 : decode cL_law 540 = .ok (.invokevirtual 77, 3) := by decide +kernel
theorem dL_law_543 : decode cL_law 543 = .ok (.aload_n 2, 1) := by decide +kernel
theorem dL_law_544 : decode cL_law 544 = .ok (.invokevirtual 80, 3) := by decide +kernel
theorem dL_law_547 : decode cL_law 547 = .ok (.if_icmp .eq 179, 3) := by decide +kernel
theorem dL_law_550 : decode cL_law 550 = .ok (.iconst 0, 1) := by decide +kernel
theorem dL_law_551 : decode cL_law 551 = .ok (.ireturn, 1) := by decide +kernel
theorem dL_law_552 : decode cL_law 552 = .ok (.aload_n 1, 1) := by decide +kernel
theorem dL_law_553 : decode cL_law 553 = .ok (.aload_n 0, 1) := by decide +kernel
theorem dL_law_554 : decode cL_law 554 = .ok (.iload_n 3, 1) := by decide +kernel
theorem dL_law_555 : decode cL_law 555 = .ok (.iconst 1, 1) := by decide +kernel
theorem dL_law_556 : decode cL_law 556 = .ok (.iadd, 1) := by decide +kernel
theorem dL_law_557 : decode cL_law 557 = .ok (.iaload, 1) := by decide +kernel
theorem dL_law_558 : decode cL_law 558 = .ok (.aload_n 0, 1) := by decide +kernel
theorem dL_law_559 : decode cL_law 559 = .ok (.iload_n 3, 1) := by decide +kernel
theorem dL_law_560 : decode cL_law 560 = .ok (.iconst 2, 1) := by decide +kernel
theorem dL_law_561 : decode cL_law 561 = .ok (.iadd, 1) := by decide +kernel
theorem dL_law_562 : decode cL_law 562 = .ok (.iaload, 1) := by decide +kernel
theorem dL_law_563 : decode cL_law 563 = .ok (.invokevirtual 81, 3) := by decide +kernel
theorem dL_law_566 : decode cL_law 566 = .ok (.aload_n 2, 1) := by decide +kernel
theorem dL_law_567 : decode cL_law 567 = .ok (.aload_n 0, 1) := by decide +kernel
theorem dL_law_568 : decode cL_law 568 = .ok (.iload_n 3, 1) := by decide +kernel
theorem dL_law_569 : decode cL_law 569 = .ok (.iconst 1, 1) := by decide +kernel
theorem dL_law_570 : decode cL_law 570 = .ok (.iadd, 1) := by decide +kernel
theorem dL_law_571 : decode cL_law 571 = .ok (.iaload, 1) := by decide +kernel
theorem dL_law_572 : decode cL_law 572 = .ok (.aload_n 0, 1) := by decide +kernel
theorem dL_law_573 : decode cL_law 573 = .ok (.iload_n 3, 1) := by decide +kernel
theorem dL_law_574 : decode cL_law 574 = .ok (.iconst 2, 1) := by decide +kernel
theorem dL_law_575 : decode cL_law 575 = .ok (.iadd, 1) := by decide +kernel
theorem dL_law_576 : decode cL_law 576 = .ok (.iaload, 1) := by decide +kernel
theorem dL_law_577 : decode cL_law 577 = .ok (.invokevirtual 84, 3) := by decide +kernel
theorem dL_law_580 : decode cL_law 580 = .ok (.if_icmp .eq 146, 3) := by decide +kernel
theorem dL_law_583 : decode cL_law 583 = .ok (.iconst 0, 1) := by decide +kernel
theorem dL_law_584 : decode cL_law 584 = .ok (.ireturn, 1) := by decide +kernel
theorem dL_law_585 : decode cL_law 585 = .ok (.aload_n 1, 1) := by decide +kernel
theorem dL_law_586 : decode cL_law 586 = .ok (.aload_n 0, 1) := by decide +kernel
theorem dL_law_587 : decode cL_law 587 = .ok (.iload_n 3, 1) := by decide +kernel
theorem dL_law_588 : decode cL_law 588 = .ok (.iconst 1, 1) := by decide +kernel
theorem dL_law_589 : decode cL_law 589 = .ok (.iadd, 1) := by decide +kernel
theorem dL_law_590 : decode cL_law 590 = .ok (.iaload, 1) := by decide +kernel
theorem dL_law_591 : decode cL_law 591 = .ok (.aload_n 0, 1) := by decide +kernel
theorem dL_law_592 : decode cL_law 592 = .ok (.iload_n 3, 1) := by decide +kernel
theorem dL_law_593 : decode cL_law 593 = .ok (.iconst 2, 1) := by decide +kernel
theorem dL_law_594 : decode cL_law 594 = .ok (.iadd, 1) := by decide +kernel
theorem dL_law_595 : decode cL_law 595 = .ok (.iaload, 1) := by decide +kernel
theorem dL_law_596 : decode cL_law 596 = .ok (.invokevirtual 85, 3) := by decide +kernel
theorem dL_law_599 : decode cL_law 599 = .ok (.aload_n 2, 1) := by decide +kernel
theorem dL_law_600 : decode cL_law 600 = .ok (.aload_n 0, 1) := by decide +kernel
theorem dL_law_601 : decode cL_law 601 = .ok (.iload_n 3, 1) := by decide +kernel
theorem dL_law_602 : decode cL_law 602 = .ok (.iconst 1, 1) := by decide +kernel
theorem dL_law_603 : decode cL_law 603 = .ok (.iadd, 1) := by decide +kernel
theorem dL_law_604 : decode cL_law 604 = .ok (.iaload, 1) := by decide +kernel
theorem dL_law_605 : decode cL_law 605 = .ok (.aload_n 0, 1) := by decide +kernel
theorem dL_law_606 : decode cL_law 606 = .ok (.iload_n 3, 1) := by decide +kernel
theorem dL_law_607 : decode cL_law 607 = .ok (.iconst 2, 1) := by decide +kernel
theorem dL_law_608 : decode cL_law 608 = .ok (.iadd, 1) := by decide +kernel
theorem dL_law_609 : decode cL_law 609 = .ok (.iaload, 1) := by decide +kernel
theorem dL_law_610 : decode cL_law 610 = .ok (.invokevirtual 88, 3) := by decide +kernel
theorem dL_law_613 : decode cL_law 613 = .ok (.if_icmp .eq 113, 3) := by decide +kernel
theorem dL_law_616 : decode cL_law 616 = .ok (.iconst 0, 1) := by decide +kernel
theorem dL_law_617 : decode cL_law 617 = .ok (.ireturn, 1) := by decide +kernel
theorem dL_law_618 : decode cL_law 618 = .ok (.aload_n 1, 1) := by decide +kernel
theorem dL_law_619 : decode cL_law 619 = .ok (.invokevirtual 89, 3) := by decide +kernel
theorem dL_law_622 : decode cL_law 622 = .ok (.aload_n 2, 1) := by decide +kernel
theorem dL_law_623 : decode cL_law 623 = .ok (.invokevirtual 92, 3) := by decide +kernel
theorem dL_law_626 : decode cL_law 626 = .ok (.if_icmp .eq 100, 3) := by decide +kernel
theorem dL_law_629 : decode cL_law 629 = .ok (.iconst 0, 1) := by decide +kernel
theorem dL_law_630 : decode cL_law 630 = .ok (.ireturn, 1) := by decide +kernel
theorem dL_law_631 : decode cL_law 631 = .ok (.aload_n 1, 1) := by decide +kernel
theorem dL_law_632 : decode cL_law 632 = .ok (.aload_n 0, 1) := by decide +kernel
theorem dL_law_633 : decode cL_law 633 = .ok (.iload_n 3, 1) := by decide +kernel
theorem dL_law_634 : decode cL_law 634 = .ok (.iconst 1, 1) := by decide +kernel
theorem dL_law_635 : decode cL_law 635 = .ok (.iadd, 1) := by decide +kernel
theorem dL_law_636 : decode cL_law 636 = .ok (.iaload, 1) := by decide +kernel
theorem dL_law_637 : decode cL_law 637 = .ok (.invokevirtual 93, 3) := by decide +kernel
theorem dL_law_640 : decode cL_law 640 = .ok (.aload_n 2, 1) := by decide +kernel
theorem dL_law_641 : decode cL_law 641 = .ok (.aload_n 0, 1) := by decide +kernel
theorem dL_law_642 : decode cL_law 642 = .ok (.iload_n 3, 1) := by decide +kernel
theorem dL_law_643 : decode cL_law 643 = .ok (.iconst 1, 1) := by decide +kernel
theorem dL_law_644 : decode cL_law 644 = .ok (.iadd, 1) := by decide +kernel
theorem dL_law_645 : decode cL_law 645 = .ok (.iaload, 1) := by decide +kernel
theorem dL_law_646 : decode cL_law 646 = .ok (.invokevirtual 96, 3) := by decide +kernel
theorem dL_law_649 : decode cL_law 649 = .ok (.if_icmp .eq 77, 3) := by decide +kernel
theorem dL_law_652 : decode cL_law 652 = .ok (.iconst 0, 1) := by decide +kernel
theorem dL_law_653 : decode cL_law 653 = .ok (.ireturn, 1) := by decide +kernel
theorem dL_law_654 : decode cL_law 654 = .ok (.aload_n 1, 1) := by decide +kernel
theorem dL_law_655 : decode cL_law 655 = .ok (.aload_n 0, 1) := by decide +kernel
theorem dL_law_656 : decode cL_law 656 = .ok (.iload_n 3, 1) := by decide +kernel
theorem dL_law_657 : decode cL_law 657 = .ok (.iconst 1, 1) := by decide +kernel
theorem dL_law_658 : decode cL_law 658 = .ok (.iadd, 1) := by decide +kernel
theorem dL_law_659 : decode cL_law 659 = .ok (.iaload, 1) := by decide +kernel
theorem dL_law_660 : decode cL_law 660 = .ok (.invokevirtual 97, 3) := by decide +kernel
theorem dL_law_663 : decode cL_law 663 = .ok (.aload_n 2, 1) := by decide +kernel
theorem dL_law_664 : decode cL_law 664 = .ok (.aload_n 0, 1) := by decide +kernel
theorem dL_law_665 : decode cL_law 665 = .ok (.iload_n 3, 1) := by decide +kernel
theorem dL_law_666 : decode cL_law 666 = .ok (.iconst 1, 1) := by decide +kernel
theorem dL_law_667 : decode cL_law 667 = .ok (.iadd, 1) := by decide +kernel
theorem dL_law_668 : decode cL_law 668 = .ok (.iaload, 1) := by decide +kernel
theorem dL_law_669 : decode cL_law 669 = .ok (.invokevirtual 100, 3) := by decide +kernel
theorem dL_law_672 : decode cL_law 672 = .ok (.if_icmp .eq 54, 3) := by decide +kernel
theorem dL_law_675 : decode cL_law 675 = .ok (.iconst 0, 1) := by decide +kernel
theorem dL_law_676 : decode cL_law 676 = .ok (.ireturn, 1) := by decide +kernel
theorem dL_law_677 : decode cL_law 677 = .ok (.aload_n 1, 1) := by decide +kernel
theorem dL_law_678 : decode cL_law 678 = .ok (.invokevirtual 101, 3) := by decide +kernel
theorem dL_law_681 : decode cL_law 681 = .ok (.aload_n 2, 1) := by decide +kernel
theorem dL_law_682 : decode cL_law 682 = .ok (.invokevirtual 104, 3) := by decide +kernel
theorem dL_law_685 : decode cL_law 685 = .ok (.if_icmp .eq 41, 3) := by decide +kernel
theorem dL_law_688 : decode cL_law 688 = .ok (.iconst 0, 1) := by decide +kernel
theorem dL_law_689 : decode cL_law 689 = .ok (.ireturn, 1) := by decide +kernel
theorem dL_law_690 : decode cL_law 690 = .ok (.aload_n 1, 1) := by decide +kernel
theorem dL_law_691 : decode cL_law 691 = .ok (.aload_n 0, 1) := by decide +kernel
theorem dL_law_692 : decode cL_law 692 = .ok (.iload_n 3, 1) := by decide +kernel
theorem dL_law_693 : decode cL_law 693 = .ok (.iconst 1, 1) := by decide +kernel
theorem dL_law_694 : decode cL_law 694 = .ok (.iadd, 1) := by decide +kernel
theorem dL_law_695 : decode cL_law 695 = .ok (.iaload, 1) := by decide +kernel
theorem dL_law_696 : decode cL_law 696 = .ok (.invokevirtual 105, 3) := by decide +kernel
theorem dL_law_699 : decode cL_law 699 = .ok (.aload_n 2, 1) := by decide +kernel
theorem dL_law_700 : decode cL_law 700 = .ok (.aload_n 0, 1) := by decide +kernel
theorem dL_law_701 : decode cL_law 701 = .ok (.iload_n 3, 1) := by decide +kernel
theorem dL_law_702 : decode cL_law 702 = .ok (.iconst 1, 1) := by decide +kernel
theorem dL_law_703 : decode cL_law 703 = .ok (.iadd, 1) := by decide +kernel
theorem dL_law_704 : decode cL_law 704 = .ok (.iaload, 1) := by decide +kernel
theorem dL_law_705 : decode cL_law 705 = .ok (.invokevirtual 108, 3) := by decide +kernel
theorem dL_law_708 : decode cL_law 708 = .ok (.if_icmp .eq 18, 3) := by decide +kernel
theorem dL_law_711 : decode cL_law 711 = .ok (.iconst 0, 1) := by decide +kernel
theorem dL_law_712 : decode cL_law 712 = .ok (.ireturn, 1) := by decide +kernel
theorem dL_law_713 : decode cL_law 713 = .ok (.aload_n 1, 1) := by decide +kernel
theorem dL_law_714 : decode cL_law 714 = .ok (.invokevirtual 109, 3) := by decide +kernel
theorem dL_law_717 : decode cL_law 717 = .ok (.aload_n 2, 1) := by decide +kernel
theorem dL_law_718 : decode cL_law 718 = .ok (.invokevirtual 112, 3) := by decide +kernel
theorem dL_law_721 : decode cL_law 721 = .ok (.if_icmp .eq 5, 3) := by decide +kernel
theorem dL_law_724 : decode cL_law 724 = .ok (.iconst 0, 1) := by decide +kernel
theorem dL_law_725 : decode cL_law 725 = .ok (.ireturn, 1) := by decide +kernel
theorem dL_law_726 : decode cL_law 726 = .ok (.iinc 3 4, 3) := by decide +kernel
theorem dL_law_729 : decode cL_law 729 = .ok (.goto (-711), 3) := by decide +kernel
theorem dL_law_732 : decode cL_law 732 = .ok (.iconst 1, 1) := by decide +kernel
theorem dL_law_733 : decode cL_law 733 = .ok (.ireturn, 1) := by decide +kernel
