theorem dX9_copyFrom_30 : decode cX9_copyFrom 30 = .ok (.invokevirtual 68, 3) := by decide +kernel
theorem dX9_copyFrom_33 : decode cX9_copyFrom 33 = .ok (.aload_n 0, 1) := by decide +kernel
theorem dX9_copyFrom_34 : decode cX9_copyFrom 34 = .ok (.getfield 32, 3) := by decide +kernel
theorem dX9_copyFrom_37 : decode cX9_copyFrom 37 = .ok (.aload_n 1, 1) := by decide +kernel
theorem dX9_copyFrom_38 : decode cX9_copyFrom 38 = .ok (.getfield 32, 3) := by decide +kernel
theorem dX9_copyFrom_41 : decode cX9_copyFrom 41 = .ok (.invokevirtual 71, 3) := by decide +kernel
theorem dX9_copyFrom_44 : decode cX9_copyFrom 44 = .ok (.aload_n 0, 1) := by decide +kernel
theorem dX9_copyFrom_45 : decode cX9_copyFrom 45 = .ok (.getfield 39, 3) := by decide +kernel
theorem dX9_copyFrom_48 : decode cX9_copyFrom 48 = .ok (.aload_n 1, 1) := by decide +kernel
theorem dX9_copyFrom_49 : decode cX9_copyFrom 49 = .ok (.getfield 39, 3) := by decide +kernel
theorem dX9_copyFrom_52 : decode cX9_copyFrom 52 = .ok (.invokevirtual 74, 3) := by decide +kernel
theorem dX9_copyFrom_55 : decode cX9_copyFrom 55 = .ok (.aload_n 0, 1) := by decide +kernel
theorem dX9_copyFrom_56 : decode cX9_copyFrom 56 = .ok (.getfield 46, 3) := by decide +kernel
theorem dX9_copyFrom_59 : decode cX9_copyFrom 59 = .ok (.aload_n 1, 1) := by decide +kernel
theorem dX9_copyFrom_60 : decode cX9_copyFrom 60 = .ok (.getfield 46, 3) := by decide +kernel
theorem dX9_copyFrom_63 : decode cX9_copyFrom 63 = .ok (.invokevirtual 77, 3) := by decide +kernel
theorem dX9_copyFrom_66 : decode cX9_copyFrom 66 = .ok (.aload_n 0, 1) := by decide +kernel
theorem dX9_copyFrom_67 : decode cX9_copyFrom 67 = .ok (.getfield 53, 3) := by decide +kernel
theorem dX9_copyFrom_70 : decode cX9_copyFrom 70 = .ok (.aload_n 1, 1) := by decide +kernel
theorem dX9_copyFrom_71 : decode cX9_copyFrom 71 = .ok (.getfield 53, 3) := by decide +kernel
theorem dX9_copyFrom_74 : decode cX9_copyFrom 74 = .ok (.invokevirtual 80, 3) := by decide +kernel
theorem dX9_copyFrom_77 : decode cX9_copyFrom 77 = .ok (.aload_n 0, 1) := by decide +kernel
theorem dX9_copyFrom_78 : decode cX9_copyFrom 78 = .ok (.aload_n 1, 1) := by decide +kernel
theorem dX9_copyFrom_79 : decode cX9_copyFrom 79 = .ok (.getfield 83, 3) := by decide +kernel
theorem dX9_copyFrom_82 : decode cX9_copyFrom 82 = .ok (.putfield 83, 3) := by decide +kernel
theorem dX9_copyFrom_85 : decode cX9_copyFrom 85 = .ok (.aload_n 0, 1) := by decide +kernel
theorem dX9_copyFrom_86 : decode cX9_copyFrom 86 = .ok (.aload_n 1, 1) := by decide +kernel
theorem dX9_copyFrom_87 : decode cX9_copyFrom 87 = .ok (.getfield 87, 3) := by decide +kernel
theorem dX9_copyFrom_90 : decode cX9_copyFrom 90 = .ok (.putfield 87, 3) := by decide +kernel
theorem dX9_copyFrom_93 : decode cX9_copyFrom 93 = .ok (.return_, 1) := by decide +kernel
theorem dX9_passTicks_0 : decode cX9_passTicks 0 = .ok (.iconst 0, 1) := by decide +kernel
theorem dX9_passTicks_1 : decode cX9_passTicks 1 = .ok (.istore_n 2, 1) := by decide +kernel
theorem dX9_passTicks_2 : decode cX9_passTicks 2 = .ok (.iconst 0, 1) := by decide +kernel
theorem dX9_passTicks_3 : decode cX9_passTicks 3 = .ok (.istore_n 3, 1) := by decide +kernel
theorem dX9_passTicks_4 : decode cX9_passTicks 4 = .ok (.iload_n 3, 1) := by decide +kernel
theorem dX9_passTicks_5 : decode cX9_passTicks 5 = .ok (.iload_n 1, 1) := by decide +kernel
theorem dX9_passTicks_6 : decode cX9_passTicks 6 = .ok (.if_icmp .ge 19, 3) := by decide +kernel
theorem dX9_passTicks_9 : decode cX9_passTicks 9 = .ok (.aload_n 0, 1) := by decide +kernel
theorem dX9_passTicks_10 : decode cX9_passTicks 10 = .ok (.invokevirtual 90, 3) := by decide +kernel
theorem dX9_passTicks_13 : decode cX9_passTicks 13 = .ok (.ifCond .eq 6, 3) := by decide +kernel
theorem dX9_passTicks_16 : decode cX9_passTicks 16 = .ok (.iinc 2 1, 3) := by decide +kernel
theorem dX9_passTicks_19 : decode cX9_passTicks 19 = .ok (.iinc 3 1, 3) := by decide +kernel
theorem dX9_passTicks_22 : decode cX9_passTicks 22 = .ok (.goto (-18), 3) := by decide +kernel
theorem dX9_passTicks_25 : decode cX9_passTicks 25 = .ok (.iload_n 2, 1) := by decide +kernel
theorem dX9_passTicks_26 : decode cX9_passTicks 26 = .ok (.ireturn, 1) := by decide +kernel
theorem dX9_passTick_0 : decode cX9_passTick 0 = .ok (.aload_n 0, 1) := by decide +kernel
theorem dX9_passTick_1 : decode cX9_passTick 1 = .ok (.getfield 18, 3) := by decide +kernel
theorem dX9_passTick_4 : decode cX9_passTick 4 = .ok (.aload_n 0, 1) := by decide +kernel
theorem dX9_passTick_5 : decode cX9_passTick 5 = .ok (.getfield 83, 3) := by decide +kernel
theorem dX9_passTick_8 : decode cX9_passTick 8 = .ok (.invokevirtual 94, 3) := by decide +kernel
theorem dX9_passTick_11 : decode cX9_passTick 11 = .ok (.istore_n 1, 1) := by decide +kernel
theorem dX9_passTick_12 : decode cX9_passTick 12 = .ok (.aload_n 0, 1) := by decide +kernel
theorem dX9_passTick_13 : decode cX9_passTick 13 = .ok (.dup, 1) := by decide +kernel
theorem dX9_passTick_14 : decode cX9_passTick 14 = .ok (.getfield 87, 3) := by decide +kernel
theorem dX9_passTick_17 : decode cX9_passTick 17 = .ok (.iload_n 1, 1) := by decide +kernel
theorem dX9_passTick_18 : decode cX9_passTick 18 = .ok (.iadd, 1) := by decide +kernel
theorem dX9_passTick_19 : decode cX9_passTick 19 = .ok (.putfield 87, 3) := by decide +kernel
theorem dX9_passTick_22 : decode cX9_passTick 22 = .ok (.aload_n 0, 1) := by decide +kernel
theorem dX9_passTick_23 : decode cX9_passTick 23 = .ok (.getfield 25, 3) := by decide +kernel
theorem dX9_passTick_26 : decode cX9_passTick 26 = .ok (.iload_n 1, 1) := by decide +kernel
theorem dX9_passTick_27 : decode cX9_passTick 27 = .ok (.aload_n 0, 1) := by decide +kernel
theorem dX9_passTick_28 : decode cX9_passTick 28 = .ok (.getfield 9, 3) := by decide +kernel
theorem dX9_passTick_31 : decode cX9_passTick 31 = .ok (.iconst 2, 1) := by decide +kernel
theorem dX9_passTick_32 : decode cX9_passTick 32 = .ok (.iaload, 1) := by decide +kernel
theorem dX9_passTick_33 : decode cX9_passTick 33 = .ok (.aload_n 0, 1) := by decide +kernel
theorem dX9_passTick_34 : decode cX9_passTick 34 = .ok (.getfield 9, 3) := by decide +kernel
theorem dX9_passTick_37 : decode cX9_passTick 37 = .ok (.iconst 3, 1) := by decide +kernel
theorem dX9_passTick_38 : decode cX9_passTick 38 = .ok (.iaload, 1) := by decide +kernel
theorem dX9_passTick_39 : decode cX9_passTick 39 = .ok (.invokevirtual 98, 3) := by decide +kernel
theorem dX9_passTick_42 : decode cX9_passTick 42 = .ok (.istore_n 2, 1) := by decide +kernel
theorem dX9_passTick_43 : decode cX9_passTick 43 = .ok (.aload_n 0, 1) := by decide +kernel
theorem dX9_passTick_44 : decode cX9_passTick 44 = .ok (.getfield 32, 3) := by decide +kernel
theorem dX9_passTick_47 : decode cX9_passTick 47 = .ok (.iload_n 2, 1) := by decide +kernel
theorem dX9_passTick_48 : decode cX9_passTick 48 = .ok (.iload_n 1, 1) := by decide +kernel
theorem dX9_passTick_49 : decode cX9_passTick 49 = .ok (.ifCond .ne 7, 3) := by decide +kernel
theorem dX9_passTick_52 : decode cX9_passTick 52 = .ok (.iconst 1, 1) := by decide +kernel
theorem dX9_passTick_53 : decode cX9_passTick 53 = .ok (.goto 4, 3) := by decide +kernel
theorem dX9_passTick_56 : decode cX9_passTick 56 = .ok (.iconst 0, 1) := by decide +kernel
theorem dX9_passTick_57 : decode cX9_passTick 57 = .ok (.aload_n 0, 1) := by decide +kernel
theorem dX9_passTick_58 : decode cX9_passTick 58 = .ok (.getfield 9, 3) := by decide +kernel
theorem dX9_passTick_61 : decode cX9_passTick 61 = .ok (.iconst 0, 1) := by decide +kernel
theorem dX9_passTick_62 : decode cX9_passTick 62 = .ok (.iaload, 1) := by decide +kernel
theorem dX9_passTick_63 : decode cX9_passTick 63 = .ok (.aload_n 0, 1) := by decide +kernel
theorem dX9_passTick_64 : decode cX9_passTick 64 = .ok (.getfield 9, 3) := by decide +kernel
theorem dX9_passTick_67 : decode cX9_passTick 67 = .ok (.iconst 1, 1) := by decide +kernel
theorem dX9_passTick_68 : decode cX9_passTick 68 = .ok (.iaload, 1) := by decide +kernel
theorem dX9_passTick_69 : decode cX9_passTick 69 = .ok (.aload_n 0, 1) := by decide +kernel
theorem dX9_passTick_70 : decode cX9_passTick 70 = .ok (.getfield 9, 3) := by decide +kernel
theorem dX9_passTick_73 : decode cX9_passTick 73 = .ok (.iconst 4, 1) := by decide +kernel
theorem dX9_passTick_74 : decode cX9_passTick 74 = .ok (.iaload, 1) := by decide +kernel
theorem dX9_passTick_75 : decode cX9_passTick 75 = .ok (.invokevirtual 101, 3) := by decide +kernel
theorem dX9_passTick_78 : decode cX9_passTick 78 = .ok (.istore_n 3, 1) := by decide +kernel
theorem dX9_passTick_79 : decode cX9_passTick 79 = .ok (.iload_n 3, 1) := by decide +kernel
theorem dX9_passTick_80 : decode cX9_passTick 80 = .ok (.iconst (-1), 1) := by decide +kernel
theorem dX9_passTick_81 : decode cX9_passTick 81 = .ok (.if_icmp .eq 19, 3) := by decide +kernel
theorem dX9_passTick_84 : decode cX9_passTick 84 = .ok (.aload_n 0, 1) := by decide +kernel
theorem dX9_passTick_85 : decode cX9_passTick 85 = .ok (.getfield 53, 3) := by decide +kernel
theorem dX9_passTick_88 : decode cX9_passTick 88 = .ok (.aload_n 0, 1) := by decide +kernel
theorem dX9_passTick_89 : decode cX9_passTick 89 = .ok (.getfield 83, 3) := by decide +kernel
theorem dX9_passTick_92 : decode cX9_passTick 92 = .ok (.aload_n 0, 1) := by decide +kernel
theorem dX9_passTick_93 : decode cX9_passTick 93 = .ok (.invokevirtual 104, 3) := by decide +kernel
theorem dX9_passTick_96 : decode cX9_passTick 96 = .ok (.iload_n 3, 1) := by decide +kernel
theorem dX9_passTick_97 : decode cX9_passTick 97 = .ok (.invokevirtual 108, 3) := by decide +kernel
theorem dX9_passTick_100 : decode cX9_passTick 100 = .ok (.aload_n 0, 1) := by decide +kernel
theorem dX9_passTick_101 : decode cX9_passTick 101 = .ok (.getfield 39, 3) := by decide +kernel
theorem dX9_passTick_104 : decode cX9_passTick 104 = .ok (.invokevirtual 112, 3) := by decide +kernel
theorem dX9_passTick_107 : decode cX9_passTick 107 = .ok (.aload_n 0, 1) := by decide +kernel
theorem dX9_passTick_108 : decode cX9_passTick 108 = .ok (.dup, 1) := by decide +kernel
theorem dX9_passTick_109 : decode cX9_passTick 109 = .ok (.getfield 83, 3) := by decide +kernel
theorem dX9_passTick_112 : decode cX9_passTick 112 = .ok (.iconst 1, 1) := by decide +kernel
theorem dX9_passTick_113 : decode cX9_passTick 113 = .ok (.iadd, 1) := by decide +kernel
theorem dX9_passTick_114 : decode cX9_passTick 114 = .ok (.putfield 83, 3) := by decide +kernel
theorem dX9_passTick_117 : decode cX9_passTick 117 = .ok (.aload_n 0, 1) := by decide +kernel
theorem dX9_passTick_118 : decode cX9_passTick 118 = .ok (.getfield 18, 3) := by decide +kernel
theorem dX9_passTick_121 : decode cX9_passTick 121 = .ok (.aload_n 0, 1) := by decide +kernel
theorem dX9_passTick_122 : decode cX9_passTick 122 = .ok (.getfield 83, 3) := by decide +kernel
theorem dX9_passTick_125 : decode cX9_passTick 125 = .ok (.invokevirtual 114, 3) := by decide +kernel
theorem dX9_passTick_128 : decode cX9_passTick 128 = .ok (.iload_n 3, 1) := by decide +kernel
theorem dX9_passTick_129 : decode cX9_passTick 129 = .ok (.iconst (-1), 1) := by decide +kernel
theorem dX9_passTick_130 : decode cX9_passTick 130 = .ok (.if_icmp .eq 7, 3) := by decide +kernel
theorem dX9_passTick_133 : decode cX9_passTick 133 = .ok (.iconst 1, 1) := by decide +kernel
theorem dX9_passTick_134 : decode cX9_passTick 134 = .ok (.goto 4, 3) := by decide +kernel
theorem dX9_passTick_137 : decode cX9_passTick 137 = .ok (.iconst 0, 1) := by decide +kernel
theorem dX9_passTick_138 : decode cX9_passTick 138 = .ok (.ireturn, 1) := by decide +kernel
theorem dX9_drumPlace_0 : decode cX9_drumPlace 0 = .ok (.aload_n 0, 1) := by decide +kernel
theorem dX9_drumPlace_1 : decode cX9_drumPlace 1 = .ok (.getfield 46, 3) := by decide +kernel
theorem dX9_drumPlace_4 : decode cX9_drumPlace 4 = .ok (.aload_n 0, 1) := by decide +kernel
theorem dX9_drumPlace_5 : decode cX9_drumPlace 5 = .ok (.getfield 39, 3) := by decide +kernel
theorem dX9_drumPlace_8 : decode cX9_drumPlace 8 = .ok (.getfield 118, 3) := by decide +kernel
theorem dX9_drumPlace_11 : decode cX9_drumPlace 11 = .ok (.aload_n 0, 1) := by decide +kernel
theorem dX9_drumPlace_12 : decode cX9_drumPlace 12 = .ok (.getfield 9, 3) := by decide +kernel
theorem dX9_drumPlace_15 : decode cX9_drumPlace 15 = .ok (.iconst 5, 1) := by decide +kernel
theorem dX9_drumPlace_16 : decode cX9_drumPlace 16 = .ok (.iaload, 1) := by decide +kernel
theorem dX9_drumPlace_17 : decode cX9_drumPlace 17 = .ok (.invokevirtual 121, 3) := by decide +kernel
theorem dX9_drumPlace_20 : decode cX9_drumPlace 20 = .ok (.ireturn, 1) := by decide +kernel
theorem dX9_accountOf_0 : decode cX9_accountOf 0 = .ok (.iload_n 1, 1) := by decide +kernel
theorem dX9_accountOf_1 : decode cX9_accountOf 1 = .ok (.tableswitch 60 0 3 #[31, 36, 44, 52], 31) := by decide +kernel
theorem dX9_accountOf_32 : decode cX9_accountOf 32 = .ok (.aload_n 0, 1) := by decide +kernel
theorem dX9_accountOf_33 : decode cX9_accountOf 33 = .ok (.getfield 87, 3) := by decide +kernel
theorem dX9_accountOf_36 : decode cX9_accountOf 36 = .ok (.ireturn, 1) := by decide +kernel
theorem dX9_accountOf_37 : decode cX9_accountOf 37 = .ok (.aload_n 0, 1) := by decide +kernel
theorem dX9_accountOf_38 : decode cX9_accountOf 38 = .ok (.getfield 32, 3) := by decide +kernel
theorem dX9_accountOf_41 : decode cX9_accountOf 41 = .ok (.getfield 125, 3) := by decide +kernel
theorem dX9_accountOf_44 : decode cX9_accountOf 44 = .ok (.ireturn, 1) := by decide +kernel
theorem dX9_accountOf_45 : decode cX9_accountOf 45 = .ok (.aload_n 0, 1) := by decide +kernel
theorem dX9_accountOf_46 : decode cX9_accountOf 46 = .ok (.getfield 32, 3) := by decide +kernel
theorem dX9_accountOf_49 : decode cX9_accountOf 49 = .ok (.getfield 128, 3) := by decide +kernel
theorem dX9_accountOf_52 : decode cX9_accountOf 52 = .ok (.ireturn, 1) := by decide +kernel
theorem dX9_accountOf_53 : decode cX9_accountOf 53 = .ok (.aload_n 0, 1) := by decide +kernel
theorem dX9_accountOf_54 : decode cX9_accountOf 54 = .ok (.getfield 32, 3) := by decide +kernel
theorem dX9_accountOf_57 : decode cX9_accountOf 57 = .ok (.getfield 131, 3) := by decide +kernel
theorem dX9_accountOf_60 : decode cX9_accountOf 60 = .ok (.ireturn, 1) := by decide +kernel
theorem dX9_accountOf_61 : decode cX9_accountOf 61 = .ok (.aload_n 0, 1) := by decide +kernel
theorem dX9_accountOf_62 : decode cX9_accountOf 62 = .ok (.getfield 25, 3) := by decide +kernel
theorem dX9_accountOf_65 : decode cX9_accountOf 65 = .ok (.getfield 134, 3) := by decide +kernel
theorem dX9_accountOf_68 : decode cX9_accountOf 68 = .ok (.aload_n 0, 1) := by decide +kernel
theorem dX9_accountOf_69 : decode cX9_accountOf 69 = .ok (.getfield 32, 3) := by decide +kernel
theorem dX9_accountOf_72 : decode cX9_accountOf 72 = .ok (.getfield 137, 3) := by decide +kernel
theorem dX9_accountOf_75 : decode cX9_accountOf 75 = .ok (.iadd, 1) := by decide +kernel
theorem dX9_accountOf_76 : decode cX9_accountOf 76 = .ok (.ireturn, 1) := by decide +kernel
theorem dX10_init_0 : decode cX10_init 0 = .ok (.aload_n 0, 1) := by decide +kernel
theorem dX10_init_1 : decode cX10_init 1 = .ok (.invokespecial 3, 3) := by decide +kernel
theorem dX10_init_4 : decode cX10_init 4 = .ok (.aload_n 0, 1) := by decide +kernel
theorem dX10_init_5 : decode cX10_init 5 = .ok (.bipush 100, 2) := by decide +kernel
theorem dX10_init_7 : decode cX10_init 7 = .ok (.newarray .char, 2) := by decide +kernel
theorem dX10_init_9 : decode cX10_init 9 = .ok (.putfield 9, 3) := by decide +kernel
theorem dX10_init_12 : decode cX10_init 12 = .ok (.return_, 1) := by decide +kernel
theorem dX10_append_0 : decode cX10_append 0 = .ok (.aload_n 0, 1) := by decide +kernel
theorem dX10_append_1 : decode cX10_append 1 = .ok (.getfield 15, 3) := by decide +kernel
theorem dX10_append_4 : decode cX10_append 4 = .ok (.bipush 100, 2) := by decide +kernel
theorem dX10_append_6 : decode cX10_append 6 = .ok (.if_icmp .ge 23, 3) := by decide +kernel
theorem dX10_append_9 : decode cX10_append 9 = .ok (.aload_n 0, 1) := by decide +kernel
theorem dX10_append_10 : decode cX10_append 10 = .ok (.getfield 9, 3) := by decide +kernel
theorem dX10_append_13 : decode cX10_append 13 = .ok (.aload_n 0, 1) := by decide +kernel
theorem dX10_append_14 : decode cX10_append 14 = .ok (.getfield 15, 3) := by decide +kernel
theorem dX10_append_17 : decode cX10_append 17 = .ok (.iload_n 1, 1) := by decide +kernel
theorem dX10_append_18 : decode cX10_append 18 = .ok (.castore, 1) := by decide +kernel
theorem dX10_append_19 : decode cX10_append 19 = .ok (.aload_n 0, 1) := by decide +kernel
theorem dX10_append_20 : decode cX10_append 20 = .ok (.dup, 1) := by decide +kernel
theorem dX10_append_21 : decode cX10_append 21 = .ok (.getfield 15, 3) := by decide +kernel
theorem dX10_append_24 : decode cX10_append 24 = .ok (.iconst 1, 1) := by decide +kernel
theorem dX10_append_25 : decode cX10_append 25 = .ok (.iadd, 1) := by decide +kernel
theorem dX10_append_26 : decode cX10_append 26 = .ok (.putfield 15, 3) := by decide +kernel
theorem dX10_append_29 : decode cX10_append 29 = .ok (.return_, 1) := by decide +kernel
theorem dX10_characterAt_0 : decode cX10_characterAt 0 = .ok (.iload_n 1, 1) := by decide +kernel
theorem dX10_characterAt_1 : decode cX10_characterAt 1 = .ok (.ifCond .lt 20, 3) := by decide +kernel
theorem dX10_characterAt_4 : decode cX10_characterAt 4 = .ok (.iload_n 1, 1) := by decide +kernel
theorem dX10_characterAt_5 : decode cX10_characterAt 5 = .ok (.aload_n 0, 1) := by decide +kernel
theorem dX10_characterAt_6 : decode cX10_characterAt 6 = .ok (.getfield 15, 3) := by decide +kernel
theorem dX10_characterAt_9 : decode cX10_characterAt 9 = .ok (.if_icmp .ge 12, 3) := by decide +kernel
theorem dX10_characterAt_12 : decode cX10_characterAt 12 = .ok (.aload_n 0, 1) := by decide +kernel
theorem dX10_characterAt_13 : decode cX10_characterAt 13 = .ok (.getfield 9, 3) := by decide +kernel
theorem dX10_characterAt_16 : decode cX10_characterAt 16 = .ok (.iload_n 1, 1) := by decide +kernel
theorem dX10_characterAt_17 : decode cX10_characterAt 17 = .ok (.caload, 1) := by decide +kernel
theorem dX10_characterAt_18 : decode cX10_characterAt 18 = .ok (.goto 4, 3) := by decide +kernel
theorem dX10_characterAt_21 : decode cX10_characterAt 21 = .ok (.iconst 0, 1) := by decide +kernel
theorem dX10_characterAt_22 : decode cX10_characterAt 22 = .ok (.ireturn, 1) := by decide +kernel
theorem dX10_hasDigitAt_0 : decode cX10_hasDigitAt 0 = .ok (.aload_n 0, 1) := by decide +kernel
theorem dX10_hasDigitAt_1 : decode cX10_hasDigitAt 1 = .ok (.iload_n 1, 1) := by decide +kernel
theorem dX10_hasDigitAt_2 : decode cX10_hasDigitAt 2 = .ok (.invokevirtual 19, 3) := by decide +kernel
theorem dX10_hasDigitAt_5 : decode cX10_hasDigitAt 5 = .ok (.istore_n 2, 1) := by decide +kernel
theorem dX10_hasDigitAt_6 : decode cX10_hasDigitAt 6 = .ok (.iload_n 2, 1) := by decide +kernel
theorem dX10_hasDigitAt_7 : decode cX10_hasDigitAt 7 = .ok (.bipush 48, 2) := by decide +kernel
theorem dX10_hasDigitAt_9 : decode cX10_hasDigitAt 9 = .ok (.if_icmp .lt 13, 3) := by decide +kernel
theorem dX10_hasDigitAt_12 : decode cX10_hasDigitAt 12 = .ok (.iload_n 2, 1) := by decide +kernel
theorem dX10_hasDigitAt_13 : decode cX10_hasDigitAt 13 = .ok (.bipush 57, 2) := by decide +kernel
theorem dX10_hasDigitAt_15 : decode cX10_hasDigitAt 15 = .ok (.if_icmp .gt 7, 3) := by decide +kernel
theorem dX10_hasDigitAt_18 : decode cX10_hasDigitAt 18 = .ok (.iconst 1, 1) := by decide +kernel
theorem dX10_hasDigitAt_19 : decode cX10_hasDigitAt 19 = .ok (.goto 4, 3) := by decide +kernel
theorem dX10_hasDigitAt_22 : decode cX10_hasDigitAt 22 = .ok (.iconst 0, 1) := by decide +kernel
theorem dX10_hasDigitAt_23 : decode cX10_hasDigitAt 23 = .ok (.ireturn, 1) := by decide +kernel
theorem dX11_init_0 : decode cX11_init 0 = .ok (.aload_n 0, 1) := by decide +kernel
theorem dX11_init_1 : decode cX11_init 1 = .ok (.invokespecial 1, 3) := by decide +kernel
theorem dX11_init_4 : decode cX11_init 4 = .ok (.aload_n 0, 1) := by decide +kernel
theorem dX11_init_5 : decode cX11_init 5 = .ok (.new 7, 3) := by decide +kernel
theorem dX11_init_8 : decode cX11_init 8 = .ok (.dup, 1) := by decide +kernel
theorem dX11_init_9 : decode cX11_init 9 = .ok (.invokespecial 9, 3) := by decide +kernel
theorem dX11_init_12 : decode cX11_init 12 = .ok (.putfield 10, 3) := by decide +kernel
theorem dX11_init_15 : decode cX11_init 15 = .ok (.aload_n 0, 1) := by decide +kernel
theorem dX11_init_16 : decode cX11_init 16 = .ok (.new 7, 3) := by decide +kernel
theorem dX11_init_19 : decode cX11_init 19 = .ok (.dup, 1) := by decide +kernel
theorem dX11_init_20 : decode cX11_init 20 = .ok (.invokespecial 9, 3) := by decide +kernel
theorem dX11_init_23 : decode cX11_init 23 = .ok (.putfield 16, 3) := by decide +kernel
theorem dX11_init_26 : decode cX11_init 26 = .ok (.aload_n 0, 1) := by decide +kernel
theorem dX11_init_27 : decode cX11_init 27 = .ok (.new 19, 3) := by decide +kernel
theorem dX11_init_30 : decode cX11_init 30 = .ok (.dup, 1) := by decide +kernel
theorem dX11_init_31 : decode cX11_init 31 = .ok (.invokespecial 21, 3) := by decide +kernel
theorem dX11_init_34 : decode cX11_init 34 = .ok (.putfield 22, 3) := by decide +kernel
theorem dX11_init_37 : decode cX11_init 37 = .ok (.aload_n 0, 1) := by decide +kernel
theorem dX11_init_38 : decode cX11_init 38 = .ok (.new 26, 3) := by decide +kernel
theorem dX11_init_41 : decode cX11_init 41 = .ok (.dup, 1) := by decide +kernel
theorem dX11_init_42 : decode cX11_init 42 = .ok (.invokespecial 28, 3) := by decide +kernel
theorem dX11_init_45 : decode cX11_init 45 = .ok (.putfield 29, 3) := by decide +kernel
theorem dX11_init_48 : decode cX11_init 48 = .ok (.aload_n 0, 1) := by decide +kernel
theorem dX11_init_49 : decode cX11_init 49 = .ok (.new 33, 3) := by decide +kernel
theorem dX11_init_52 : decode cX11_init 52 = .ok (.dup, 1) := by decide +kernel
theorem dX11_init_53 : decode cX11_init 53 = .ok (.invokespecial 35, 3) := by decide +kernel
theorem dX11_init_56 : decode cX11_init 56 = .ok (.putfield 36, 3) := by decide +kernel
theorem dX11_init_59 : decode cX11_init 59 = .ok (.aload_n 0, 1) := by decide +kernel
theorem dX11_init_60 : decode cX11_init 60 = .ok (.new 40, 3) := by decide +kernel
theorem dX11_init_63 : decode cX11_init 63 = .ok (.dup, 1) := by decide +kernel
theorem dX11_init_64 : decode cX11_init 64 = .ok (.invokespecial 42, 3) := by decide +kernel
theorem dX11_init_67 : decode cX11_init 67 = .ok (.putfield 43, 3) := by decide +kernel
theorem dX11_init_70 : decode cX11_init 70 = .ok (.return_, 1) := by decide +kernel
theorem dX11_addShower_0 : decode cX11_addShower 0 = .ok (.iload_n 1, 1) := by decide +kernel
theorem dX11_addShower_1 : decode cX11_addShower 1 = .ok (.aload_n 0, 1) := by decide +kernel
theorem dX11_addShower_2 : decode cX11_addShower 2 = .ok (.getfield 10, 3) := by decide +kernel
theorem dX11_addShower_5 : decode cX11_addShower 5 = .ok (.getfield 47, 3) := by decide +kernel
theorem dX11_addShower_8 : decode cX11_addShower 8 = .ok (.sipush 5000, 3) := by decide +kernel
theorem dX11_addShower_11 : decode cX11_addShower 11 = .ok (.invokestatic 51, 3) := by decide +kernel
theorem dX11_addShower_14 : decode cX11_addShower 14 = .ok (.ifCond .eq 25, 3) := by decide +kernel
theorem dX11_addShower_17 : decode cX11_addShower 17 = .ok (.iload_n 2, 1) := by decide +kernel
theorem dX11_addShower_18 : decode cX11_addShower 18 = .ok (.iconst 1, 1) := by decide +kernel
theorem dX11_addShower_19 : decode cX11_addShower 19 = .ok (.sipush 500, 3) := by decide +kernel
theorem dX11_addShower_22 : decode cX11_addShower 22 = .ok (.invokestatic 51, 3) := by decide +kernel
theorem dX11_addShower_25 : decode cX11_addShower 25 = .ok (.ifCond .eq 14, 3) := by decide +kernel
theorem dX11_addShower_28 : decode cX11_addShower 28 = .ok (.iload_n 3, 1) := by decide +kernel
theorem dX11_addShower_29 : decode cX11_addShower 29 = .ok (.iconst 1, 1) := by decide +kernel
theorem dX11_addShower_30 : decode cX11_addShower 30 = .ok (.sipush 200, 3) := by decide +kernel
theorem dX11_addShower_33 : decode cX11_addShower 33 = .ok (.invokestatic 51, 3) := by decide +kernel
theorem dX11_addShower_36 : decode cX11_addShower 36 = .ok (.ifCond .ne 5, 3) := by decide +kernel
theorem dX11_addShower_39 : decode cX11_addShower 39 = .ok (.iconst (-1), 1) := by decide +kernel
theorem dX11_addShower_40 : decode cX11_addShower 40 = .ok (.ireturn, 1) := by decide +kernel
theorem dX11_addShower_41 : decode cX11_addShower 41 = .ok (.aload_n 0, 1) := by decide +kernel
theorem dX11_addShower_42 : decode cX11_addShower 42 = .ok (.getfield 10, 3) := by decide +kernel
theorem dX11_addShower_45 : decode cX11_addShower 45 = .ok (.getfield 55, 3) := by decide +kernel
theorem dX11_addShower_48 : decode cX11_addShower 48 = .ok (.getfield 59, 3) := by decide +kernel
theorem dX11_addShower_51 : decode cX11_addShower 51 = .ok (.bipush 12, 2) := by decide +kernel
theorem dX11_addShower_53 : decode cX11_addShower 53 = .ok (.if_icmp .lt 6, 3) := by decide +kernel
theorem dX11_addShower_56 : decode cX11_addShower 56 = .ok (.bipush (-3), 2) := by decide +kernel
theorem dX11_addShower_58 : decode cX11_addShower 58 = .ok (.ireturn, 1) := by decide +kernel
theorem dX11_addShower_59 : decode cX11_addShower 59 = .ok (.aload_n 0, 1) := by decide +kernel
theorem dX11_addShower_60 : decode cX11_addShower 60 = .ok (.getfield 22, 3) := by decide +kernel
theorem dX11_addShower_63 : decode cX11_addShower 63 = .ok (.aload_n 0, 1) := by decide +kernel
theorem dX11_addShower_64 : decode cX11_addShower 64 = .ok (.getfield 10, 3) := by decide +kernel
theorem dX11_addShower_67 : decode cX11_addShower 67 = .ok (.invokevirtual 64, 3) := by decide +kernel
theorem dX11_addShower_70 : decode cX11_addShower 70 = .ok (.aload_n 0, 1) := by decide +kernel
theorem dX11_addShower_71 : decode cX11_addShower 71 = .ok (.getfield 10, 3) := by decide +kernel
theorem dX11_addShower_74 : decode cX11_addShower 74 = .ok (.getfield 55, 3) := by decide +kernel
theorem dX11_addShower_77 : decode cX11_addShower 77 = .ok (.iload_n 1, 1) := by decide +kernel
theorem dX11_addShower_78 : decode cX11_addShower 78 = .ok (.iload_n 2, 1) := by decide +kernel
theorem dX11_addShower_79 : decode cX11_addShower 79 = .ok (.iload_n 3, 1) := by decide +kernel
theorem dX11_addShower_80 : decode cX11_addShower 80 = .ok (.invokevirtual 68, 3) := by decide +kernel
theorem dX11_addShower_83 : decode cX11_addShower 83 = .ok (.ireturn, 1) := by decide +kernel
theorem dX11_cancel_0 : decode cX11_cancel 0 = .ok (.aload_n 0, 1) := by decide +kernel
theorem dX11_cancel_1 : decode cX11_cancel 1 = .ok (.getfield 10, 3) := by decide +kernel
theorem dX11_cancel_4 : decode cX11_cancel 4 = .ok (.getfield 55, 3) := by decide +kernel
theorem dX11_cancel_7 : decode cX11_cancel 7 = .ok (.iload_n 1, 1) := by decide +kernel
theorem dX11_cancel_8 : decode cX11_cancel 8 = .ok (.invokevirtual 72, 3) := by decide +kernel
theorem dX11_cancel_11 : decode cX11_cancel 11 = .ok (.ifCond .ne 5, 3) := by decide +kernel
theorem dX11_cancel_14 : decode cX11_cancel 14 = .ok (.iconst (-1), 1) := by decide +kernel
theorem dX11_cancel_15 : decode cX11_cancel 15 = .ok (.ireturn, 1) := by decide +kernel
theorem dX11_cancel_16 : decode cX11_cancel 16 = .ok (.aload_n 0, 1) := by decide +kernel
theorem dX11_cancel_17 : decode cX11_cancel 17 = .ok (.getfield 10, 3) := by decide +kernel
theorem dX11_cancel_20 : decode cX11_cancel 20 = .ok (.getfield 55, 3) := by decide +kernel
theorem dX11_cancel_23 : decode cX11_cancel 23 = .ok (.getfield 76, 3) := by decide +kernel
theorem dX11_cancel_26 : decode cX11_cancel 26 = .ok (.iload_n 1, 1) := by decide +kernel
theorem dX11_cancel_27 : decode cX11_cancel 27 = .ok (.iaload, 1) := by decide +kernel
theorem dX11_cancel_28 : decode cX11_cancel 28 = .ok (.aload_n 0, 1) := by decide +kernel
theorem dX11_cancel_29 : decode cX11_cancel 29 = .ok (.getfield 10, 3) := by decide +kernel
theorem dX11_cancel_32 : decode cX11_cancel 32 = .ok (.getfield 47, 3) := by decide +kernel
theorem dX11_cancel_35 : decode cX11_cancel 35 = .ok (.if_icmp .ge 6, 3) := by decide +kernel
theorem dX11_cancel_38 : decode cX11_cancel 38 = .ok (.bipush (-2), 2) := by decide +kernel
theorem dX11_cancel_40 : decode cX11_cancel 40 = .ok (.ireturn, 1) := by decide +kernel
theorem dX11_cancel_41 : decode cX11_cancel 41 = .ok (.aload_n 0, 1) := by decide +kernel
theorem dX11_cancel_42 : decode cX11_cancel 42 = .ok (.getfield 22, 3) := by decide +kernel
theorem dX11_cancel_45 : decode cX11_cancel 45 = .ok (.aload_n 0, 1) := by decide +kernel
theorem dX11_cancel_46 : decode cX11_cancel 46 = .ok (.getfield 10, 3) := by decide +kernel
theorem dX11_cancel_49 : decode cX11_cancel 49 = .ok (.invokevirtual 64, 3) := by decide +kernel
theorem dX11_cancel_52 : decode cX11_cancel 52 = .ok (.aload_n 0, 1) := by decide +kernel
theorem dX11_cancel_53 : decode cX11_cancel 53 = .ok (.getfield 10, 3) := by decide +kernel
theorem dX11_cancel_56 : decode cX11_cancel 56 = .ok (.getfield 55, 3) := by decide +kernel
theorem dX11_cancel_59 : decode cX11_cancel 59 = .ok (.iload_n 1, 1) := by decide +kernel
theorem dX11_cancel_60 : decode cX11_cancel 60 = .ok (.invokevirtual 80, 3) := by decide +kernel
theorem dX11_cancel_63 : decode cX11_cancel 63 = .ok (.aload_n 0, 1) := by decide +kernel
theorem dX11_cancel_64 : decode cX11_cancel 64 = .ok (.getfield 10, 3) := by decide +kernel
theorem dX11_cancel_67 : decode cX11_cancel 67 = .ok (.getfield 55, 3) := by decide +kernel
theorem dX11_cancel_70 : decode cX11_cancel 70 = .ok (.getfield 59, 3) := by decide +kernel
theorem dX11_cancel_73 : decode cX11_cancel 73 = .ok (.ireturn, 1) := by decide +kernel
theorem dX11_shower_0 : decode cX11_shower 0 = .ok (.aload_n 0, 1) := by decide +kernel
theorem dX11_shower_1 : decode cX11_shower 1 = .ok (.getfield 10, 3) := by decide +kernel
theorem dX11_shower_4 : decode cX11_shower 4 = .ok (.getfield 55, 3) := by decide +kernel
theorem dX11_shower_7 : decode cX11_shower 7 = .ok (.iload_n 1, 1) := by decide +kernel
theorem dX11_shower_8 : decode cX11_shower 8 = .ok (.invokevirtual 72, 3) := by decide +kernel
theorem dX11_shower_11 : decode cX11_shower 11 = .ok (.ifCond .ne 5, 3) := by decide +kernel
theorem dX11_shower_14 : decode cX11_shower 14 = .ok (.iconst (-1), 1) := by decide +kernel
theorem dX11_shower_15 : decode cX11_shower 15 = .ok (.ireturn, 1) := by decide +kernel
theorem dX11_shower_16 : decode cX11_shower 16 = .ok (.iload_n 2, 1) := by decide +kernel
theorem dX11_shower_17 : decode cX11_shower 17 = .ok (.tableswitch 89 0 3 #[31, 44, 57, 70], 31) := by decide +kernel
theorem dX11_shower_48 : decode cX11_shower 48 = .ok (.aload_n 0, 1) := by decide +kernel
theorem dX11_shower_49 : decode cX11_shower 49 = .ok (.getfield 10, 3) := by decide +kernel
theorem dX11_shower_52 : decode cX11_shower 52 = .ok (.getfield 55, 3) := by decide +kernel
theorem dX11_shower_55 : decode cX11_shower 55 = .ok (.getfield 76, 3) := by decide +kernel
theorem dX11_shower_58 : decode cX11_shower 58 = .ok (.iload_n 1, 1) := by decide +kernel
theorem dX11_shower_59 : decode cX11_shower 59 = .ok (.iaload, 1) := by decide +kernel
theorem dX11_shower_60 : decode cX11_shower 60 = .ok (.ireturn, 1) := by decide +kernel
theorem dX11_shower_61 : decode cX11_shower 61 = .ok (.aload_n 0, 1) := by decide +kernel
theorem dX11_shower_62 : decode cX11_shower 62 = .ok (.getfield 10, 3) := by decide +kernel
theorem dX11_shower_65 : decode cX11_shower 65 = .ok (.getfield 55, 3) := by decide +kernel
theorem dX11_shower_68 : decode cX11_shower 68 = .ok (.getfield 84, 3) := by decide +kernel
theorem dX11_shower_71 : decode cX11_shower 71 = .ok (.iload_n 1, 1) := by decide +kernel
theorem dX11_shower_72 : decode cX11_shower 72 = .ok (.iaload, 1) := by decide +kernel
theorem dX11_shower_73 : decode cX11_shower 73 = .ok (.ireturn, 1) := by decide +kernel
theorem dX11_shower_74 : decode cX11_shower 74 = .ok (.aload_n 0, 1) := by decide +kernel
theorem dX11_shower_75 : decode cX11_shower 75 = .ok (.getfield 10, 3) := by decide +kernel
theorem dX11_shower_78 : decode cX11_shower 78 = .ok (.getfield 55, 3) := by decide +kernel
theorem dX11_shower_81 : decode cX11_shower 81 = .ok (.getfield 87, 3) := by decide +kernel
theorem dX11_shower_84 : decode cX11_shower 84 = .ok (.iload_n 1, 1) := by decide +kernel
theorem dX11_shower_85 : decode cX11_shower 85 = .ok (.iaload, 1) := by decide +kernel
theorem dX11_shower_86 : decode cX11_shower 86 = .ok (.ireturn, 1) := by decide +kernel
theorem dX11_shower_87 : decode cX11_shower 87 = .ok (.aload_n 0, 1) := by decide +kernel
theorem dX11_shower_88 : decode cX11_shower 88 = .ok (.getfield 10, 3) := by decide +kernel
theorem dX11_shower_91 : decode cX11_shower 91 = .ok (.getfield 55, 3) := by decide +kernel
theorem dX11_shower_94 : decode cX11_shower 94 = .ok (.iload_n 1, 1) := by decide +kernel
theorem dX11_shower_95 : decode cX11_shower 95 = .ok (.aload_n 0, 1) := by decide +kernel
theorem dX11_shower_96 : decode cX11_shower 96 = .ok (.getfield 10, 3) := by decide +kernel
theorem dX11_shower_99 : decode cX11_shower 99 = .ok (.getfield 47, 3) := by decide +kernel
theorem dX11_shower_102 : decode cX11_shower 102 = .ok (.invokevirtual 90, 3) := by decide +kernel
theorem dX11_shower_105 : decode cX11_shower 105 = .ok (.ireturn, 1) := by decide +kernel
theorem dX11_shower_106 : decode cX11_shower 106 = .ok (.iconst (-1), 1) := by decide +kernel
theorem dX11_shower_107 : decode cX11_shower 107 = .ok (.ireturn, 1) := by decide +kernel
theorem dX11_run_0 : decode cX11_run 0 = .ok (.aload_n 0, 1) := by decide +kernel
theorem dX11_run_1 : decode cX11_run 1 = .ok (.iload_n 1, 1) := by decide +kernel
theorem dX11_run_2 : decode cX11_run 2 = .ok (.invokevirtual 94, 3) := by decide +kernel
theorem dX11_run_5 : decode cX11_run 5 = .ok (.istore_n 2, 1) := by decide +kernel
theorem dX11_run_6 : decode cX11_run 6 = .ok (.iload_n 2, 1) := by decide +kernel
theorem dX11_run_7 : decode cX11_run 7 = .ok (.ifCond .eq 5, 3) := by decide +kernel
theorem dX11_run_10 : decode cX11_run 10 = .ok (.iload_n 2, 1) := by decide +kernel
theorem dX11_run_11 : decode cX11_run 11 = .ok (.ireturn, 1) := by decide +kernel
theorem dX11_run_12 : decode cX11_run 12 = .ok (.aload_n 0, 1) := by decide +kernel
theorem dX11_run_13 : decode cX11_run 13 = .ok (.getfield 22, 3) := by decide +kernel
theorem dX11_run_16 : decode cX11_run 16 = .ok (.aload_n 0, 1) := by decide +kernel
theorem dX11_run_17 : decode cX11_run 17 = .ok (.getfield 10, 3) := by decide +kernel
theorem dX11_run_20 : decode cX11_run 20 = .ok (.invokevirtual 64, 3) := by decide +kernel
theorem dX11_run_23 : decode cX11_run 23 = .ok (.aload_n 0, 1) := by decide +kernel
theorem dX11_run_24 : decode cX11_run 24 = .ok (.getfield 10, 3) := by decide +kernel
theorem dX11_run_27 : decode cX11_run 27 = .ok (.iload_n 1, 1) := by decide +kernel
theorem dX11_run_28 : decode cX11_run 28 = .ok (.invokevirtual 98, 3) := by decide +kernel
theorem dX11_run_31 : decode cX11_run 31 = .ok (.ireturn, 1) := by decide +kernel
theorem dX11_undo_0 : decode cX11_undo 0 = .ok (.aload_n 0, 1) := by decide +kernel
theorem dX11_undo_1 : decode cX11_undo 1 = .ok (.getfield 22, 3) := by decide +kernel
theorem dX11_undo_4 : decode cX11_undo 4 = .ok (.getfield 101, 3) := by decide +kernel
theorem dX11_undo_7 : decode cX11_undo 7 = .ok (.ifCond .ne 6, 3) := by decide +kernel
theorem dX11_undo_10 : decode cX11_undo 10 = .ok (.bipush (-2), 2) := by decide +kernel
theorem dX11_undo_12 : decode cX11_undo 12 = .ok (.ireturn, 1) := by decide +kernel
theorem dX11_undo_13 : decode cX11_undo 13 = .ok (.aload_n 0, 1) := by decide +kernel
theorem dX11_undo_14 : decode cX11_undo 14 = .ok (.getfield 22, 3) := by decide +kernel
theorem dX11_undo_17 : decode cX11_undo 17 = .ok (.aload_n 0, 1) := by decide +kernel
theorem dX11_undo_18 : decode cX11_undo 18 = .ok (.getfield 10, 3) := by decide +kernel
theorem dX11_undo_21 : decode cX11_undo 21 = .ok (.invokevirtual 102, 3) := by decide +kernel
theorem dX11_undo_24 : decode cX11_undo 24 = .ok (.aload_n 0, 1) := by decide +kernel
theorem dX11_undo_25 : decode cX11_undo 25 = .ok (.getfield 22, 3) := by decide +kernel
theorem dX11_undo_28 : decode cX11_undo 28 = .ok (.getfield 101, 3) := by decide +kernel
theorem dX11_undo_31 : decode cX11_undo 31 = .ok (.ireturn, 1) := by decide +kernel
theorem dX11_set_0 : decode cX11_set 0 = .ok (.iload_n 1, 1) := by decide +kernel
theorem dX11_set_1 : decode cX11_set 1 = .ok (.iconst 0, 1) := by decide +kernel
theorem dX11_set_2 : decode cX11_set 2 = .ok (.bipush 7, 2) := by decide +kernel
theorem dX11_set_4 : decode cX11_set 4 = .ok (.invokestatic 51, 3) := by decide +kernel
theorem dX11_set_7 : decode cX11_set 7 = .ok (.ifCond .eq 20, 3) := by decide +kernel
theorem dX11_set_10 : decode cX11_set 10 = .ok (.iload_n 2, 1) := by decide +kernel
theorem dX11_set_11 : decode cX11_set 11 = .ok (.getstatic 105, 3) := by decide +kernel
theorem dX11_set_14 : decode cX11_set 14 = .ok (.iload_n 1, 1) := by decide +kernel
theorem dX11_set_15 : decode cX11_set 15 = .ok (.iaload, 1) := by decide +kernel
theorem dX11_set_16 : decode cX11_set 16 = .ok (.getstatic 108, 3) := by decide +kernel
theorem dX11_set_19 : decode cX11_set 19 = .ok (.iload_n 1, 1) := by decide +kernel
theorem dX11_set_20 : decode cX11_set 20 = .ok (.iaload, 1) := by decide +kernel
theorem dX11_set_21 : decode cX11_set 21 = .ok (.invokestatic 51, 3) := by decide +kernel
theorem dX11_set_24 : decode cX11_set 24 = .ok (.ifCond .ne 5, 3) := by decide +kernel
theorem dX11_set_27 : decode cX11_set 27 = .ok (.iconst (-1), 1) := by decide +kernel
theorem dX11_set_28 : decode cX11_set 28 = .ok (.ireturn, 1) := by decide +kernel
theorem dX11_set_29 : decode cX11_set 29 = .ok (.aload_n 0, 1) := by decide +kernel
theorem dX11_set_30 : decode cX11_set 30 = .ok (.getfield 22, 3) := by decide +kernel
theorem dX11_set_33 : decode cX11_set 33 = .ok (.aload_n 0, 1) := by decide +kernel
theorem dX11_set_34 : decode cX11_set 34 = .ok (.getfield 10, 3) := by decide +kernel
theorem dX11_set_37 : decode cX11_set 37 = .ok (.invokevirtual 64, 3) := by decide +kernel
theorem dX11_set_40 : decode cX11_set 40 = .ok (.aload_n 0, 1) := by decide +kernel
theorem dX11_set_41 : decode cX11_set 41 = .ok (.getfield 10, 3) := by decide +kernel
theorem dX11_set_44 : decode cX11_set 44 = .ok (.getfield 111, 3) := by decide +kernel
theorem dX11_set_47 : decode cX11_set 47 = .ok (.iload_n 1, 1) := by decide +kernel
theorem dX11_set_48 : decode cX11_set 48 = .ok (.iaload, 1) := by decide +kernel
theorem dX11_set_49 : decode cX11_set 49 = .ok (.istore_n 3, 1) := by decide +kernel
theorem dX11_set_50 : decode cX11_set 50 = .ok (.aload_n 0, 1) := by decide +kernel
theorem dX11_set_51 : decode cX11_set 51 = .ok (.getfield 10, 3) := by decide +kernel
theorem dX11_set_54 : decode cX11_set 54 = .ok (.getfield 111, 3) := by decide +kernel
theorem dX11_set_57 : decode cX11_set 57 = .ok (.iload_n 1, 1) := by decide +kernel
theorem dX11_set_58 : decode cX11_set 58 = .ok (.iload_n 2, 1) := by decide +kernel
theorem dX11_set_59 : decode cX11_set 59 = .ok (.iastore, 1) := by decide +kernel
theorem dX11_set_60 : decode cX11_set 60 = .ok (.iload_n 3, 1) := by decide +kernel
theorem dX11_set_61 : decode cX11_set 61 = .ok (.ireturn, 1) := by decide +kernel
theorem dX11_wind_0 : decode cX11_wind 0 = .ok (.aload_n 0, 1) := by decide +kernel
theorem dX11_wind_1 : decode cX11_wind 1 = .ok (.getfield 22, 3) := by decide +kernel
theorem dX11_wind_4 : decode cX11_wind 4 = .ok (.aload_n 0, 1) := by decide +kernel
theorem dX11_wind_5 : decode cX11_wind 5 = .ok (.getfield 10, 3) := by decide +kernel
theorem dX11_wind_8 : decode cX11_wind 8 = .ok (.invokevirtual 64, 3) := by decide +kernel
theorem dX11_wind_11 : decode cX11_wind 11 = .ok (.aload_n 0, 1) := by decide +kernel
theorem dX11_wind_12 : decode cX11_wind 12 = .ok (.getfield 10, 3) := by decide +kernel
theorem dX11_wind_15 : decode cX11_wind 15 = .ok (.getfield 114, 3) := by decide +kernel
theorem dX11_wind_18 : decode cX11_wind 18 = .ok (.getfield 118, 3) := by decide +kernel
theorem dX11_wind_21 : decode cX11_wind 21 = .ok (.istore_n 1, 1) := by decide +kernel
theorem dX11_wind_22 : decode cX11_wind 22 = .ok (.aload_n 0, 1) := by decide +kernel
theorem dX11_wind_23 : decode cX11_wind 23 = .ok (.getfield 10, 3) := by decide +kernel
theorem dX11_wind_26 : decode cX11_wind 26 = .ok (.getfield 114, 3) := by decide +kernel
theorem dX11_wind_29 : decode cX11_wind 29 = .ok (.aload_n 0, 1) := by decide +kernel
theorem dX11_wind_30 : decode cX11_wind 30 = .ok (.getfield 10, 3) := by decide +kernel
theorem dX11_wind_33 : decode cX11_wind 33 = .ok (.getfield 111, 3) := by decide +kernel
theorem dX11_wind_36 : decode cX11_wind 36 = .ok (.bipush 6, 2) := by decide +kernel
theorem dX11_wind_38 : decode cX11_wind 38 = .ok (.iaload, 1) := by decide +kernel
theorem dX11_wind_39 : decode cX11_wind 39 = .ok (.putfield 118, 3) := by decide +kernel
theorem dX11_wind_42 : decode cX11_wind 42 = .ok (.iload_n 1, 1) := by decide +kernel
theorem dX11_wind_43 : decode cX11_wind 43 = .ok (.ireturn, 1) := by decide +kernel
theorem dX11_addGears_0 : decode cX11_addGears 0 = .ok (.iload_n 1, 1) := by decide +kernel
theorem dX11_addGears_1 : decode cX11_addGears 1 = .ok (.bipush 8, 2) := by decide +kernel
theorem dX11_addGears_3 : decode cX11_addGears 3 = .ok (.bipush 120, 2) := by decide +kernel
theorem dX11_addGears_5 : decode cX11_addGears 5 = .ok (.invokestatic 51, 3) := by decide +kernel
theorem dX11_addGears_8 : decode cX11_addGears 8 = .ok (.ifCond .eq 14, 3) := by decide +kernel
theorem dX11_addGears_11 : decode cX11_addGears 11 = .ok (.iload_n 2, 1) := by decide +kernel
theorem dX11_addGears_12 : decode cX11_addGears 12 = .ok (.bipush 8, 2) := by decide +kernel
theorem dX11_addGears_14 : decode cX11_addGears 14 = .ok (.bipush 120, 2) := by decide +kernel
theorem dX11_addGears_16 : decode cX11_addGears 16 = .ok (.invokestatic 51, 3) := by decide +kernel
theorem dX11_addGears_19 : decode cX11_addGears 19 = .ok (.ifCond .ne 5, 3) := by decide +kernel
theorem dX11_addGears_22 : decode cX11_addGears 22 = .ok (.iconst (-1), 1) := by decide +kernel
theorem dX11_addGears_23 : decode cX11_addGears 23 = .ok (.ireturn, 1) := by decide +kernel
theorem dX11_addGears_24 : decode cX11_addGears 24 = .ok (.aload_n 0, 1) := by decide +kernel
theorem dX11_addGears_25 : decode cX11_addGears 25 = .ok (.getfield 10, 3) := by decide +kernel
theorem dX11_addGears_28 : decode cX11_addGears 28 = .ok (.getfield 123, 3) := by decide +kernel
theorem dX11_addGears_31 : decode cX11_addGears 31 = .ok (.getfield 127, 3) := by decide +kernel
theorem dX11_addGears_34 : decode cX11_addGears 34 = .ok (.iconst 3, 1) := by decide +kernel
theorem dX11_addGears_35 : decode cX11_addGears 35 = .ok (.if_icmp .lt 6, 3) := by decide +kernel
theorem dX11_addGears_38 : decode cX11_addGears 38 = .ok (.bipush (-3), 2) := by decide +kernel
theorem dX11_addGears_40 : decode cX11_addGears 40 = .ok (.ireturn, 1) := by decide +kernel
theorem dX11_addGears_41 : decode cX11_addGears 41 = .ok (.aload_n 0, 1) := by decide +kernel
theorem dX11_addGears_42 : decode cX11_addGears 42 = .ok (.getfield 22, 3) := by decide +kernel
theorem dX11_addGears_45 : decode cX11_addGears 45 = .ok (.aload_n 0, 1) := by decide +kernel
theorem dX11_addGears_46 : decode cX11_addGears 46 = .ok (.getfield 10, 3) := by decide +kernel
theorem dX11_addGears_49 : decode cX11_addGears 49 = .ok (.invokevirtual 64, 3) := by decide +kernel
theorem dX11_addGears_52 : decode cX11_addGears 52 = .ok (.aload_n 0, 1) := by decide +kernel
theorem dX11_addGears_53 : decode cX11_addGears 53 = .ok (.getfield 10, 3) := by decide +kernel
theorem dX11_addGears_56 : decode cX11_addGears 56 = .ok (.getfield 123, 3) := by decide +kernel
theorem dX11_addGears_59 : decode cX11_addGears 59 = .ok (.iload_n 1, 1) := by decide +kernel
theorem dX11_addGears_60 : decode cX11_addGears 60 = .ok (.iload_n 2, 1) := by decide +kernel
theorem dX11_addGears_61 : decode cX11_addGears 61 = .ok (.invokevirtual 130, 3) := by decide +kernel
theorem dX11_addGears_64 : decode cX11_addGears 64 = .ok (.aload_n 0, 1) := by decide +kernel
theorem dX11_addGears_65 : decode cX11_addGears 65 = .ok (.getfield 10, 3) := by decide +kernel
theorem dX11_addGears_68 : decode cX11_addGears 68 = .ok (.getfield 123, 3) := by decide +kernel
theorem dX11_addGears_71 : decode cX11_addGears 71 = .ok (.getfield 127, 3) := by decide +kernel
theorem dX11_addGears_74 : decode cX11_addGears 74 = .ok (.ireturn, 1) := by decide +kernel
theorem dX11_removeGears_0 : decode cX11_removeGears 0 = .ok (.aload_n 0, 1) := by decide +kernel
theorem dX11_removeGears_1 : decode cX11_removeGears 1 = .ok (.getfield 10, 3) := by decide +kernel
theorem dX11_removeGears_4 : decode cX11_removeGears 4 = .ok (.getfield 123, 3) := by decide +kernel
theorem dX11_removeGears_7 : decode cX11_removeGears 7 = .ok (.iload_n 1, 1) := by decide +kernel
theorem dX11_removeGears_8 : decode cX11_removeGears 8 = .ok (.invokevirtual 134, 3) := by decide +kernel
theorem dX11_removeGears_11 : decode cX11_removeGears 11 = .ok (.ifCond .ne 5, 3) := by decide +kernel
theorem dX11_removeGears_14 : decode cX11_removeGears 14 = .ok (.iconst (-1), 1) := by decide +kernel
theorem dX11_removeGears_15 : decode cX11_removeGears 15 = .ok (.ireturn, 1) := by decide +kernel
theorem dX11_removeGears_16 : decode cX11_removeGears 16 = .ok (.aload_n 0, 1) := by decide +kernel
theorem dX11_removeGears_17 : decode cX11_removeGears 17 = .ok (.getfield 22, 3) := by decide +kernel
theorem dX11_removeGears_20 : decode cX11_removeGears 20 = .ok (.aload_n 0, 1) := by decide +kernel
theorem dX11_removeGears_21 : decode cX11_removeGears 21 = .ok (.getfield 10, 3) := by decide +kernel
theorem dX11_removeGears_24 : decode cX11_removeGears 24 = .ok (.invokevirtual 64, 3) := by decide +kernel
theorem dX11_removeGears_27 : decode cX11_removeGears 27 = .ok (.aload_n 0, 1) := by decide +kernel
theorem dX11_removeGears_28 : decode cX11_removeGears 28 = .ok (.getfield 10, 3) := by decide +kernel
theorem dX11_removeGears_31 : decode cX11_removeGears 31 = .ok (.getfield 123, 3) := by decide +kernel
theorem dX11_removeGears_34 : decode cX11_removeGears 34 = .ok (.iload_n 1, 1) := by decide +kernel
theorem dX11_removeGears_35 : decode cX11_removeGears 35 = .ok (.invokevirtual 135, 3) := by decide +kernel
theorem dX11_removeGears_38 : decode cX11_removeGears 38 = .ok (.aload_n 0, 1) := by decide +kernel
theorem dX11_removeGears_39 : decode cX11_removeGears 39 = .ok (.getfield 10, 3) := by decide +kernel
theorem dX11_removeGears_42 : decode cX11_removeGears 42 = .ok (.getfield 123, 3) := by decide +kernel
theorem dX11_removeGears_45 : decode cX11_removeGears 45 = .ok (.getfield 127, 3) := by decide +kernel
theorem dX11_removeGears_48 : decode cX11_removeGears 48 = .ok (.ireturn, 1) := by decide +kernel
theorem dX11_gear_0 : decode cX11_gear 0 = .ok (.aload_n 0, 1) := by decide +kernel
theorem dX11_gear_1 : decode cX11_gear 1 = .ok (.getfield 10, 3) := by decide +kernel
theorem dX11_gear_4 : decode cX11_gear 4 = .ok (.getfield 123, 3) := by decide +kernel
theorem dX11_gear_7 : decode cX11_gear 7 = .ok (.iload_n 1, 1) := by decide +kernel
theorem dX11_gear_8 : decode cX11_gear 8 = .ok (.invokevirtual 134, 3) := by decide +kernel
theorem dX11_gear_11 : decode cX11_gear 11 = .ok (.ifCond .eq 12, 3) := by decide +kernel
theorem dX11_gear_14 : decode cX11_gear 14 = .ok (.iload_n 2, 1) := by decide +kernel
theorem dX11_gear_15 : decode cX11_gear 15 = .ok (.iconst 0, 1) := by decide +kernel
theorem dX11_gear_16 : decode cX11_gear 16 = .ok (.iconst 1, 1) := by decide +kernel
theorem dX11_gear_17 : decode cX11_gear 17 = .ok (.invokestatic 51, 3) := by decide +kernel
theorem dX11_gear_20 : decode cX11_gear 20 = .ok (.ifCond .ne 5, 3) := by decide +kernel
theorem dX11_gear_23 : decode cX11_gear 23 = .ok (.iconst (-1), 1) := by decide +kernel
theorem dX11_gear_24 : decode cX11_gear 24 = .ok (.ireturn, 1) := by decide +kernel
theorem dX11_gear_25 : decode cX11_gear 25 = .ok (.iload_n 2, 1) := by decide +kernel
theorem dX11_gear_26 : decode cX11_gear 26 = .ok (.ifCond .ne 18, 3) := by decide +kernel
theorem dX11_gear_29 : decode cX11_gear 29 = .ok (.aload_n 0, 1) := by decide +kernel
theorem dX11_gear_30 : decode cX11_gear 30 = .ok (.getfield 10, 3) := by decide +kernel
theorem dX11_gear_33 : decode cX11_gear 33 = .ok (.getfield 123, 3) := by decide +kernel
theorem dX11_gear_36 : decode cX11_gear 36 = .ok (.getfield 136, 3) := by decide +kernel
theorem dX11_gear_39 : decode cX11_gear 39 = .ok (.iload_n 1, 1) := by decide +kernel
theorem dX11_gear_40 : decode cX11_gear 40 = .ok (.iaload, 1) := by decide +kernel
theorem dX11_gear_41 : decode cX11_gear 41 = .ok (.goto 15, 3) := by decide +kernel
theorem dX11_gear_44 : decode cX11_gear 44 = .ok (.aload_n 0, 1) := by decide +kernel
theorem dX11_gear_45 : decode cX11_gear 45 = .ok (.getfield 10, 3) := by decide +kernel
theorem dX11_gear_48 : decode cX11_gear 48 = .ok (.getfield 123, 3) := by decide +kernel
theorem dX11_gear_51 : decode cX11_gear 51 = .ok (.getfield 139, 3) := by decide +kernel
theorem dX11_gear_54 : decode cX11_gear 54 = .ok (.iload_n 1, 1) := by decide +kernel
theorem dX11_gear_55 : decode cX11_gear 55 = .ok (.iaload, 1) := by decide +kernel
theorem dX11_gear_56 : decode cX11_gear 56 = .ok (.ireturn, 1) := by decide +kernel
theorem dX11_count_0 : decode cX11_count 0 = .ok (.iload_n 1, 1) := by decide +kernel
theorem dX11_count_1 : decode cX11_count 1 = .ok (.bipush 20, 2) := by decide +kernel
theorem dX11_count_3 : decode cX11_count 3 = .ok (.bipush 27, 2) := by decide +kernel
theorem dX11_count_5 : decode cX11_count 5 = .ok (.invokestatic 51, 3) := by decide +kernel
theorem dX11_count_8 : decode cX11_count 8 = .ok (.ifCond .eq 16, 3) := by decide +kernel
theorem dX11_count_11 : decode cX11_count 11 = .ok (.aload_n 0, 1) := by decide +kernel
theorem dX11_count_12 : decode cX11_count 12 = .ok (.getfield 10, 3) := by decide +kernel
theorem dX11_count_15 : decode cX11_count 15 = .ok (.getfield 111, 3) := by decide +kernel
theorem dX11_count_18 : decode cX11_count 18 = .ok (.iload_n 1, 1) := by decide +kernel
theorem dX11_count_19 : decode cX11_count 19 = .ok (.bipush 20, 2) := by decide +kernel
theorem dX11_count_21 : decode cX11_count 21 = .ok (.isub, 1) := by decide +kernel
theorem dX11_count_22 : decode cX11_count 22 = .ok (.iaload, 1) := by decide +kernel
theorem dX11_count_23 : decode cX11_count 23 = .ok (.ireturn, 1) := by decide +kernel
theorem dX11_count_24 : decode cX11_count 24 = .ok (.iload_n 1, 1) := by decide +kernel
theorem dX11_count_25 : decode cX11_count 25 = .ok (.tableswitch 230 0 13 #[71, 79, 90, 101, 122, 133, 144, 155, 166, 177, 185, 196, 204, 212], 71) := by decide +kernel
theorem dX11_count_96 : decode cX11_count 96 = .ok (.aload_n 0, 1) := by decide +kernel
theorem dX11_count_97 : decode cX11_count 97 = .ok (.getfield 10, 3) := by decide +kernel
theorem dX11_count_100 : decode cX11_count 100 = .ok (.getfield 47, 3) := by decide +kernel
theorem dX11_count_103 : decode cX11_count 103 = .ok (.ireturn, 1) := by decide +kernel
theorem dX11_count_104 : decode cX11_count 104 = .ok (.aload_n 0, 1) := by decide +kernel
theorem dX11_count_105 : decode cX11_count 105 = .ok (.getfield 10, 3) := by decide +kernel
theorem dX11_count_108 : decode cX11_count 108 = .ok (.getfield 55, 3) := by decide +kernel
theorem dX11_count_111 : decode cX11_count 111 = .ok (.getfield 59, 3) := by decide +kernel
theorem dX11_count_114 : decode cX11_count 114 = .ok (.ireturn, 1) := by decide +kernel
theorem dX11_count_115 : decode cX11_count 115 = .ok (.aload_n 0, 1) := by decide +kernel
theorem dX11_count_116 : decode cX11_count 116 = .ok (.getfield 10, 3) := by decide +kernel
theorem dX11_count_119 : decode cX11_count 119 = .ok (.getfield 142, 3) := by decide +kernel
theorem dX11_count_122 : decode cX11_count 122 = .ok (.getfield 146, 3) := by decide +kernel
theorem dX11_count_125 : decode cX11_count 125 = .ok (.ireturn, 1) := by decide +kernel
theorem dX11_count_126 : decode cX11_count 126 = .ok (.aload_n 0, 1) := by decide +kernel
theorem dX11_count_127 : decode cX11_count 127 = .ok (.getfield 10, 3) := by decide +kernel
theorem dX11_count_130 : decode cX11_count 130 = .ok (.getfield 142, 3) := by decide +kernel
theorem dX11_count_133 : decode cX11_count 133 = .ok (.aload_n 0, 1) := by decide +kernel
theorem dX11_count_134 : decode cX11_count 134 = .ok (.getfield 10, 3) := by decide +kernel
theorem dX11_count_137 : decode cX11_count 137 = .ok (.getfield 111, 3) := by decide +kernel
theorem dX11_count_140 : decode cX11_count 140 = .ok (.bipush 7, 2) := by decide +kernel
theorem dX11_count_142 : decode cX11_count 142 = .ok (.iaload, 1) := by decide +kernel
theorem dX11_count_143 : decode cX11_count 143 = .ok (.invokevirtual 149, 3) := by decide +kernel
theorem dX11_count_146 : decode cX11_count 146 = .ok (.ireturn, 1) := by decide +kernel
theorem dX11_count_147 : decode cX11_count 147 = .ok (.aload_n 0, 1) := by decide +kernel
theorem dX11_count_148 : decode cX11_count 148 = .ok (.getfield 10, 3) := by decide +kernel
theorem dX11_count_151 : decode cX11_count 151 = .ok (.getfield 152, 3) := by decide +kernel
theorem dX11_count_154 : decode cX11_count 154 = .ok (.getfield 156, 3) := by decide +kernel
theorem dX11_count_157 : decode cX11_count 157 = .ok (.ireturn, 1) := by decide +kernel
theorem dX11_count_158 : decode cX11_count 158 = .ok (.aload_n 0, 1) := by decide +kernel
theorem dX11_count_159 : decode cX11_count 159 = .ok (.getfield 10, 3) := by decide +kernel
theorem dX11_count_162 : decode cX11_count 162 = .ok (.getfield 161, 3) := by decide +kernel
theorem dX11_count_165 : decode cX11_count 165 = .ok (.getfield 165, 3) := by decide +kernel
theorem dX11_count_168 : decode cX11_count 168 = .ok (.ireturn, 1) := by decide +kernel
theorem dX11_count_169 : decode cX11_count 169 = .ok (.aload_n 0, 1) := by decide +kernel
theorem dX11_count_170 : decode cX11_count 170 = .ok (.getfield 10, 3) := by decide +kernel
theorem dX11_count_173 : decode cX11_count 173 = .ok (.getfield 161, 3) := by decide +kernel
theorem dX11_count_176 : decode cX11_count 176 = .ok (.getfield 168, 3) := by decide +kernel
theorem dX11_count_179 : decode cX11_count 179 = .ok (.ireturn, 1) := by decide +kernel
theorem dX11_count_180 : decode cX11_count 180 = .ok (.aload_n 0, 1) := by decide +kernel
theorem dX11_count_181 : decode cX11_count 181 = .ok (.getfield 10, 3) := by decide +kernel
theorem dX11_count_184 : decode cX11_count 184 = .ok (.getfield 114, 3) := by decide +kernel
theorem dX11_count_187 : decode cX11_count 187 = .ok (.getfield 118, 3) := by decide +kernel
theorem dX11_count_190 : decode cX11_count 190 = .ok (.ireturn, 1) := by decide +kernel
theorem dX11_count_191 : decode cX11_count 191 = .ok (.aload_n 0, 1) := by decide +kernel
theorem dX11_count_192 : decode cX11_count 192 = .ok (.getfield 10, 3) := by decide +kernel
theorem dX11_count_195 : decode cX11_count 195 = .ok (.getfield 114, 3) := by decide +kernel
theorem dX11_count_198 : decode cX11_count 198 = .ok (.getfield 171, 3) := by decide +kernel
theorem dX11_count_201 : decode cX11_count 201 = .ok (.ireturn, 1) := by decide +kernel
theorem dX11_count_202 : decode cX11_count 202 = .ok (.aload_n 0, 1) := by decide +kernel
theorem dX11_count_203 : decode cX11_count 203 = .ok (.getfield 10, 3) := by decide +kernel
theorem dX11_count_206 : decode cX11_count 206 = .ok (.invokevirtual 174, 3) := by decide +kernel
theorem dX11_count_209 : decode cX11_count 209 = .ok (.ireturn, 1) := by decide +kernel
theorem dX11_count_210 : decode cX11_count 210 = .ok (.aload_n 0, 1) := by decide +kernel
theorem dX11_count_211 : decode cX11_count 211 = .ok (.getfield 10, 3) := by decide +kernel
theorem dX11_count_214 : decode cX11_count 214 = .ok (.getfield 123, 3) := by decide +kernel
theorem dX11_count_217 : decode cX11_count 217 = .ok (.getfield 127, 3) := by decide +kernel
theorem dX11_count_220 : decode cX11_count 220 = .ok (.ireturn, 1) := by decide +kernel
theorem dX11_count_221 : decode cX11_count 221 = .ok (.aload_n 0, 1) := by decide +kernel
theorem dX11_count_222 : decode cX11_count 222 = .ok (.getfield 22, 3) := by decide +kernel
theorem dX11_count_225 : decode cX11_count 225 = .ok (.getfield 101, 3) := by decide +kernel
theorem dX11_count_228 : decode cX11_count 228 = .ok (.ireturn, 1) := by decide +kernel
theorem dX11_count_229 : decode cX11_count 229 = .ok (.aload_n 0, 1) := by decide +kernel
theorem dX11_count_230 : decode cX11_count 230 = .ok (.getfield 36, 3) := by decide +kernel
theorem dX11_count_233 : decode cX11_count 233 = .ok (.getfield 178, 3) := by decide +kernel
theorem dX11_count_236 : decode cX11_count 236 = .ok (.ireturn, 1) := by decide +kernel
theorem dX11_count_237 : decode cX11_count 237 = .ok (.aload_n 0, 1) := by decide +kernel
theorem dX11_count_238 : decode cX11_count 238 = .ok (.getfield 10, 3) := by decide +kernel
theorem dX11_count_241 : decode cX11_count 241 = .ok (.getfield 55, 3) := by decide +kernel
theorem dX11_count_244 : decode cX11_count 244 = .ok (.aload_n 0, 1) := by decide +kernel
theorem dX11_count_245 : decode cX11_count 245 = .ok (.getfield 10, 3) := by decide +kernel
theorem dX11_count_248 : decode cX11_count 248 = .ok (.getfield 47, 3) := by decide +kernel
theorem dX11_count_251 : decode cX11_count 251 = .ok (.invokevirtual 181, 3) := by decide +kernel
theorem dX11_count_254 : decode cX11_count 254 = .ok (.ireturn, 1) := by decide +kernel
theorem dX11_count_255 : decode cX11_count 255 = .ok (.iconst (-1), 1) := by decide +kernel
theorem dX11_count_256 : decode cX11_count 256 = .ok (.ireturn, 1) := by decide +kernel
theorem dX11_account_0 : decode cX11_account 0 = .ok (.iload_n 1, 1) := by decide +kernel
theorem dX11_account_1 : decode cX11_account 1 = .ok (.iconst 0, 1) := by decide +kernel
theorem dX11_account_2 : decode cX11_account 2 = .ok (.iconst 4, 1) := by decide +kernel
theorem dX11_account_3 : decode cX11_account 3 = .ok (.invokestatic 51, 3) := by decide +kernel
theorem dX11_account_6 : decode cX11_account 6 = .ok (.ifCond .eq 14, 3) := by decide +kernel
theorem dX11_account_9 : decode cX11_account 9 = .ok (.aload_n 0, 1) := by decide +kernel
theorem dX11_account_10 : decode cX11_account 10 = .ok (.getfield 10, 3) := by decide +kernel
theorem dX11_account_13 : decode cX11_account 13 = .ok (.iload_n 1, 1) := by decide +kernel
theorem dX11_account_14 : decode cX11_account 14 = .ok (.invokevirtual 184, 3) := by decide +kernel
theorem dX11_account_17 : decode cX11_account 17 = .ok (.goto 4, 3) := by decide +kernel
theorem dX11_account_20 : decode cX11_account 20 = .ok (.iconst (-1), 1) := by decide +kernel
theorem dX11_account_21 : decode cX11_account 21 = .ok (.ireturn, 1) := by decide +kernel
theorem dX11_mark_0 : decode cX11_mark 0 = .ok (.aload_n 0, 1) := by decide +kernel
theorem dX11_mark_1 : decode cX11_mark 1 = .ok (.getfield 10, 3) := by decide +kernel
theorem dX11_mark_4 : decode cX11_mark 4 = .ok (.getfield 142, 3) := by decide +kernel
theorem dX11_mark_7 : decode cX11_mark 7 = .ok (.iload_n 1, 1) := by decide +kernel
theorem dX11_mark_8 : decode cX11_mark 8 = .ok (.invokevirtual 187, 3) := by decide +kernel
theorem dX11_mark_11 : decode cX11_mark 11 = .ok (.ifCond .ne 5, 3) := by decide +kernel
theorem dX11_mark_14 : decode cX11_mark 14 = .ok (.iconst (-1), 1) := by decide +kernel
theorem dX11_mark_15 : decode cX11_mark 15 = .ok (.ireturn, 1) := by decide +kernel
theorem dX11_mark_16 : decode cX11_mark 16 = .ok (.iload_n 2, 1) := by decide +kernel
theorem dX11_mark_17 : decode cX11_mark 17 = .ok (.tableswitch 66 0 2 #[27, 40, 53], 27) := by decide +kernel
theorem dX11_mark_44 : decode cX11_mark 44 = .ok (.aload_n 0, 1) := by decide +kernel
theorem dX11_mark_45 : decode cX11_mark 45 = .ok (.getfield 10, 3) := by decide +kernel
theorem dX11_mark_48 : decode cX11_mark 48 = .ok (.getfield 142, 3) := by decide +kernel
theorem dX11_mark_51 : decode cX11_mark 51 = .ok (.getfield 188, 3) := by decide +kernel
theorem dX11_mark_54 : decode cX11_mark 54 = .ok (.iload_n 1, 1) := by decide +kernel
theorem dX11_mark_55 : decode cX11_mark 55 = .ok (.iaload, 1) := by decide +kernel
theorem dX11_mark_56 : decode cX11_mark 56 = .ok (.ireturn, 1) := by decide +kernel
theorem dX11_mark_57 : decode cX11_mark 57 = .ok (.aload_n 0, 1) := by decide +kernel
theorem dX11_mark_58 : decode cX11_mark 58 = .ok (.getfield 10, 3) := by decide +kernel
theorem dX11_mark_61 : decode cX11_mark 61 = .ok (.getfield 142, 3) := by decide +kernel
theorem dX11_mark_64 : decode cX11_mark 64 = .ok (.getfield 191, 3) := by decide +kernel
theorem dX11_mark_67 : decode cX11_mark 67 = .ok (.iload_n 1, 1) := by decide +kernel
theorem dX11_mark_68 : decode cX11_mark 68 = .ok (.iaload, 1) := by decide +kernel
theorem dX11_mark_69 : decode cX11_mark 69 = .ok (.ireturn, 1) := by decide +kernel
theorem dX11_mark_70 : decode cX11_mark 70 = .ok (.aload_n 0, 1) := by decide +kernel
theorem dX11_mark_71 : decode cX11_mark 71 = .ok (.getfield 10, 3) := by decide +kernel
theorem dX11_mark_74 : decode cX11_mark 74 = .ok (.getfield 142, 3) := by decide +kernel
theorem dX11_mark_77 : decode cX11_mark 77 = .ok (.getfield 194, 3) := by decide +kernel
theorem dX11_mark_80 : decode cX11_mark 80 = .ok (.iload_n 1, 1) := by decide +kernel
theorem dX11_mark_81 : decode cX11_mark 81 = .ok (.iaload, 1) := by decide +kernel
theorem dX11_mark_82 : decode cX11_mark 82 = .ok (.ireturn, 1) := by decide +kernel
theorem dX11_mark_83 : decode cX11_mark 83 = .ok (.iconst (-1), 1) := by decide +kernel
theorem dX11_mark_84 : decode cX11_mark 84 = .ok (.ireturn, 1) := by decide +kernel
theorem dX11_storm_0 : decode cX11_storm 0 = .ok (.aload_n 0, 1) := by decide +kernel
theorem dX11_storm_1 : decode cX11_storm 1 = .ok (.getfield 10, 3) := by decide +kernel
theorem dX11_storm_4 : decode cX11_storm 4 = .ok (.getfield 111, 3) := by decide +kernel
theorem dX11_storm_7 : decode cX11_storm 7 = .ok (.bipush 7, 2) := by decide +kernel
theorem dX11_storm_9 : decode cX11_storm 9 = .ok (.iaload, 1) := by decide +kernel
theorem dX11_storm_10 : decode cX11_storm 10 = .ok (.istore_n 3, 1) := by decide +kernel
theorem dX11_storm_11 : decode cX11_storm 11 = .ok (.aload_n 0, 1) := by decide +kernel
theorem dX11_storm_12 : decode cX11_storm 12 = .ok (.getfield 10, 3) := by decide +kernel
theorem dX11_storm_15 : decode cX11_storm 15 = .ok (.getfield 142, 3) := by decide +kernel
theorem dX11_storm_18 : decode cX11_storm 18 = .ok (.iload_n 1, 1) := by decide +kernel
theorem dX11_storm_19 : decode cX11_storm 19 = .ok (.iload_n 3, 1) := by decide +kernel
theorem dX11_storm_20 : decode cX11_storm 20 = .ok (.invokevirtual 197, 3) := by decide +kernel
theorem dX11_storm_23 : decode cX11_storm 23 = .ok (.istore 4, 2) := by decide +kernel
theorem dX11_storm_25 : decode cX11_storm 25 = .ok (.iload 4, 2) := by decide +kernel
theorem dX11_storm_27 : decode cX11_storm 27 = .ok (.iconst (-1), 1) := by decide +kernel
theorem dX11_storm_28 : decode cX11_storm 28 = .ok (.if_icmp .ne 5, 3) := by decide +kernel
theorem dX11_storm_31 : decode cX11_storm 31 = .ok (.iconst (-1), 1) := by decide +kernel
theorem dX11_storm_32 : decode cX11_storm 32 = .ok (.ireturn, 1) := by decide +kernel
theorem dX11_storm_33 : decode cX11_storm 33 = .ok (.aload_n 0, 1) := by decide +kernel
theorem dX11_storm_34 : decode cX11_storm 34 = .ok (.getfield 10, 3) := by decide +kernel
theorem dX11_storm_37 : decode cX11_storm 37 = .ok (.getfield 142, 3) := by decide +kernel
theorem dX11_storm_40 : decode cX11_storm 40 = .ok (.iload 4, 2) := by decide +kernel
theorem dX11_storm_42 : decode cX11_storm 42 = .ok (.iload_n 3, 1) := by decide +kernel
theorem dX11_storm_43 : decode cX11_storm 43 = .ok (.invokevirtual 200, 3) := by decide +kernel
theorem dX11_storm_46 : decode cX11_storm 46 = .ok (.istore 5, 2) := by decide +kernel
theorem dX11_storm_48 : decode cX11_storm 48 = .ok (.iload_n 2, 1) := by decide +kernel
theorem dX11_storm_49 : decode cX11_storm 49 = .ok (.tableswitch 98 0 5 #[39, 42, 48, 65, 74, 83], 39) := by decide +kernel
theorem dX11_storm_88 : decode cX11_storm 88 = .ok (.iload 4, 2) := by decide +kernel
theorem dX11_storm_90 : decode cX11_storm 90 = .ok (.ireturn, 1) := by decide +kernel
theorem dX11_storm_91 : decode cX11_storm 91 = .ok (.iload 5, 2) := by decide +kernel
theorem dX11_storm_93 : decode cX11_storm 93 = .ok (.iload 4, 2) := by decide +kernel
theorem dX11_storm_95 : decode cX11_storm 95 = .ok (.isub, 1) := by decide +kernel
theorem dX11_storm_96 : decode cX11_storm 96 = .ok (.ireturn, 1) := by decide +kernel
theorem dX11_storm_97 : decode cX11_storm 97 = .ok (.aload_n 0, 1) := by decide +kernel
theorem dX11_storm_98 : decode cX11_storm 98 = .ok (.getfield 10, 3) := by decide +kernel
theorem dX11_storm_101 : decode cX11_storm 101 = .ok (.getfield 142, 3) := by decide +kernel
theorem dX11_storm_104 : decode cX11_storm 104 = .ok (.iload 4, 2) := by decide +kernel
theorem dX11_storm_106 : decode cX11_storm 106 = .ok (.iload 5, 2) := by decide +kernel
theorem dX11_storm_108 : decode cX11_storm 108 = .ok (.iconst 1, 1) := by decide +kernel
theorem dX11_storm_109 : decode cX11_storm 109 = .ok (.isub, 1) := by decide +kernel
theorem dX11_storm_110 : decode cX11_storm 110 = .ok (.invokevirtual 203, 3) := by decide +kernel
theorem dX11_storm_113 : decode cX11_storm 113 = .ok (.ireturn, 1) := by decide +kernel
theorem dX11_storm_114 : decode cX11_storm 114 = .ok (.aload_n 0, 1) := by decide +kernel
theorem dX11_storm_115 : decode cX11_storm 115 = .ok (.iload 4, 2) := by decide +kernel
theorem dX11_storm_117 : decode cX11_storm 117 = .ok (.iload 5, 2) := by decide +kernel
theorem dX11_storm_119 : decode cX11_storm 119 = .ok (.invokevirtual 206, 3) := by decide +kernel
theorem dX11_storm_122 : decode cX11_storm 122 = .ok (.ireturn, 1) := by decide +kernel
theorem dX11_storm_123 : decode cX11_storm 123 = .ok (.aload_n 0, 1) := by decide +kernel
theorem dX11_storm_124 : decode cX11_storm 124 = .ok (.iload 4, 2) := by decide +kernel
theorem dX11_storm_126 : decode cX11_storm 126 = .ok (.iload 5, 2) := by decide +kernel
theorem dX11_storm_128 : decode cX11_storm 128 = .ok (.invokevirtual 209, 3) := by decide +kernel
theorem dX11_storm_131 : decode cX11_storm 131 = .ok (.ireturn, 1) := by decide +kernel
theorem dX11_storm_132 : decode cX11_storm 132 = .ok (.aload_n 0, 1) := by decide +kernel
theorem dX11_storm_133 : decode cX11_storm 133 = .ok (.getfield 10, 3) := by decide +kernel
theorem dX11_storm_136 : decode cX11_storm 136 = .ok (.getfield 142, 3) := by decide +kernel
theorem dX11_storm_139 : decode cX11_storm 139 = .ok (.iload 4, 2) := by decide +kernel
theorem dX11_storm_141 : decode cX11_storm 141 = .ok (.iload 5, 2) := by decide +kernel
theorem dX11_storm_143 : decode cX11_storm 143 = .ok (.invokevirtual 212, 3) := by decide +kernel
theorem dX11_storm_146 : decode cX11_storm 146 = .ok (.ireturn, 1) := by decide +kernel
theorem dX11_storm_147 : decode cX11_storm 147 = .ok (.iconst (-1), 1) := by decide +kernel
theorem dX11_storm_148 : decode cX11_storm 148 = .ok (.ireturn, 1) := by decide +kernel
theorem dX11_greatestStorm_0 : decode cX11_greatestStorm 0 = .ok (.aload_n 0, 1) := by decide +kernel
theorem dX11_greatestStorm_1 : decode cX11_greatestStorm 1 = .ok (.getfield 10, 3) := by decide +kernel
theorem dX11_greatestStorm_4 : decode cX11_greatestStorm 4 = .ok (.getfield 111, 3) := by decide +kernel
theorem dX11_greatestStorm_7 : decode cX11_greatestStorm 7 = .ok (.bipush 7, 2) := by decide +kernel
theorem dX11_greatestStorm_9 : decode cX11_greatestStorm 9 = .ok (.iaload, 1) := by decide +kernel
theorem dX11_greatestStorm_10 : decode cX11_greatestStorm 10 = .ok (.istore_n 1, 1) := by decide +kernel
theorem dX11_greatestStorm_11 : decode cX11_greatestStorm 11 = .ok (.aload_n 0, 1) := by decide +kernel
theorem dX11_greatestStorm_12 : decode cX11_greatestStorm 12 = .ok (.getfield 10, 3) := by decide +kernel
theorem dX11_greatestStorm_15 : decode cX11_greatestStorm 15 = .ok (.getfield 142, 3) := by decide +kernel
theorem dX11_greatestStorm_18 : decode cX11_greatestStorm 18 = .ok (.iload_n 1, 1) := by decide +kernel
theorem dX11_greatestStorm_19 : decode cX11_greatestStorm 19 = .ok (.invokevirtual 149, 3) := by decide +kernel
theorem dX11_greatestStorm_22 : decode cX11_greatestStorm 22 = .ok (.istore_n 2, 1) := by decide +kernel
theorem dX11_greatestStorm_23 : decode cX11_greatestStorm 23 = .ok (.bipush (-4), 2) := by decide +kernel
theorem dX11_greatestStorm_25 : decode cX11_greatestStorm 25 = .ok (.istore_n 3, 1) := by decide +kernel
theorem dX11_greatestStorm_26 : decode cX11_greatestStorm 26 = .ok (.iconst (-1), 1) := by decide +kernel
theorem dX11_greatestStorm_27 : decode cX11_greatestStorm 27 = .ok (.istore 4, 2) := by decide +kernel
theorem dX11_greatestStorm_29 : decode cX11_greatestStorm 29 = .ok (.iconst 0, 1) := by decide +kernel
theorem dX11_greatestStorm_30 : decode cX11_greatestStorm 30 = .ok (.istore 5, 2) := by decide +kernel
theorem dX11_greatestStorm_32 : decode cX11_greatestStorm 32 = .ok (.iload 5, 2) := by decide +kernel
theorem dX11_greatestStorm_34 : decode cX11_greatestStorm 34 = .ok (.iload_n 2, 1) := by decide +kernel
theorem dX11_greatestStorm_35 : decode cX11_greatestStorm 35 = .ok (.if_icmp .ge 72, 3) := by decide +kernel
theorem dX11_greatestStorm_38 : decode cX11_greatestStorm 38 = .ok (.aload_n 0, 1) := by decide +kernel
theorem dX11_greatestStorm_39 : decode cX11_greatestStorm 39 = .ok (.getfield 10, 3) := by decide +kernel
theorem dX11_greatestStorm_42 : decode cX11_greatestStorm 42 = .ok (.getfield 142, 3) := by decide +kernel
theorem dX11_greatestStorm_45 : decode cX11_greatestStorm 45 = .ok (.iload 5, 2) := by decide +kernel
theorem dX11_greatestStorm_47 : decode cX11_greatestStorm 47 = .ok (.iload_n 1, 1) := by decide +kernel
theorem dX11_greatestStorm_48 : decode cX11_greatestStorm 48 = .ok (.invokevirtual 197, 3) := by decide +kernel
theorem dX11_greatestStorm_51 : decode cX11_greatestStorm 51 = .ok (.istore 6, 2) := by decide +kernel
theorem dX11_greatestStorm_53 : decode cX11_greatestStorm 53 = .ok (.aload_n 0, 1) := by decide +kernel
theorem dX11_greatestStorm_54 : decode cX11_greatestStorm 54 = .ok (.getfield 10, 3) := by decide +kernel
theorem dX11_greatestStorm_57 : decode cX11_greatestStorm 57 = .ok (.getfield 142, 3) := by decide +kernel
theorem dX11_greatestStorm_60 : decode cX11_greatestStorm 60 = .ok (.iload 6, 2) := by decide +kernel
theorem dX11_greatestStorm_62 : decode cX11_greatestStorm 62 = .ok (.iload_n 1, 1) := by decide +kernel
theorem dX11_greatestStorm_63 : decode cX11_greatestStorm 63 = .ok (.invokevirtual 200, 3) := by decide +kernel
theorem dX11_greatestStorm_66 : decode cX11_greatestStorm 66 = .ok (.istore 7, 2) := by decide +kernel
theorem dX11_greatestStorm_68 : decode cX11_greatestStorm 68 = .ok (.aload_n 0, 1) := by decide +kernel
theorem dX11_greatestStorm_69 : decode cX11_greatestStorm 69 = .ok (.iload 6, 2) := by decide +kernel
theorem dX11_greatestStorm_71 : decode cX11_greatestStorm 71 = .ok (.iload 7, 2) := by decide +kernel
theorem dX11_greatestStorm_73 : decode cX11_greatestStorm 73 = .ok (.invokevirtual 206, 3) := by decide +kernel
theorem dX11_greatestStorm_76 : decode cX11_greatestStorm 76 = .ok (.aload_n 0, 1) := by decide +kernel
theorem dX11_greatestStorm_77 : decode cX11_greatestStorm 77 = .ok (.iload 6, 2) := by decide +kernel
theorem dX11_greatestStorm_79 : decode cX11_greatestStorm 79 = .ok (.iload 7, 2) := by decide +kernel
theorem dX11_greatestStorm_81 : decode cX11_greatestStorm 81 = .ok (.invokevirtual 209, 3) := by decide +kernel
theorem dX11_greatestStorm_84 : decode cX11_greatestStorm 84 = .ok (.iadd, 1) := by decide +kernel
theorem dX11_greatestStorm_85 : decode cX11_greatestStorm 85 = .ok (.istore 8, 2) := by decide +kernel
theorem dX11_greatestStorm_87 : decode cX11_greatestStorm 87 = .ok (.iload 8, 2) := by decide +kernel
theorem dX11_greatestStorm_89 : decode cX11_greatestStorm 89 = .ok (.iload 4, 2) := by decide +kernel
theorem dX11_greatestStorm_91 : decode cX11_greatestStorm 91 = .ok (.if_icmp .le 10, 3) := by decide +kernel
theorem dX11_greatestStorm_94 : decode cX11_greatestStorm 94 = .ok (.iload 8, 2) := by decide +kernel
theorem dX11_greatestStorm_96 : decode cX11_greatestStorm 96 = .ok (.istore 4, 2) := by decide +kernel
theorem dX11_greatestStorm_98 : decode cX11_greatestStorm 98 = .ok (.iload 5, 2) := by decide +kernel
theorem dX11_greatestStorm_100 : decode cX11_greatestStorm 100 = .ok (.istore_n 3, 1) := by decide +kernel
theorem dX11_greatestStorm_101 : decode cX11_greatestStorm 101 = .ok (.iinc 5 1, 3) := by decide +kernel
theorem dX11_greatestStorm_104 : decode cX11_greatestStorm 104 = .ok (.goto (-72), 3) := by decide +kernel
theorem dX11_greatestStorm_107 : decode cX11_greatestStorm 107 = .ok (.iload_n 3, 1) := by decide +kernel
theorem dX11_greatestStorm_108 : decode cX11_greatestStorm 108 = .ok (.ireturn, 1) := by decide +kernel
theorem dX11_gapForOne_0 : decode cX11_gapForOne 0 = .ok (.aload_n 0, 1) := by decide +kernel
theorem dX11_gapForOne_1 : decode cX11_gapForOne 1 = .ok (.getfield 10, 3) := by decide +kernel
theorem dX11_gapForOne_4 : decode cX11_gapForOne 4 = .ok (.getfield 142, 3) := by decide +kernel
theorem dX11_gapForOne_7 : decode cX11_gapForOne 7 = .ok (.getfield 146, 3) := by decide +kernel
theorem dX11_gapForOne_10 : decode cX11_gapForOne 10 = .ok (.ifCond .ne 6, 3) := by decide +kernel
theorem dX11_gapForOne_13 : decode cX11_gapForOne 13 = .ok (.bipush (-4), 2) := by decide +kernel
theorem dX11_gapForOne_15 : decode cX11_gapForOne 15 = .ok (.ireturn, 1) := by decide +kernel
theorem dX11_gapForOne_16 : decode cX11_gapForOne 16 = .ok (.iconst 1, 1) := by decide +kernel
theorem dX11_gapForOne_17 : decode cX11_gapForOne 17 = .ok (.aload_n 0, 1) := by decide +kernel
theorem dX11_gapForOne_18 : decode cX11_gapForOne 18 = .ok (.getfield 10, 3) := by decide +kernel
theorem dX11_gapForOne_21 : decode cX11_gapForOne 21 = .ok (.getfield 142, 3) := by decide +kernel
theorem dX11_gapForOne_24 : decode cX11_gapForOne 24 = .ok (.invokevirtual 215, 3) := by decide +kernel
theorem dX11_gapForOne_27 : decode cX11_gapForOne 27 = .ok (.invokestatic 218, 3) := by decide +kernel
theorem dX11_gapForOne_30 : decode cX11_gapForOne 30 = .ok (.istore_n 1, 1) := by decide +kernel
theorem dX11_gapForOne_31 : decode cX11_gapForOne 31 = .ok (.iload_n 1, 1) := by decide +kernel
theorem dX11_gapForOne_32 : decode cX11_gapForOne 32 = .ok (.sipush 1000, 3) := by decide +kernel
theorem dX11_gapForOne_35 : decode cX11_gapForOne 35 = .ok (.if_icmp .gt 7, 3) := by decide +kernel
theorem dX11_gapForOne_38 : decode cX11_gapForOne 38 = .ok (.iload_n 1, 1) := by decide +kernel
theorem dX11_gapForOne_39 : decode cX11_gapForOne 39 = .ok (.goto 5, 3) := by decide +kernel
theorem dX11_gapForOne_42 : decode cX11_gapForOne 42 = .ok (.bipush (-4), 2) := by decide +kernel
theorem dX11_gapForOne_44 : decode cX11_gapForOne 44 = .ok (.ireturn, 1) := by decide +kernel
theorem dX11_ifRun_0 : decode cX11_ifRun 0 = .ok (.iload_n 2, 1) := by decide +kernel
theorem dX11_ifRun_1 : decode cX11_ifRun 1 = .ok (.iconst 0, 1) := by decide +kernel
theorem dX11_ifRun_2 : decode cX11_ifRun 2 = .ok (.bipush 7, 2) := by decide +kernel
theorem dX11_ifRun_4 : decode cX11_ifRun 4 = .ok (.invokestatic 51, 3) := by decide +kernel
theorem dX11_ifRun_7 : decode cX11_ifRun 7 = .ok (.ifCond .ne 5, 3) := by decide +kernel
theorem dX11_ifRun_10 : decode cX11_ifRun 10 = .ok (.iconst (-1), 1) := by decide +kernel
theorem dX11_ifRun_11 : decode cX11_ifRun 11 = .ok (.ireturn, 1) := by decide +kernel
theorem dX11_ifRun_12 : decode cX11_ifRun 12 = .ok (.aload_n 0, 1) := by decide +kernel
theorem dX11_ifRun_13 : decode cX11_ifRun 13 = .ok (.iload_n 1, 1) := by decide +kernel
theorem dX11_ifRun_14 : decode cX11_ifRun 14 = .ok (.invokevirtual 94, 3) := by decide +kernel
theorem dX11_ifRun_17 : decode cX11_ifRun 17 = .ok (.istore_n 3, 1) := by decide +kernel
theorem dX11_ifRun_18 : decode cX11_ifRun 18 = .ok (.iload_n 3, 1) := by decide +kernel
theorem dX11_ifRun_19 : decode cX11_ifRun 19 = .ok (.ifCond .eq 5, 3) := by decide +kernel
theorem dX11_ifRun_22 : decode cX11_ifRun 22 = .ok (.iload_n 3, 1) := by decide +kernel
theorem dX11_ifRun_23 : decode cX11_ifRun 23 = .ok (.ireturn, 1) := by decide +kernel
theorem dX11_ifRun_24 : decode cX11_ifRun 24 = .ok (.aload_n 0, 1) := by decide +kernel
theorem dX11_ifRun_25 : decode cX11_ifRun 25 = .ok (.getfield 16, 3) := by decide +kernel
theorem dX11_ifRun_28 : decode cX11_ifRun 28 = .ok (.aload_n 0, 1) := by decide +kernel
theorem dX11_ifRun_29 : decode cX11_ifRun 29 = .ok (.getfield 10, 3) := by decide +kernel
theorem dX11_ifRun_32 : decode cX11_ifRun 32 = .ok (.invokevirtual 223, 3) := by decide +kernel
theorem dX11_ifRun_35 : decode cX11_ifRun 35 = .ok (.aload_n 0, 1) := by decide +kernel
theorem dX11_ifRun_36 : decode cX11_ifRun 36 = .ok (.getfield 16, 3) := by decide +kernel
theorem dX11_ifRun_39 : decode cX11_ifRun 39 = .ok (.iload_n 1, 1) := by decide +kernel
theorem dX11_ifRun_40 : decode cX11_ifRun 40 = .ok (.invokevirtual 98, 3) := by decide +kernel
theorem dX11_ifRun_43 : decode cX11_ifRun 43 = .ok (.istore 4, 2) := by decide +kernel
theorem dX11_ifRun_45 : decode cX11_ifRun 45 = .ok (.iload_n 2, 1) := by decide +kernel
theorem dX11_ifRun_46 : decode cX11_ifRun 46 = .ok (.tableswitch 79 0 7 #[46, 79, 79, 79, 79, 49, 60, 71], 46) := by decide +kernel
theorem dX11_ifRun_92 : decode cX11_ifRun 92 = .ok (.iload 4, 2) := by decide +kernel
theorem dX11_ifRun_94 : decode cX11_ifRun 94 = .ok (.ireturn, 1) := by decide +kernel
theorem dX11_ifRun_95 : decode cX11_ifRun 95 = .ok (.aload_n 0, 1) := by decide +kernel
theorem dX11_ifRun_96 : decode cX11_ifRun 96 = .ok (.getfield 16, 3) := by decide +kernel
theorem dX11_ifRun_99 : decode cX11_ifRun 99 = .ok (.getfield 152, 3) := by decide +kernel
theorem dX11_ifRun_102 : decode cX11_ifRun 102 = .ok (.getfield 156, 3) := by decide +kernel
theorem dX11_ifRun_105 : decode cX11_ifRun 105 = .ok (.ireturn, 1) := by decide +kernel
theorem dX11_ifRun_106 : decode cX11_ifRun 106 = .ok (.aload_n 0, 1) := by decide +kernel
theorem dX11_ifRun_107 : decode cX11_ifRun 107 = .ok (.getfield 16, 3) := by decide +kernel
theorem dX11_ifRun_110 : decode cX11_ifRun 110 = .ok (.getfield 161, 3) := by decide +kernel
theorem dX11_ifRun_113 : decode cX11_ifRun 113 = .ok (.getfield 165, 3) := by decide +kernel
theorem dX11_ifRun_116 : decode cX11_ifRun 116 = .ok (.ireturn, 1) := by decide +kernel
theorem dX11_ifRun_117 : decode cX11_ifRun 117 = .ok (.aload_n 0, 1) := by decide +kernel
theorem dX11_ifRun_118 : decode cX11_ifRun 118 = .ok (.getfield 16, 3) := by decide +kernel
theorem dX11_ifRun_121 : decode cX11_ifRun 121 = .ok (.invokevirtual 174, 3) := by decide +kernel
theorem dX11_ifRun_124 : decode cX11_ifRun 124 = .ok (.ireturn, 1) := by decide +kernel
theorem dX11_ifRun_125 : decode cX11_ifRun 125 = .ok (.aload_n 0, 1) := by decide +kernel
theorem dX11_ifRun_126 : decode cX11_ifRun 126 = .ok (.getfield 16, 3) := by decide +kernel
theorem dX11_ifRun_129 : decode cX11_ifRun 129 = .ok (.iload_n 2, 1) := by decide +kernel
theorem dX11_ifRun_130 : decode cX11_ifRun 130 = .ok (.invokevirtual 184, 3) := by decide +kernel
theorem dX11_ifRun_133 : decode cX11_ifRun 133 = .ok (.aload_n 0, 1) := by decide +kernel
theorem dX11_ifRun_134 : decode cX11_ifRun 134 = .ok (.getfield 10, 3) := by decide +kernel
theorem dX11_ifRun_137 : decode cX11_ifRun 137 = .ok (.iload_n 2, 1) := by decide +kernel
theorem dX11_ifRun_138 : decode cX11_ifRun 138 = .ok (.invokevirtual 184, 3) := by decide +kernel
theorem dX11_ifRun_141 : decode cX11_ifRun 141 = .ok (.isub, 1) := by decide +kernel
theorem dX11_ifRun_142 : decode cX11_ifRun 142 = .ok (.ireturn, 1) := by decide +kernel
theorem dX11_capacityFor_0 : decode cX11_capacityFor 0 = .ok (.iload_n 2, 1) := by decide +kernel
theorem dX11_capacityFor_1 : decode cX11_capacityFor 1 = .ok (.iconst 0, 1) := by decide +kernel
theorem dX11_capacityFor_2 : decode cX11_capacityFor 2 = .ok (.ldc 226, 2) := by decide +kernel
theorem dX11_capacityFor_4 : decode cX11_capacityFor 4 = .ok (.invokestatic 51, 3) := by decide +kernel
theorem dX11_capacityFor_7 : decode cX11_capacityFor 7 = .ok (.ifCond .ne 5, 3) := by decide +kernel
theorem dX11_capacityFor_10 : decode cX11_capacityFor 10 = .ok (.iconst (-1), 1) := by decide +kernel
theorem dX11_capacityFor_11 : decode cX11_capacityFor 11 = .ok (.ireturn, 1) := by decide +kernel
theorem dX11_capacityFor_12 : decode cX11_capacityFor 12 = .ok (.aload_n 0, 1) := by decide +kernel
theorem dX11_capacityFor_13 : decode cX11_capacityFor 13 = .ok (.iload_n 1, 1) := by decide +kernel
theorem dX11_capacityFor_14 : decode cX11_capacityFor 14 = .ok (.invokevirtual 94, 3) := by decide +kernel
theorem dX11_capacityFor_17 : decode cX11_capacityFor 17 = .ok (.istore_n 3, 1) := by decide +kernel
theorem dX11_capacityFor_18 : decode cX11_capacityFor 18 = .ok (.iload_n 3, 1) := by decide +kernel
theorem dX11_capacityFor_19 : decode cX11_capacityFor 19 = .ok (.ifCond .eq 5, 3) := by decide +kernel
theorem dX11_capacityFor_22 : decode cX11_capacityFor 22 = .ok (.iload_n 3, 1) := by decide +kernel
theorem dX11_capacityFor_23 : decode cX11_capacityFor 23 = .ok (.ireturn, 1) := by decide +kernel
theorem dX11_capacityFor_24 : decode cX11_capacityFor 24 = .ok (.aload_n 0, 1) := by decide +kernel
theorem dX11_capacityFor_25 : decode cX11_capacityFor 25 = .ok (.getfield 16, 3) := by decide +kernel
theorem dX11_capacityFor_28 : decode cX11_capacityFor 28 = .ok (.aload_n 0, 1) := by decide +kernel
theorem dX11_capacityFor_29 : decode cX11_capacityFor 29 = .ok (.getfield 10, 3) := by decide +kernel
theorem dX11_capacityFor_32 : decode cX11_capacityFor 32 = .ok (.invokevirtual 223, 3) := by decide +kernel
theorem dX11_capacityFor_35 : decode cX11_capacityFor 35 = .ok (.aload_n 0, 1) := by decide +kernel
theorem dX11_capacityFor_36 : decode cX11_capacityFor 36 = .ok (.getfield 29, 3) := by decide +kernel
theorem dX11_capacityFor_39 : decode cX11_capacityFor 39 = .ok (.aload_n 0, 1) := by decide +kernel
theorem dX11_capacityFor_40 : decode cX11_capacityFor 40 = .ok (.getfield 16, 3) := by decide +kernel
theorem dX11_capacityFor_43 : decode cX11_capacityFor 43 = .ok (.iload_n 1, 1) := by decide +kernel
theorem dX11_capacityFor_44 : decode cX11_capacityFor 44 = .ok (.invokevirtual 227, 3) := by decide +kernel
theorem dX11_capacityFor_47 : decode cX11_capacityFor 47 = .ok (.getstatic 105, 3) := by decide +kernel
theorem dX11_capacityFor_50 : decode cX11_capacityFor 50 = .ok (.iconst 0, 1) := by decide +kernel
theorem dX11_capacityFor_51 : decode cX11_capacityFor 51 = .ok (.iaload, 1) := by decide +kernel
theorem dX11_capacityFor_52 : decode cX11_capacityFor 52 = .ok (.istore 4, 2) := by decide +kernel
theorem dX11_capacityFor_54 : decode cX11_capacityFor 54 = .ok (.iload 4, 2) := by decide +kernel
theorem dX11_capacityFor_56 : decode cX11_capacityFor 56 = .ok (.getstatic 108, 3) := by decide +kernel
theorem dX11_capacityFor_59 : decode cX11_capacityFor 59 = .ok (.iconst 0, 1) := by decide +kernel
theorem dX11_capacityFor_60 : decode cX11_capacityFor 60 = .ok (.iaload, 1) := by decide +kernel
theorem dX11_capacityFor_61 : decode cX11_capacityFor 61 = .ok (.if_icmp .gt 46, 3) := by decide +kernel
theorem dX11_capacityFor_64 : decode cX11_capacityFor 64 = .ok (.aload_n 0, 1) := by decide +kernel
theorem dX11_capacityFor_65 : decode cX11_capacityFor 65 = .ok (.getfield 16, 3) := by decide +kernel
theorem dX11_capacityFor_68 : decode cX11_capacityFor 68 = .ok (.getfield 161, 3) := by decide +kernel
theorem dX11_capacityFor_71 : decode cX11_capacityFor 71 = .ok (.aload_n 0, 1) := by decide +kernel
theorem dX11_capacityFor_72 : decode cX11_capacityFor 72 = .ok (.getfield 10, 3) := by decide +kernel
theorem dX11_capacityFor_75 : decode cX11_capacityFor 75 = .ok (.getfield 161, 3) := by decide +kernel
theorem dX11_capacityFor_78 : decode cX11_capacityFor 78 = .ok (.invokevirtual 231, 3) := by decide +kernel
theorem dX11_capacityFor_81 : decode cX11_capacityFor 81 = .ok (.aload_n 0, 1) := by decide +kernel
theorem dX11_capacityFor_82 : decode cX11_capacityFor 82 = .ok (.getfield 29, 3) := by decide +kernel
theorem dX11_capacityFor_85 : decode cX11_capacityFor 85 = .ok (.iload_n 2, 1) := by decide +kernel
theorem dX11_capacityFor_86 : decode cX11_capacityFor 86 = .ok (.iload 4, 2) := by decide +kernel
theorem dX11_capacityFor_88 : decode cX11_capacityFor 88 = .ok (.aload_n 0, 1) := by decide +kernel
theorem dX11_capacityFor_89 : decode cX11_capacityFor 89 = .ok (.getfield 16, 3) := by decide +kernel
theorem dX11_capacityFor_92 : decode cX11_capacityFor 92 = .ok (.invokevirtual 234, 3) := by decide +kernel
theorem dX11_capacityFor_95 : decode cX11_capacityFor 95 = .ok (.ifCond .eq 6, 3) := by decide +kernel
theorem dX11_capacityFor_98 : decode cX11_capacityFor 98 = .ok (.iload 4, 2) := by decide +kernel
theorem dX11_capacityFor_100 : decode cX11_capacityFor 100 = .ok (.ireturn, 1) := by decide +kernel
theorem dX11_capacityFor_101 : decode cX11_capacityFor 101 = .ok (.iinc 4 1, 3) := by decide +kernel
theorem dX11_capacityFor_104 : decode cX11_capacityFor 104 = .ok (.goto (-50), 3) := by decide +kernel
theorem dX11_capacityFor_107 : decode cX11_capacityFor 107 = .ok (.bipush (-4), 2) := by decide +kernel
theorem dX11_capacityFor_109 : decode cX11_capacityFor 109 = .ok (.ireturn, 1) := by decide +kernel
theorem dX11_untilStop_0 : decode cX11_untilStop 0 = .ok (.aload_n 0, 1) := by decide +kernel
theorem dX11_untilStop_1 : decode cX11_untilStop 1 = .ok (.getfield 10, 3) := by decide +kernel
theorem dX11_untilStop_4 : decode cX11_untilStop 4 = .ok (.getfield 114, 3) := by decide +kernel
theorem dX11_untilStop_7 : decode cX11_untilStop 7 = .ok (.getfield 118, 3) := by decide +kernel
theorem dX11_untilStop_10 : decode cX11_untilStop 10 = .ok (.ireturn, 1) := by decide +kernel
theorem dX11_gearsFor_0 : decode cX11_gearsFor 0 = .ok (.iload_n 1, 1) := by decide +kernel
theorem dX11_gearsFor_1 : decode cX11_gearsFor 1 = .ok (.iconst 1, 1) := by decide +kernel
theorem dX11_gearsFor_2 : decode cX11_gearsFor 2 = .ok (.ldc 226, 2) := by decide +kernel
theorem dX11_gearsFor_4 : decode cX11_gearsFor 4 = .ok (.invokestatic 51, 3) := by decide +kernel
theorem dX11_gearsFor_7 : decode cX11_gearsFor 7 = .ok (.ifCond .ne 5, 3) := by decide +kernel
theorem dX11_gearsFor_10 : decode cX11_gearsFor 10 = .ok (.iconst (-1), 1) := by decide +kernel
theorem dX11_gearsFor_11 : decode cX11_gearsFor 11 = .ok (.ireturn, 1) := by decide +kernel
theorem dX11_gearsFor_12 : decode cX11_gearsFor 12 = .ok (.aload_n 0, 1) := by decide +kernel
theorem dX11_gearsFor_13 : decode cX11_gearsFor 13 = .ok (.getfield 10, 3) := by decide +kernel
theorem dX11_gearsFor_16 : decode cX11_gearsFor 16 = .ok (.getfield 111, 3) := by decide +kernel
theorem dX11_gearsFor_19 : decode cX11_gearsFor 19 = .ok (.iconst 5, 1) := by decide +kernel
theorem dX11_gearsFor_20 : decode cX11_gearsFor 20 = .ok (.iaload, 1) := by decide +kernel
theorem dX11_gearsFor_21 : decode cX11_gearsFor 21 = .ok (.istore_n 2, 1) := by decide +kernel
theorem dX11_gearsFor_22 : decode cX11_gearsFor 22 = .ok (.bipush 8, 2) := by decide +kernel
theorem dX11_gearsFor_24 : decode cX11_gearsFor 24 = .ok (.istore_n 3, 1) := by decide +kernel
theorem dX11_gearsFor_25 : decode cX11_gearsFor 25 = .ok (.iload_n 3, 1) := by decide +kernel
theorem dX11_gearsFor_26 : decode cX11_gearsFor 26 = .ok (.bipush 120, 2) := by decide +kernel
theorem dX11_gearsFor_28 : decode cX11_gearsFor 28 = .ok (.if_icmp .gt 49, 3) := by decide +kernel
theorem dX11_gearsFor_31 : decode cX11_gearsFor 31 = .ok (.iload_n 1, 1) := by decide +kernel
theorem dX11_gearsFor_32 : decode cX11_gearsFor 32 = .ok (.iload_n 3, 1) := by decide +kernel
theorem dX11_gearsFor_33 : decode cX11_gearsFor 33 = .ok (.imul, 1) := by decide +kernel
theorem dX11_gearsFor_34 : decode cX11_gearsFor 34 = .ok (.iload_n 2, 1) := by decide +kernel
theorem dX11_gearsFor_35 : decode cX11_gearsFor 35 = .ok (.invokestatic 238, 3) := by decide +kernel
theorem dX11_gearsFor_38 : decode cX11_gearsFor 38 = .ok (.istore 4, 2) := by decide +kernel
theorem dX11_gearsFor_40 : decode cX11_gearsFor 40 = .ok (.iload_n 2, 1) := by decide +kernel
theorem dX11_gearsFor_41 : decode cX11_gearsFor 41 = .ok (.iload 4, 2) := by decide +kernel
theorem dX11_gearsFor_43 : decode cX11_gearsFor 43 = .ok (.imul, 1) := by decide +kernel
theorem dX11_gearsFor_44 : decode cX11_gearsFor 44 = .ok (.iload_n 1, 1) := by decide +kernel
theorem dX11_gearsFor_45 : decode cX11_gearsFor 45 = .ok (.iload_n 3, 1) := by decide +kernel
theorem dX11_gearsFor_46 : decode cX11_gearsFor 46 = .ok (.imul, 1) := by decide +kernel
theorem dX11_gearsFor_47 : decode cX11_gearsFor 47 = .ok (.if_icmp .ne 24, 3) := by decide +kernel
theorem dX11_gearsFor_50 : decode cX11_gearsFor 50 = .ok (.iload 4, 2) := by decide +kernel
theorem dX11_gearsFor_52 : decode cX11_gearsFor 52 = .ok (.bipush 8, 2) := by decide +kernel
theorem dX11_gearsFor_54 : decode cX11_gearsFor 54 = .ok (.bipush 120, 2) := by decide +kernel
theorem dX11_gearsFor_56 : decode cX11_gearsFor 56 = .ok (.invokestatic 51, 3) := by decide +kernel
theorem dX11_gearsFor_59 : decode cX11_gearsFor 59 = .ok (.ifCond .eq 12, 3) := by decide +kernel
theorem dX11_gearsFor_62 : decode cX11_gearsFor 62 = .ok (.sipush 1000, 3) := by decide +kernel
theorem dX11_gearsFor_65 : decode cX11_gearsFor 65 = .ok (.iload_n 3, 1) := by decide +kernel
theorem dX11_gearsFor_66 : decode cX11_gearsFor 66 = .ok (.imul, 1) := by decide +kernel
theorem dX11_gearsFor_67 : decode cX11_gearsFor 67 = .ok (.iload 4, 2) := by decide +kernel
theorem dX11_gearsFor_69 : decode cX11_gearsFor 69 = .ok (.iadd, 1) := by decide +kernel
theorem dX11_gearsFor_70 : decode cX11_gearsFor 70 = .ok (.ireturn, 1) := by decide +kernel
theorem dX11_gearsFor_71 : decode cX11_gearsFor 71 = .ok (.iinc 3 1, 3) := by decide +kernel
theorem dX11_gearsFor_74 : decode cX11_gearsFor 74 = .ok (.goto (-49), 3) := by decide +kernel
theorem dX11_gearsFor_77 : decode cX11_gearsFor 77 = .ok (.bipush (-4), 2) := by decide +kernel
theorem dX11_gearsFor_79 : decode cX11_gearsFor 79 = .ok (.ireturn, 1) := by decide +kernel
theorem dX11_type_0 : decode cX11_type 0 = .ok (.iload_n 1, 1) := by decide +kernel
theorem dX11_type_1 : decode cX11_type 1 = .ok (.bipush 32, 2) := by decide +kernel
theorem dX11_type_3 : decode cX11_type 3 = .ok (.bipush 126, 2) := by decide +kernel
theorem dX11_type_5 : decode cX11_type 5 = .ok (.invokestatic 51, 3) := by decide +kernel
theorem dX11_type_8 : decode cX11_type 8 = .ok (.ifCond .ne 5, 3) := by decide +kernel
theorem dX11_type_11 : decode cX11_type 11 = .ok (.iconst (-1), 1) := by decide +kernel
theorem dX11_type_12 : decode cX11_type 12 = .ok (.ireturn, 1) := by decide +kernel
theorem dX11_type_13 : decode cX11_type 13 = .ok (.aload_n 0, 1) := by decide +kernel
theorem dX11_type_14 : decode cX11_type 14 = .ok (.getfield 36, 3) := by decide +kernel
theorem dX11_type_17 : decode cX11_type 17 = .ok (.getfield 178, 3) := by decide +kernel
theorem dX11_type_20 : decode cX11_type 20 = .ok (.bipush 100, 2) := by decide +kernel
theorem dX11_type_22 : decode cX11_type 22 = .ok (.if_icmp .lt 6, 3) := by decide +kernel
theorem dX11_type_25 : decode cX11_type 25 = .ok (.bipush (-3), 2) := by decide +kernel
theorem dX11_type_27 : decode cX11_type 27 = .ok (.ireturn, 1) := by decide +kernel
theorem dX11_type_28 : decode cX11_type 28 = .ok (.aload_n 0, 1) := by decide +kernel
theorem dX11_type_29 : decode cX11_type 29 = .ok (.getfield 36, 3) := by decide +kernel
theorem dX11_type_32 : decode cX11_type 32 = .ok (.iload_n 1, 1) := by decide +kernel
theorem dX11_type_33 : decode cX11_type 33 = .ok (.i2c, 1) := by decide +kernel
theorem dX11_type_34 : decode cX11_type 34 = .ok (.invokevirtual 241, 3) := by decide +kernel
theorem dX11_type_37 : decode cX11_type 37 = .ok (.aload_n 0, 1) := by decide +kernel
theorem dX11_type_38 : decode cX11_type 38 = .ok (.getfield 36, 3) := by decide +kernel
theorem dX11_type_41 : decode cX11_type 41 = .ok (.getfield 178, 3) := by decide +kernel
theorem dX11_type_44 : decode cX11_type 44 = .ok (.ireturn, 1) := by decide +kernel
theorem dX11_clearText_0 : decode cX11_clearText 0 = .ok (.aload_n 0, 1) := by decide +kernel
theorem dX11_clearText_1 : decode cX11_clearText 1 = .ok (.getfield 36, 3) := by decide +kernel
theorem dX11_clearText_4 : decode cX11_clearText 4 = .ok (.getfield 178, 3) := by decide +kernel
theorem dX11_clearText_7 : decode cX11_clearText 7 = .ok (.istore_n 1, 1) := by decide +kernel
theorem dX11_clearText_8 : decode cX11_clearText 8 = .ok (.aload_n 0, 1) := by decide +kernel
theorem dX11_clearText_9 : decode cX11_clearText 9 = .ok (.getfield 36, 3) := by decide +kernel
theorem dX11_clearText_12 : decode cX11_clearText 12 = .ok (.iconst 0, 1) := by decide +kernel
theorem dX11_clearText_13 : decode cX11_clearText 13 = .ok (.putfield 178, 3) := by decide +kernel
theorem dX11_clearText_16 : decode cX11_clearText 16 = .ok (.iload_n 1, 1) := by decide +kernel
theorem dX11_clearText_17 : decode cX11_clearText 17 = .ok (.ireturn, 1) := by decide +kernel
theorem dX11_fault_0 : decode cX11_fault 0 = .ok (.iload_n 1, 1) := by decide +kernel
theorem dX11_fault_1 : decode cX11_fault 1 = .ok (.iconst 0, 1) := by decide +kernel
theorem dX11_fault_2 : decode cX11_fault 2 = .ok (.iconst 1, 1) := by decide +kernel
theorem dX11_fault_3 : decode cX11_fault 3 = .ok (.invokestatic 51, 3) := by decide +kernel
theorem dX11_fault_6 : decode cX11_fault 6 = .ok (.ifCond .ne 5, 3) := by decide +kernel
theorem dX11_fault_9 : decode cX11_fault 9 = .ok (.iconst (-1), 1) := by decide +kernel
theorem dX11_fault_10 : decode cX11_fault 10 = .ok (.ireturn, 1) := by decide +kernel
theorem dX11_fault_11 : decode cX11_fault 11 = .ok (.aload_n 0, 1) := by decide +kernel
theorem dX11_fault_12 : decode cX11_fault 12 = .ok (.getfield 43, 3) := by decide +kernel
theorem dX11_fault_15 : decode cX11_fault 15 = .ok (.aload_n 0, 1) := by decide +kernel
theorem dX11_fault_16 : decode cX11_fault 16 = .ok (.getfield 36, 3) := by decide +kernel
theorem dX11_fault_19 : decode cX11_fault 19 = .ok (.aload_n 0, 1) := by decide +kernel
theorem dX11_fault_20 : decode cX11_fault 20 = .ok (.getfield 10, 3) := by decide +kernel
theorem dX11_fault_23 : decode cX11_fault 23 = .ok (.getfield 47, 3) := by decide +kernel
theorem dX11_fault_26 : decode cX11_fault 26 = .ok (.aload_n 0, 1) := by decide +kernel
theorem dX11_fault_27 : decode cX11_fault 27 = .ok (.getfield 10, 3) := by decide +kernel
theorem dX11_fault_30 : decode cX11_fault 30 = .ok (.getfield 55, 3) := by decide +kernel
theorem dX11_fault_33 : decode cX11_fault 33 = .ok (.getfield 59, 3) := by decide +kernel
theorem dX11_fault_36 : decode cX11_fault 36 = .ok (.invokevirtual 244, 3) := by decide +kernel
theorem dX11_fault_39 : decode cX11_fault 39 = .ok (.aload_n 0, 1) := by decide +kernel
theorem dX11_fault_40 : decode cX11_fault 40 = .ok (.getfield 43, 3) := by decide +kernel
theorem dX11_fault_43 : decode cX11_fault 43 = .ok (.getfield 248, 3) := by decide +kernel
theorem dX11_fault_46 : decode cX11_fault 46 = .ok (.ifCond .ne 6, 3) := by decide +kernel
theorem dX11_fault_49 : decode cX11_fault 49 = .ok (.bipush (-4), 2) := by decide +kernel
theorem dX11_fault_51 : decode cX11_fault 51 = .ok (.ireturn, 1) := by decide +kernel
theorem dX11_fault_52 : decode cX11_fault 52 = .ok (.iload_n 1, 1) := by decide +kernel
theorem dX11_fault_53 : decode cX11_fault 53 = .ok (.ifCond .ne 13, 3) := by decide +kernel
theorem dX11_fault_56 : decode cX11_fault 56 = .ok (.aload_n 0, 1) := by decide +kernel
theorem dX11_fault_57 : decode cX11_fault 57 = .ok (.getfield 43, 3) := by decide +kernel
theorem dX11_fault_60 : decode cX11_fault 60 = .ok (.getfield 251, 3) := by decide +kernel
theorem dX11_fault_63 : decode cX11_fault 63 = .ok (.goto 10, 3) := by decide +kernel
theorem dX11_fault_66 : decode cX11_fault 66 = .ok (.aload_n 0, 1) := by decide +kernel
theorem dX11_fault_67 : decode cX11_fault 67 = .ok (.getfield 43, 3) := by decide +kernel
theorem dX11_fault_70 : decode cX11_fault 70 = .ok (.getfield 248, 3) := by decide +kernel
theorem dX11_fault_73 : decode cX11_fault 73 = .ok (.ireturn, 1) := by decide +kernel
theorem dX11_lay_0 : decode cX11_lay 0 = .ok (.aload_n 0, 1) := by decide +kernel
theorem dX11_lay_1 : decode cX11_lay 1 = .ok (.getfield 43, 3) := by decide +kernel
theorem dX11_lay_4 : decode cX11_lay 4 = .ok (.aload_n 0, 1) := by decide +kernel
theorem dX11_lay_5 : decode cX11_lay 5 = .ok (.getfield 36, 3) := by decide +kernel
theorem dX11_lay_8 : decode cX11_lay 8 = .ok (.aload_n 0, 1) := by decide +kernel
theorem dX11_lay_9 : decode cX11_lay 9 = .ok (.getfield 10, 3) := by decide +kernel
theorem dX11_lay_12 : decode cX11_lay 12 = .ok (.getfield 47, 3) := by decide +kernel
theorem dX11_lay_15 : decode cX11_lay 15 = .ok (.aload_n 0, 1) := by decide +kernel
theorem dX11_lay_16 : decode cX11_lay 16 = .ok (.getfield 10, 3) := by decide +kernel
theorem dX11_lay_19 : decode cX11_lay 19 = .ok (.getfield 55, 3) := by decide +kernel
theorem dX11_lay_22 : decode cX11_lay 22 = .ok (.getfield 59, 3) := by decide +kernel
theorem dX11_lay_25 : decode cX11_lay 25 = .ok (.invokevirtual 244, 3) := by decide +kernel
theorem dX11_lay_28 : decode cX11_lay 28 = .ok (.aload_n 0, 1) := by decide +kernel
theorem dX11_lay_29 : decode cX11_lay 29 = .ok (.getfield 43, 3) := by decide +kernel
theorem dX11_lay_32 : decode cX11_lay 32 = .ok (.getfield 248, 3) := by decide +kernel
theorem dX11_lay_35 : decode cX11_lay 35 = .ok (.ifCond .eq 6, 3) := by decide +kernel
theorem dX11_lay_38 : decode cX11_lay 38 = .ok (.bipush (-2), 2) := by decide +kernel
theorem dX11_lay_40 : decode cX11_lay 40 = .ok (.ireturn, 1) := by decide +kernel
theorem dX11_lay_41 : decode cX11_lay 41 = .ok (.aload_n 0, 1) := by decide +kernel
theorem dX11_lay_42 : decode cX11_lay 42 = .ok (.getfield 22, 3) := by decide +kernel
theorem dX11_lay_45 : decode cX11_lay 45 = .ok (.aload_n 0, 1) := by decide +kernel
theorem dX11_lay_46 : decode cX11_lay 46 = .ok (.getfield 10, 3) := by decide +kernel
theorem dX11_lay_49 : decode cX11_lay 49 = .ok (.invokevirtual 64, 3) := by decide +kernel
theorem dX11_lay_52 : decode cX11_lay 52 = .ok (.iconst 0, 1) := by decide +kernel
theorem dX11_lay_53 : decode cX11_lay 53 = .ok (.istore_n 1, 1) := by decide +kernel
theorem dX11_lay_54 : decode cX11_lay 54 = .ok (.iload_n 1, 1) := by decide +kernel
theorem dX11_lay_55 : decode cX11_lay 55 = .ok (.aload_n 0, 1) := by decide +kernel
theorem dX11_lay_56 : decode cX11_lay 56 = .ok (.getfield 43, 3) := by decide +kernel
theorem dX11_lay_59 : decode cX11_lay 59 = .ok (.getfield 254, 3) := by decide +kernel
theorem dX11_lay_62 : decode cX11_lay 62 = .ok (.if_icmp .ge 53, 3) := by decide +kernel
theorem dX11_lay_65 : decode cX11_lay 65 = .ok (.iload_n 1, 1) := by decide +kernel
theorem dX11_lay_66 : decode cX11_lay 66 = .ok (.bipush 12, 2) := by decide +kernel
theorem dX11_lay_68 : decode cX11_lay 68 = .ok (.if_icmp .ge 47, 3) := by decide +kernel
theorem dX11_lay_71 : decode cX11_lay 71 = .ok (.aload_n 0, 1) := by decide +kernel
theorem dX11_lay_72 : decode cX11_lay 72 = .ok (.getfield 10, 3) := by decide +kernel
theorem dX11_lay_75 : decode cX11_lay 75 = .ok (.getfield 55, 3) := by decide +kernel
theorem dX11_lay_78 : decode cX11_lay 78 = .ok (.aload_n 0, 1) := by decide +kernel
theorem dX11_lay_79 : decode cX11_lay 79 = .ok (.getfield 43, 3) := by decide +kernel
theorem dX11_lay_82 : decode cX11_lay 82 = .ok (.getfield 255, 3) := by decide +kernel
theorem dX11_lay_85 : decode cX11_lay 85 = .ok (.iload_n 1, 1) := by decide +kernel
theorem dX11_lay_86 : decode cX11_lay 86 = .ok (.iaload, 1) := by decide +kernel
theorem dX11_lay_87 : decode cX11_lay 87 = .ok (.aload_n 0, 1) := by decide +kernel
theorem dX11_lay_88 : decode cX11_lay 88 = .ok (.getfield 43, 3) := by decide +kernel
theorem dX11_lay_91 : decode cX11_lay 91 = .ok (.getfield 256, 3) := by decide +kernel
theorem dX11_lay_94 : decode cX11_lay 94 = .ok (.iload_n 1, 1) := by decide +kernel
theorem dX11_lay_95 : decode cX11_lay 95 = .ok (.iaload, 1) := by decide +kernel
theorem dX11_lay_96 : decode cX11_lay 96 = .ok (.aload_n 0, 1) := by decide +kernel
theorem dX11_lay_97 : decode cX11_lay 97 = .ok (.getfield 43, 3) := by decide +kernel
theorem dX11_lay_100 : decode cX11_lay 100 = .ok (.getfield 257, 3) := by decide +kernel
theorem dX11_lay_103 : decode cX11_lay 103 = .ok (.iload_n 1, 1) := by decide +kernel
theorem dX11_lay_104 : decode cX11_lay 104 = .ok (.iaload, 1) := by decide +kernel
theorem dX11_lay_105 : decode cX11_lay 105 = .ok (.invokevirtual 68, 3) := by decide +kernel
theorem dX11_lay_108 : decode cX11_lay 108 = .ok (.pop, 1) := by decide +kernel
theorem dX11_lay_109 : decode cX11_lay 109 = .ok (.iinc 1 1, 3) := by decide +kernel
theorem dX11_lay_112 : decode cX11_lay 112 = .ok (.goto (-58), 3) := by decide +kernel
theorem dX11_lay_115 : decode cX11_lay 115 = .ok (.aload_n 0, 1) := by decide +kernel
theorem dX11_lay_116 : decode cX11_lay 116 = .ok (.getfield 43, 3) := by decide +kernel
theorem dX11_lay_119 : decode cX11_lay 119 = .ok (.getfield 254, 3) := by decide +kernel
theorem dX11_lay_122 : decode cX11_lay 122 = .ok (.ireturn, 1) := by decide +kernel
theorem dX11_errorOfTicks_0 : decode cX11_errorOfTicks 0 = .ok (.iload_n 1, 1) := by decide +kernel
theorem dX11_errorOfTicks_1 : decode cX11_errorOfTicks 1 = .ok (.iconst 1, 1) := by decide +kernel
theorem dX11_errorOfTicks_2 : decode cX11_errorOfTicks 2 = .ok (.sipush 1000, 3) := by decide +kernel
theorem dX11_errorOfTicks_5 : decode cX11_errorOfTicks 5 = .ok (.invokestatic 51, 3) := by decide +kernel
theorem dX11_errorOfTicks_8 : decode cX11_errorOfTicks 8 = .ok (.ifCond .ne 5, 3) := by decide +kernel
theorem dX11_errorOfTicks_11 : decode cX11_errorOfTicks 11 = .ok (.iconst (-1), 1) := by decide +kernel
theorem dX11_errorOfTicks_12 : decode cX11_errorOfTicks 12 = .ok (.ireturn, 1) := by decide +kernel
theorem dX11_errorOfTicks_13 : decode cX11_errorOfTicks 13 = .ok (.aload_n 0, 1) := by decide +kernel
theorem dX11_errorOfTicks_14 : decode cX11_errorOfTicks 14 = .ok (.getfield 10, 3) := by decide +kernel
theorem dX11_errorOfTicks_17 : decode cX11_errorOfTicks 17 = .ok (.getfield 47, 3) := by decide +kernel
theorem dX11_errorOfTicks_20 : decode cX11_errorOfTicks 20 = .ok (.iload_n 1, 1) := by decide +kernel
theorem dX11_errorOfTicks_21 : decode cX11_errorOfTicks 21 = .ok (.iadd, 1) := by decide +kernel
theorem dX11_errorOfTicks_22 : decode cX11_errorOfTicks 22 = .ok (.sipush 5000, 3) := by decide +kernel
theorem dX11_errorOfTicks_25 : decode cX11_errorOfTicks 25 = .ok (.if_icmp .le 8, 3) := by decide +kernel
theorem dX11_errorOfTicks_28 : decode cX11_errorOfTicks 28 = .ok (.bipush (-3), 2) := by decide +kernel
theorem dX11_errorOfTicks_30 : decode cX11_errorOfTicks 30 = .ok (.goto 4, 3) := by decide +kernel
theorem dX11_errorOfTicks_33 : decode cX11_errorOfTicks 33 = .ok (.iconst 0, 1) := by decide +kernel
theorem dX11_errorOfTicks_34 : decode cX11_errorOfTicks 34 = .ok (.ireturn, 1) := by decide +kernel
theorem dX11_amountOf_0 : decode cX11_amountOf 0 = .ok (.iload_n 2, 1) := by decide +kernel
theorem dX11_amountOf_1 : decode cX11_amountOf 1 = .ok (.iload_n 1, 1) := by decide +kernel
theorem dX11_amountOf_2 : decode cX11_amountOf 2 = .ok (.isub, 1) := by decide +kernel
theorem dX11_amountOf_3 : decode cX11_amountOf 3 = .ok (.aload_n 0, 1) := by decide +kernel
theorem dX11_amountOf_4 : decode cX11_amountOf 4 = .ok (.getfield 10, 3) := by decide +kernel
theorem dX11_amountOf_7 : decode cX11_amountOf 7 = .ok (.getfield 111, 3) := by decide +kernel
theorem dX11_amountOf_10 : decode cX11_amountOf 10 = .ok (.iconst 0, 1) := by decide +kernel
theorem dX11_amountOf_11 : decode cX11_amountOf 11 = .ok (.iaload, 1) := by decide +kernel
theorem dX11_amountOf_12 : decode cX11_amountOf 12 = .ok (.imul, 1) := by decide +kernel
theorem dX11_amountOf_13 : decode cX11_amountOf 13 = .ok (.ireturn, 1) := by decide +kernel
theorem dX11_lossOf_0 : decode cX11_lossOf 0 = .ok (.aload_n 0, 1) := by decide +kernel
theorem dX11_lossOf_1 : decode cX11_lossOf 1 = .ok (.getfield 10, 3) := by decide +kernel
theorem dX11_lossOf_4 : decode cX11_lossOf 4 = .ok (.getfield 142, 3) := by decide +kernel
theorem dX11_lossOf_7 : decode cX11_lossOf 7 = .ok (.iload_n 1, 1) := by decide +kernel
theorem dX11_lossOf_8 : decode cX11_lossOf 8 = .ok (.iload_n 2, 1) := by decide +kernel
theorem dX11_lossOf_9 : decode cX11_lossOf 9 = .ok (.aload_n 0, 1) := by decide +kernel
theorem dX11_lossOf_10 : decode cX11_lossOf 10 = .ok (.getfield 10, 3) := by decide +kernel
theorem dX11_lossOf_13 : decode cX11_lossOf 13 = .ok (.getfield 111, 3) := by decide +kernel
theorem dX11_lossOf_16 : decode cX11_lossOf 16 = .ok (.iconst 0, 1) := by decide +kernel
theorem dX11_lossOf_17 : decode cX11_lossOf 17 = .ok (.iaload, 1) := by decide +kernel
theorem dX11_lossOf_18 : decode cX11_lossOf 18 = .ok (.aload_n 0, 1) := by decide +kernel
theorem dX11_lossOf_19 : decode cX11_lossOf 19 = .ok (.getfield 10, 3) := by decide +kernel
theorem dX11_lossOf_22 : decode cX11_lossOf 22 = .ok (.getfield 111, 3) := by decide +kernel
theorem dX11_lossOf_25 : decode cX11_lossOf 25 = .ok (.iconst 1, 1) := by decide +kernel
theorem dX11_lossOf_26 : decode cX11_lossOf 26 = .ok (.iaload, 1) := by decide +kernel
theorem dX11_lossOf_27 : decode cX11_lossOf 27 = .ok (.imul, 1) := by decide +kernel
theorem dX11_lossOf_28 : decode cX11_lossOf 28 = .ok (.invokevirtual 258, 3) := by decide +kernel
theorem dX11_lossOf_31 : decode cX11_lossOf 31 = .ok (.ireturn, 1) := by decide +kernel
theorem dX11_isWithin_0 : decode cX11_isWithin 0 = .ok (.iload_n 0, 1) := by decide +kernel
theorem dX11_isWithin_1 : decode cX11_isWithin 1 = .ok (.iload_n 1, 1) := by decide +kernel
theorem dX11_isWithin_2 : decode cX11_isWithin 2 = .ok (.if_icmp .lt 12, 3) := by decide +kernel
theorem dX11_isWithin_5 : decode cX11_isWithin 5 = .ok (.iload_n 0, 1) := by decide +kernel
theorem dX11_isWithin_6 : decode cX11_isWithin 6 = .ok (.iload_n 2, 1) := by decide +kernel
theorem dX11_isWithin_7 : decode cX11_isWithin 7 = .ok (.if_icmp .gt 7, 3) := by decide +kernel
theorem dX11_isWithin_10 : decode cX11_isWithin 10 = .ok (.iconst 1, 1) := by decide +kernel
theorem dX11_isWithin_11 : decode cX11_isWithin 11 = .ok (.goto 4, 3) := by decide +kernel
theorem dX11_isWithin_14 : decode cX11_isWithin 14 = .ok (.iconst 0, 1) := by decide +kernel
theorem dX11_isWithin_15 : decode cX11_isWithin 15 = .ok (.ireturn, 1) := by decide +kernel
theorem dX11_quotient_0 : decode cX11_quotient 0 = .ok (.iload_n 1, 1) := by decide +kernel
theorem dX11_quotient_1 : decode cX11_quotient 1 = .ok (.ifCond .ne 7, 3) := by decide +kernel
theorem dX11_quotient_4 : decode cX11_quotient 4 = .ok (.iconst 0, 1) := by decide +kernel
theorem dX11_quotient_5 : decode cX11_quotient 5 = .ok (.goto 8, 3) := by decide +kernel
theorem dX11_quotient_8 : decode cX11_quotient 8 = .ok (.iload_n 0, 1) := by decide +kernel
theorem dX11_quotient_9 : decode cX11_quotient 9 = .ok (.iload_n 1, 1) := by decide +kernel
theorem dX11_quotient_10 : decode cX11_quotient 10 = .ok (.invokestatic 261, 3) := by decide +kernel
theorem dX11_quotient_13 : decode cX11_quotient 13 = .ok (.ireturn, 1) := by decide +kernel
theorem dX11_copyRow_0 : decode cX11_copyRow 0 = .ok (.aload_n 0, 1) := by decide +kernel
theorem dX11_copyRow_1 : decode cX11_copyRow 1 = .ok (.iconst 0, 1) := by decide +kernel
theorem dX11_copyRow_2 : decode cX11_copyRow 2 = .ok (.aload_n 1, 1) := by decide +kernel
theorem dX11_copyRow_3 : decode cX11_copyRow 3 = .ok (.iconst 0, 1) := by decide +kernel
theorem dX11_copyRow_4 : decode cX11_copyRow 4 = .ok (.aload_n 0, 1) := by decide +kernel
theorem dX11_copyRow_5 : decode cX11_copyRow 5 = .ok (.arraylength, 1) := by decide +kernel
theorem dX11_copyRow_6 : decode cX11_copyRow 6 = .ok (.aload_n 1, 1) := by decide +kernel
theorem dX11_copyRow_7 : decode cX11_copyRow 7 = .ok (.arraylength, 1) := by decide +kernel
theorem dX11_copyRow_8 : decode cX11_copyRow 8 = .ok (.invokestatic 264, 3) := by decide +kernel
theorem dX11_copyRow_11 : decode cX11_copyRow 11 = .ok (.invokestatic 267, 3) := by decide +kernel
theorem dX11_copyRow_14 : decode cX11_copyRow 14 = .ok (.return_, 1) := by decide +kernel
theorem dX12_init_0 : decode cX12_init 0 = .ok (.aload_n 0, 1) := by decide +kernel
theorem dX12_init_1 : decode cX12_init 1 = .ok (.invokespecial 1, 3) := by decide +kernel
theorem dX12_init_4 : decode cX12_init 4 = .ok (.aload_n 0, 1) := by decide +kernel
theorem dX12_init_5 : decode cX12_init 5 = .ok (.sipush 244, 3) := by decide +kernel
theorem dX12_init_8 : decode cX12_init 8 = .ok (.newarray .int, 2) := by decide +kernel
theorem dX12_init_10 : decode cX12_init 10 = .ok (.putfield 7, 3) := by decide +kernel
theorem dX12_init_13 : decode cX12_init 13 = .ok (.aload_n 0, 1) := by decide +kernel
theorem dX12_init_14 : decode cX12_init 14 = .ok (.sipush 1220, 3) := by decide +kernel
theorem dX12_init_17 : decode cX12_init 17 = .ok (.newarray .int, 2) := by decide +kernel
theorem dX12_init_19 : decode cX12_init 19 = .ok (.putfield 13, 3) := by decide +kernel
theorem dX12_init_22 : decode cX12_init 22 = .ok (.aload_n 0, 1) := by decide +kernel
theorem dX12_init_23 : decode cX12_init 23 = .ok (.sipush 244, 3) := by decide +kernel
theorem dX12_init_26 : decode cX12_init 26 = .ok (.newarray .int, 2) := by decide +kernel
theorem dX12_init_28 : decode cX12_init 28 = .ok (.putfield 16, 3) := by decide +kernel
theorem dX12_init_31 : decode cX12_init 31 = .ok (.aload_n 0, 1) := by decide +kernel
theorem dX12_init_32 : decode cX12_init 32 = .ok (.bipush 100, 2) := by decide +kernel
theorem dX12_init_34 : decode cX12_init 34 = .ok (.newarray .char, 2) := by decide +kernel
theorem dX12_init_36 : decode cX12_init 36 = .ok (.putfield 19, 3) := by decide +kernel
theorem dX12_init_39 : decode cX12_init 39 = .ok (.aload_n 0, 1) := by decide +kernel
theorem dX12_init_40 : decode cX12_init 40 = .ok (.bipush 48, 2) := by decide +kernel
theorem dX12_init_42 : decode cX12_init 42 = .ok (.newarray .int, 2) := by decide +kernel
theorem dX12_init_44 : decode cX12_init 44 = .ok (.putfield 23, 3) := by decide +kernel
theorem dX12_init_47 : decode cX12_init 47 = .ok (.aload_n 0, 1) := by decide +kernel
theorem dX12_init_48 : decode cX12_init 48 = .ok (.bipush 61, 2) := by decide +kernel
theorem dX12_init_50 : decode cX12_init 50 = .ok (.newarray .int, 2) := by decide +kernel
theorem dX12_init_52 : decode cX12_init 52 = .ok (.putfield 26, 3) := by decide +kernel
theorem dX12_init_55 : decode cX12_init 55 = .ok (.aload_n 0, 1) := by decide +kernel
theorem dX12_init_56 : decode cX12_init 56 = .ok (.getfield 7, 3) := by decide +kernel
theorem dX12_init_59 : decode cX12_init 59 = .ok (.bipush 11, 2) := by decide +kernel
theorem dX12_init_61 : decode cX12_init 61 = .ok (.bipush 100, 2) := by decide +kernel
theorem dX12_init_63 : decode cX12_init 63 = .ok (.iastore, 1) := by decide +kernel
theorem dX12_init_64 : decode cX12_init 64 = .ok (.aload_n 0, 1) := by decide +kernel
theorem dX12_init_65 : decode cX12_init 65 = .ok (.getfield 7, 3) := by decide +kernel
theorem dX12_init_68 : decode cX12_init 68 = .ok (.bipush 12, 2) := by decide +kernel
theorem dX12_init_70 : decode cX12_init 70 = .ok (.iconst 2, 1) := by decide +kernel
theorem dX12_init_71 : decode cX12_init 71 = .ok (.iastore, 1) := by decide +kernel
theorem dX12_init_72 : decode cX12_init 72 = .ok (.aload_n 0, 1) := by decide +kernel
theorem dX12_init_73 : decode cX12_init 73 = .ok (.getfield 7, 3) := by decide +kernel
theorem dX12_init_76 : decode cX12_init 76 = .ok (.bipush 13, 2) := by decide +kernel
theorem dX12_init_78 : decode cX12_init 78 = .ok (.bipush 10, 2) := by decide +kernel
theorem dX12_init_80 : decode cX12_init 80 = .ok (.iastore, 1) := by decide +kernel
theorem dX12_init_81 : decode cX12_init 81 = .ok (.aload_n 0, 1) := by decide +kernel
theorem dX12_init_82 : decode cX12_init 82 = .ok (.getfield 7, 3) := by decide +kernel
theorem dX12_init_85 : decode cX12_init 85 = .ok (.bipush 14, 2) := by decide +kernel
theorem dX12_init_87 : decode cX12_init 87 = .ok (.iconst 1, 1) := by decide +kernel
theorem dX12_init_88 : decode cX12_init 88 = .ok (.iastore, 1) := by decide +kernel
theorem dX12_init_89 : decode cX12_init 89 = .ok (.aload_n 0, 1) := by decide +kernel
theorem dX12_init_90 : decode cX12_init 90 = .ok (.getfield 7, 3) := by decide +kernel
theorem dX12_init_93 : decode cX12_init 93 = .ok (.bipush 16, 2) := by decide +kernel
theorem dX12_init_95 : decode cX12_init 95 = .ok (.sipush 360, 3) := by decide +kernel
theorem dX12_init_98 : decode cX12_init 98 = .ok (.iastore, 1) := by decide +kernel
theorem dX12_init_99 : decode cX12_init 99 = .ok (.aload_n 0, 1) := by decide +kernel
theorem dX12_init_100 : decode cX12_init 100 = .ok (.getfield 7, 3) := by decide +kernel
theorem dX12_init_103 : decode cX12_init 103 = .ok (.bipush 17, 2) := by decide +kernel
theorem dX12_init_105 : decode cX12_init 105 = .ok (.sipush 500, 3) := by decide +kernel
theorem dX12_init_108 : decode cX12_init 108 = .ok (.iastore, 1) := by decide +kernel
theorem dX12_init_109 : decode cX12_init 109 = .ok (.aload_n 0, 1) := by decide +kernel
theorem dX12_init_110 : decode cX12_init 110 = .ok (.getfield 7, 3) := by decide +kernel
theorem dX12_init_113 : decode cX12_init 113 = .ok (.bipush 18, 2) := by decide +kernel
theorem dX12_init_115 : decode cX12_init 115 = .ok (.bipush 60, 2) := by decide +kernel
theorem dX12_init_117 : decode cX12_init 117 = .ok (.iastore, 1) := by decide +kernel
theorem dX12_init_118 : decode cX12_init 118 = .ok (.aload_n 0, 1) := by decide +kernel
theorem dX12_init_119 : decode cX12_init 119 = .ok (.getfield 7, 3) := by decide +kernel
theorem dX12_init_122 : decode cX12_init 122 = .ok (.iconst 4, 1) := by decide +kernel
theorem dX12_init_123 : decode cX12_init 123 = .ok (.sipush 500, 3) := by decide +kernel
theorem dX12_init_126 : decode cX12_init 126 = .ok (.iastore, 1) := by decide +kernel
theorem dX12_init_127 : decode cX12_init 127 = .ok (.return_, 1) := by decide +kernel
theorem dX12_in_0 : decode cX12_in 0 = .ok (.iload_n 0, 1) := by decide +kernel
theorem dX12_in_1 : decode cX12_in 1 = .ok (.iload_n 1, 1) := by decide +kernel
theorem dX12_in_2 : decode cX12_in 2 = .ok (.if_icmp .lt 12, 3) := by decide +kernel
theorem dX12_in_5 : decode cX12_in 5 = .ok (.iload_n 0, 1) := by decide +kernel
theorem dX12_in_6 : decode cX12_in 6 = .ok (.iload_n 2, 1) := by decide +kernel
theorem dX12_in_7 : decode cX12_in 7 = .ok (.if_icmp .gt 7, 3) := by decide +kernel
theorem dX12_in_10 : decode cX12_in 10 = .ok (.iconst 1, 1) := by decide +kernel
theorem dX12_in_11 : decode cX12_in 11 = .ok (.goto 4, 3) := by decide +kernel
theorem dX12_in_14 : decode cX12_in 14 = .ok (.iconst 0, 1) := by decide +kernel
theorem dX12_in_15 : decode cX12_in 15 = .ok (.ireturn, 1) := by decide +kernel
theorem dX12_less_0 : decode cX12_less 0 = .ok (.iload_n 0, 1) := by decide +kernel
theorem dX12_less_1 : decode cX12_less 1 = .ok (.iload_n 1, 1) := by decide +kernel
theorem dX12_less_2 : decode cX12_less 2 = .ok (.if_icmp .ge 7, 3) := by decide +kernel
theorem dX12_less_5 : decode cX12_less 5 = .ok (.iload_n 0, 1) := by decide +kernel
theorem dX12_less_6 : decode cX12_less 6 = .ok (.goto 4, 3) := by decide +kernel
theorem dX12_less_9 : decode cX12_less 9 = .ok (.iload_n 1, 1) := by decide +kernel
theorem dX12_less_10 : decode cX12_less 10 = .ok (.ireturn, 1) := by decide +kernel
theorem dX12_records_0 : decode cX12_records 0 = .ok (.aload_n 0, 1) := by decide +kernel
theorem dX12_records_1 : decode cX12_records 1 = .ok (.getfield 29, 3) := by decide +kernel
theorem dX12_records_4 : decode cX12_records 4 = .ok (.iconst 5, 1) := by decide +kernel
theorem dX12_records_5 : decode cX12_records 5 = .ok (.if_icmp .ne 44, 3) := by decide +kernel
theorem dX12_records_8 : decode cX12_records 8 = .ok (.iconst 0, 1) := by decide +kernel
theorem dX12_records_9 : decode cX12_records 9 = .ok (.istore_n 1, 1) := by decide +kernel
theorem dX12_records_10 : decode cX12_records 10 = .ok (.iload_n 1, 1) := by decide +kernel
theorem dX12_records_11 : decode cX12_records 11 = .ok (.sipush 976, 3) := by decide +kernel
theorem dX12_records_14 : decode cX12_records 14 = .ok (.if_icmp .ge 25, 3) := by decide +kernel
theorem dX12_records_17 : decode cX12_records 17 = .ok (.aload_n 0, 1) := by decide +kernel
theorem dX12_records_18 : decode cX12_records 18 = .ok (.getfield 13, 3) := by decide +kernel
theorem dX12_records_21 : decode cX12_records 21 = .ok (.iload_n 1, 1) := by decide +kernel
theorem dX12_records_22 : decode cX12_records 22 = .ok (.aload_n 0, 1) := by decide +kernel
theorem dX12_records_23 : decode cX12_records 23 = .ok (.getfield 13, 3) := by decide +kernel
theorem dX12_records_26 : decode cX12_records 26 = .ok (.iload_n 1, 1) := by decide +kernel
theorem dX12_records_27 : decode cX12_records 27 = .ok (.sipush 244, 3) := by decide +kernel
theorem dX12_records_30 : decode cX12_records 30 = .ok (.iadd, 1) := by decide +kernel
theorem dX12_records_31 : decode cX12_records 31 = .ok (.iaload, 1) := by decide +kernel
theorem dX12_records_32 : decode cX12_records 32 = .ok (.iastore, 1) := by decide +kernel
theorem dX12_records_33 : decode cX12_records 33 = .ok (.iinc 1 1, 3) := by decide +kernel
theorem dX12_records_36 : decode cX12_records 36 = .ok (.goto (-26), 3) := by decide +kernel
theorem dX12_records_39 : decode cX12_records 39 = .ok (.aload_n 0, 1) := by decide +kernel
theorem dX12_records_40 : decode cX12_records 40 = .ok (.dup, 1) := by decide +kernel
theorem dX12_records_41 : decode cX12_records 41 = .ok (.getfield 29, 3) := by decide +kernel
theorem dX12_records_44 : decode cX12_records 44 = .ok (.iconst 1, 1) := by decide +kernel
theorem dX12_records_45 : decode cX12_records 45 = .ok (.isub, 1) := by decide +kernel
theorem dX12_records_46 : decode cX12_records 46 = .ok (.putfield 29, 3) := by decide +kernel
theorem dX12_records_49 : decode cX12_records 49 = .ok (.iconst 0, 1) := by decide +kernel
theorem dX12_records_50 : decode cX12_records 50 = .ok (.istore_n 1, 1) := by decide +kernel
theorem dX12_records_51 : decode cX12_records 51 = .ok (.iload_n 1, 1) := by decide +kernel
theorem dX12_records_52 : decode cX12_records 52 = .ok (.sipush 244, 3) := by decide +kernel
theorem dX12_records_55 : decode cX12_records 55 = .ok (.if_icmp .ge 30, 3) := by decide +kernel
theorem dX12_records_58 : decode cX12_records 58 = .ok (.aload_n 0, 1) := by decide +kernel
theorem dX12_records_59 : decode cX12_records 59 = .ok (.getfield 13, 3) := by decide +kernel
theorem dX12_records_62 : decode cX12_records 62 = .ok (.sipush 244, 3) := by decide +kernel
theorem dX12_records_65 : decode cX12_records 65 = .ok (.aload_n 0, 1) := by decide +kernel
theorem dX12_records_66 : decode cX12_records 66 = .ok (.getfield 29, 3) := by decide +kernel
theorem dX12_records_69 : decode cX12_records 69 = .ok (.imul, 1) := by decide +kernel
theorem dX12_records_70 : decode cX12_records 70 = .ok (.iload_n 1, 1) := by decide +kernel
theorem dX12_records_71 : decode cX12_records 71 = .ok (.iadd, 1) := by decide +kernel
theorem dX12_records_72 : decode cX12_records 72 = .ok (.aload_n 0, 1) := by decide +kernel
theorem dX12_records_73 : decode cX12_records 73 = .ok (.getfield 7, 3) := by decide +kernel
