theorem dX12_records_76 : decode cX12_records 76 = .ok (.iload_n 1, 1) := by decide +kernel
theorem dX12_records_77 : decode cX12_records 77 = .ok (.iaload, 1) := by decide +kernel
theorem dX12_records_78 : decode cX12_records 78 = .ok (.iastore, 1) := by decide +kernel
theorem dX12_records_79 : decode cX12_records 79 = .ok (.iinc 1 1, 3) := by decide +kernel
theorem dX12_records_82 : decode cX12_records 82 = .ok (.goto (-31), 3) := by decide +kernel
theorem dX12_records_85 : decode cX12_records 85 = .ok (.aload_n 0, 1) := by decide +kernel
theorem dX12_records_86 : decode cX12_records 86 = .ok (.dup, 1) := by decide +kernel
theorem dX12_records_87 : decode cX12_records 87 = .ok (.getfield 29, 3) := by decide +kernel
theorem dX12_records_90 : decode cX12_records 90 = .ok (.iconst 1, 1) := by decide +kernel
theorem dX12_records_91 : decode cX12_records 91 = .ok (.iadd, 1) := by decide +kernel
theorem dX12_records_92 : decode cX12_records 92 = .ok (.putfield 29, 3) := by decide +kernel
theorem dX12_records_95 : decode cX12_records 95 = .ok (.return_, 1) := by decide +kernel
theorem dX12_keeps_0 : decode cX12_keeps 0 = .ok (.iconst 0, 1) := by decide +kernel
theorem dX12_keeps_1 : decode cX12_keeps 1 = .ok (.istore_n 1, 1) := by decide +kernel
theorem dX12_keeps_2 : decode cX12_keeps 2 = .ok (.iload_n 1, 1) := by decide +kernel
theorem dX12_keeps_3 : decode cX12_keeps 3 = .ok (.sipush 244, 3) := by decide +kernel
theorem dX12_keeps_6 : decode cX12_keeps 6 = .ok (.if_icmp .ge 21, 3) := by decide +kernel
theorem dX12_keeps_9 : decode cX12_keeps 9 = .ok (.aload_n 0, 1) := by decide +kernel
theorem dX12_keeps_10 : decode cX12_keeps 10 = .ok (.getfield 16, 3) := by decide +kernel
theorem dX12_keeps_13 : decode cX12_keeps 13 = .ok (.iload_n 1, 1) := by decide +kernel
theorem dX12_keeps_14 : decode cX12_keeps 14 = .ok (.aload_n 0, 1) := by decide +kernel
theorem dX12_keeps_15 : decode cX12_keeps 15 = .ok (.getfield 7, 3) := by decide +kernel
theorem dX12_keeps_18 : decode cX12_keeps 18 = .ok (.iload_n 1, 1) := by decide +kernel
theorem dX12_keeps_19 : decode cX12_keeps 19 = .ok (.iaload, 1) := by decide +kernel
theorem dX12_keeps_20 : decode cX12_keeps 20 = .ok (.iastore, 1) := by decide +kernel
theorem dX12_keeps_21 : decode cX12_keeps 21 = .ok (.iinc 1 1, 3) := by decide +kernel
theorem dX12_keeps_24 : decode cX12_keeps 24 = .ok (.goto (-22), 3) := by decide +kernel
theorem dX12_keeps_27 : decode cX12_keeps 27 = .ok (.return_, 1) := by decide +kernel
theorem dX12_restores_0 : decode cX12_restores 0 = .ok (.iconst 0, 1) := by decide +kernel
theorem dX12_restores_1 : decode cX12_restores 1 = .ok (.istore_n 1, 1) := by decide +kernel
theorem dX12_restores_2 : decode cX12_restores 2 = .ok (.iload_n 1, 1) := by decide +kernel
theorem dX12_restores_3 : decode cX12_restores 3 = .ok (.sipush 244, 3) := by decide +kernel
theorem dX12_restores_6 : decode cX12_restores 6 = .ok (.if_icmp .ge 21, 3) := by decide +kernel
theorem dX12_restores_9 : decode cX12_restores 9 = .ok (.aload_n 0, 1) := by decide +kernel
theorem dX12_restores_10 : decode cX12_restores 10 = .ok (.getfield 7, 3) := by decide +kernel
theorem dX12_restores_13 : decode cX12_restores 13 = .ok (.iload_n 1, 1) := by decide +kernel
theorem dX12_restores_14 : decode cX12_restores 14 = .ok (.aload_n 0, 1) := by decide +kernel
theorem dX12_restores_15 : decode cX12_restores 15 = .ok (.getfield 16, 3) := by decide +kernel
theorem dX12_restores_18 : decode cX12_restores 18 = .ok (.iload_n 1, 1) := by decide +kernel
theorem dX12_restores_19 : decode cX12_restores 19 = .ok (.iaload, 1) := by decide +kernel
theorem dX12_restores_20 : decode cX12_restores 20 = .ok (.iastore, 1) := by decide +kernel
theorem dX12_restores_21 : decode cX12_restores 21 = .ok (.iinc 1 1, 3) := by decide +kernel
theorem dX12_restores_24 : decode cX12_restores 24 = .ok (.goto (-22), 3) := by decide +kernel
theorem dX12_restores_27 : decode cX12_restores 27 = .ok (.return_, 1) := by decide +kernel
theorem dX12_rain_0 : decode cX12_rain 0 = .ok (.iconst 0, 1) := by decide +kernel
theorem dX12_rain_1 : decode cX12_rain 1 = .ok (.istore_n 1, 1) := by decide +kernel
theorem dX12_rain_2 : decode cX12_rain 2 = .ok (.iconst 0, 1) := by decide +kernel
theorem dX12_rain_3 : decode cX12_rain 3 = .ok (.istore_n 2, 1) := by decide +kernel
theorem dX12_rain_4 : decode cX12_rain 4 = .ok (.iload_n 2, 1) := by decide +kernel
theorem dX12_rain_5 : decode cX12_rain 5 = .ok (.aload_n 0, 1) := by decide +kernel
theorem dX12_rain_6 : decode cX12_rain 6 = .ok (.getfield 7, 3) := by decide +kernel
theorem dX12_rain_9 : decode cX12_rain 9 = .ok (.bipush 26, 2) := by decide +kernel
theorem dX12_rain_11 : decode cX12_rain 11 = .ok (.iaload, 1) := by decide +kernel
theorem dX12_rain_12 : decode cX12_rain 12 = .ok (.if_icmp .ge 67, 3) := by decide +kernel
theorem dX12_rain_15 : decode cX12_rain 15 = .ok (.iload_n 1, 1) := by decide +kernel
theorem dX12_rain_16 : decode cX12_rain 16 = .ok (.aload_n 0, 1) := by decide +kernel
theorem dX12_rain_17 : decode cX12_rain 17 = .ok (.getfield 7, 3) := by decide +kernel
theorem dX12_rain_20 : decode cX12_rain 20 = .ok (.iconst 0, 1) := by decide +kernel
theorem dX12_rain_21 : decode cX12_rain 21 = .ok (.iaload, 1) := by decide +kernel
theorem dX12_rain_22 : decode cX12_rain 22 = .ok (.aload_n 0, 1) := by decide +kernel
theorem dX12_rain_23 : decode cX12_rain 23 = .ok (.getfield 7, 3) := by decide +kernel
theorem dX12_rain_26 : decode cX12_rain 26 = .ok (.bipush 27, 2) := by decide +kernel
theorem dX12_rain_28 : decode cX12_rain 28 = .ok (.iload_n 2, 1) := by decide +kernel
theorem dX12_rain_29 : decode cX12_rain 29 = .ok (.iadd, 1) := by decide +kernel
theorem dX12_rain_30 : decode cX12_rain 30 = .ok (.iaload, 1) := by decide +kernel
theorem dX12_rain_31 : decode cX12_rain 31 = .ok (.aload_n 0, 1) := by decide +kernel
theorem dX12_rain_32 : decode cX12_rain 32 = .ok (.getfield 7, 3) := by decide +kernel
theorem dX12_rain_35 : decode cX12_rain 35 = .ok (.bipush 27, 2) := by decide +kernel
theorem dX12_rain_37 : decode cX12_rain 37 = .ok (.iload_n 2, 1) := by decide +kernel
theorem dX12_rain_38 : decode cX12_rain 38 = .ok (.iadd, 1) := by decide +kernel
theorem dX12_rain_39 : decode cX12_rain 39 = .ok (.iaload, 1) := by decide +kernel
theorem dX12_rain_40 : decode cX12_rain 40 = .ok (.aload_n 0, 1) := by decide +kernel
theorem dX12_rain_41 : decode cX12_rain 41 = .ok (.getfield 7, 3) := by decide +kernel
theorem dX12_rain_44 : decode cX12_rain 44 = .ok (.bipush 39, 2) := by decide +kernel
theorem dX12_rain_46 : decode cX12_rain 46 = .ok (.iload_n 2, 1) := by decide +kernel
theorem dX12_rain_47 : decode cX12_rain 47 = .ok (.iadd, 1) := by decide +kernel
theorem dX12_rain_48 : decode cX12_rain 48 = .ok (.iaload, 1) := by decide +kernel
theorem dX12_rain_49 : decode cX12_rain 49 = .ok (.iadd, 1) := by decide +kernel
theorem dX12_rain_50 : decode cX12_rain 50 = .ok (.iconst 1, 1) := by decide +kernel
theorem dX12_rain_51 : decode cX12_rain 51 = .ok (.isub, 1) := by decide +kernel
theorem dX12_rain_52 : decode cX12_rain 52 = .ok (.invokestatic 33, 3) := by decide +kernel
theorem dX12_rain_55 : decode cX12_rain 55 = .ok (.ifCond .eq 15, 3) := by decide +kernel
theorem dX12_rain_58 : decode cX12_rain 58 = .ok (.aload_n 0, 1) := by decide +kernel
theorem dX12_rain_59 : decode cX12_rain 59 = .ok (.getfield 7, 3) := by decide +kernel
theorem dX12_rain_62 : decode cX12_rain 62 = .ok (.bipush 51, 2) := by decide +kernel
theorem dX12_rain_64 : decode cX12_rain 64 = .ok (.iload_n 2, 1) := by decide +kernel
theorem dX12_rain_65 : decode cX12_rain 65 = .ok (.iadd, 1) := by decide +kernel
theorem dX12_rain_66 : decode cX12_rain 66 = .ok (.iaload, 1) := by decide +kernel
theorem dX12_rain_67 : decode cX12_rain 67 = .ok (.goto 4, 3) := by decide +kernel
theorem dX12_rain_70 : decode cX12_rain 70 = .ok (.iconst 0, 1) := by decide +kernel
theorem dX12_rain_71 : decode cX12_rain 71 = .ok (.iadd, 1) := by decide +kernel
theorem dX12_rain_72 : decode cX12_rain 72 = .ok (.istore_n 1, 1) := by decide +kernel
theorem dX12_rain_73 : decode cX12_rain 73 = .ok (.iinc 2 1, 3) := by decide +kernel
theorem dX12_rain_76 : decode cX12_rain 76 = .ok (.goto (-72), 3) := by decide +kernel
theorem dX12_rain_79 : decode cX12_rain 79 = .ok (.iload_n 1, 1) := by decide +kernel
theorem dX12_rain_80 : decode cX12_rain 80 = .ok (.ireturn, 1) := by decide +kernel
theorem dX12_place_0 : decode cX12_place 0 = .ok (.aload_n 0, 1) := by decide +kernel
theorem dX12_place_1 : decode cX12_place 1 = .ok (.getfield 7, 3) := by decide +kernel
theorem dX12_place_4 : decode cX12_place 4 = .ok (.iconst 5, 1) := by decide +kernel
theorem dX12_place_5 : decode cX12_place 5 = .ok (.iaload, 1) := by decide +kernel
theorem dX12_place_6 : decode cX12_place 6 = .ok (.i2l, 1) := by decide +kernel
theorem dX12_place_7 : decode cX12_place 7 = .ok (.lstore_n 1, 1) := by decide +kernel
theorem dX12_place_8 : decode cX12_place 8 = .ok (.lconst 1, 1) := by decide +kernel
theorem dX12_place_9 : decode cX12_place 9 = .ok (.lstore_n 3, 1) := by decide +kernel
theorem dX12_place_10 : decode cX12_place 10 = .ok (.iconst 0, 1) := by decide +kernel
theorem dX12_place_11 : decode cX12_place 11 = .ok (.istore 5, 2) := by decide +kernel
theorem dX12_place_13 : decode cX12_place 13 = .ok (.iload 5, 2) := by decide +kernel
theorem dX12_place_15 : decode cX12_place 15 = .ok (.aload_n 0, 1) := by decide +kernel
theorem dX12_place_16 : decode cX12_place 16 = .ok (.getfield 7, 3) := by decide +kernel
theorem dX12_place_19 : decode cX12_place 19 = .ok (.bipush 19, 2) := by decide +kernel
theorem dX12_place_21 : decode cX12_place 21 = .ok (.iaload, 1) := by decide +kernel
theorem dX12_place_22 : decode cX12_place 22 = .ok (.if_icmp .ge 43, 3) := by decide +kernel
theorem dX12_place_25 : decode cX12_place 25 = .ok (.lload_n 1, 1) := by decide +kernel
theorem dX12_place_26 : decode cX12_place 26 = .ok (.aload_n 0, 1) := by decide +kernel
theorem dX12_place_27 : decode cX12_place 27 = .ok (.getfield 7, 3) := by decide +kernel
theorem dX12_place_30 : decode cX12_place 30 = .ok (.bipush 20, 2) := by decide +kernel
theorem dX12_place_32 : decode cX12_place 32 = .ok (.iconst 2, 1) := by decide +kernel
theorem dX12_place_33 : decode cX12_place 33 = .ok (.iload 5, 2) := by decide +kernel
theorem dX12_place_35 : decode cX12_place 35 = .ok (.imul, 1) := by decide +kernel
theorem dX12_place_36 : decode cX12_place 36 = .ok (.iadd, 1) := by decide +kernel
theorem dX12_place_37 : decode cX12_place 37 = .ok (.iaload, 1) := by decide +kernel
theorem dX12_place_38 : decode cX12_place 38 = .ok (.i2l, 1) := by decide +kernel
theorem dX12_place_39 : decode cX12_place 39 = .ok (.lmul, 1) := by decide +kernel
theorem dX12_place_40 : decode cX12_place 40 = .ok (.lstore_n 1, 1) := by decide +kernel
theorem dX12_place_41 : decode cX12_place 41 = .ok (.lload_n 3, 1) := by decide +kernel
theorem dX12_place_42 : decode cX12_place 42 = .ok (.aload_n 0, 1) := by decide +kernel
theorem dX12_place_43 : decode cX12_place 43 = .ok (.getfield 7, 3) := by decide +kernel
theorem dX12_place_46 : decode cX12_place 46 = .ok (.bipush 20, 2) := by decide +kernel
theorem dX12_place_48 : decode cX12_place 48 = .ok (.iconst 2, 1) := by decide +kernel
theorem dX12_place_49 : decode cX12_place 49 = .ok (.iload 5, 2) := by decide +kernel
theorem dX12_place_51 : decode cX12_place 51 = .ok (.imul, 1) := by decide +kernel
theorem dX12_place_52 : decode cX12_place 52 = .ok (.iadd, 1) := by decide +kernel
theorem dX12_place_53 : decode cX12_place 53 = .ok (.iconst 1, 1) := by decide +kernel
theorem dX12_place_54 : decode cX12_place 54 = .ok (.iadd, 1) := by decide +kernel
theorem dX12_place_55 : decode cX12_place 55 = .ok (.iaload, 1) := by decide +kernel
theorem dX12_place_56 : decode cX12_place 56 = .ok (.i2l, 1) := by decide +kernel
theorem dX12_place_57 : decode cX12_place 57 = .ok (.lmul, 1) := by decide +kernel
theorem dX12_place_58 : decode cX12_place 58 = .ok (.lstore_n 3, 1) := by decide +kernel
theorem dX12_place_59 : decode cX12_place 59 = .ok (.iinc 5 1, 3) := by decide +kernel
theorem dX12_place_62 : decode cX12_place 62 = .ok (.goto (-49), 3) := by decide +kernel
theorem dX12_place_65 : decode cX12_place 65 = .ok (.lload_n 1, 1) := by decide +kernel
theorem dX12_place_66 : decode cX12_place 66 = .ok (.lload_n 3, 1) := by decide +kernel
theorem dX12_place_67 : decode cX12_place 67 = .ok (.ldiv, 1) := by decide +kernel
theorem dX12_place_68 : decode cX12_place 68 = .ok (.aload_n 0, 1) := by decide +kernel
theorem dX12_place_69 : decode cX12_place 69 = .ok (.getfield 7, 3) := by decide +kernel
theorem dX12_place_72 : decode cX12_place 72 = .ok (.bipush 16, 2) := by decide +kernel
theorem dX12_place_74 : decode cX12_place 74 = .ok (.iaload, 1) := by decide +kernel
theorem dX12_place_75 : decode cX12_place 75 = .ok (.i2l, 1) := by decide +kernel
theorem dX12_place_76 : decode cX12_place 76 = .ok (.lrem, 1) := by decide +kernel
theorem dX12_place_77 : decode cX12_place 77 = .ok (.l2i, 1) := by decide +kernel
theorem dX12_place_78 : decode cX12_place 78 = .ok (.ireturn, 1) := by decide +kernel
theorem dX12_dropsShower_0 : decode cX12_dropsShower 0 = .ok (.aload_n 0, 1) := by decide +kernel
theorem dX12_dropsShower_1 : decode cX12_dropsShower 1 = .ok (.getfield 7, 3) := by decide +kernel
theorem dX12_dropsShower_4 : decode cX12_dropsShower 4 = .ok (.bipush 26, 2) := by decide +kernel
theorem dX12_dropsShower_6 : decode cX12_dropsShower 6 = .ok (.dup2, 1) := by decide +kernel
theorem dX12_dropsShower_7 : decode cX12_dropsShower 7 = .ok (.iaload, 1) := by decide +kernel
theorem dX12_dropsShower_8 : decode cX12_dropsShower 8 = .ok (.iconst 1, 1) := by decide +kernel
theorem dX12_dropsShower_9 : decode cX12_dropsShower 9 = .ok (.isub, 1) := by decide +kernel
theorem dX12_dropsShower_10 : decode cX12_dropsShower 10 = .ok (.iastore, 1) := by decide +kernel
theorem dX12_dropsShower_11 : decode cX12_dropsShower 11 = .ok (.iload_n 1, 1) := by decide +kernel
theorem dX12_dropsShower_12 : decode cX12_dropsShower 12 = .ok (.istore_n 2, 1) := by decide +kernel
theorem dX12_dropsShower_13 : decode cX12_dropsShower 13 = .ok (.iload_n 2, 1) := by decide +kernel
theorem dX12_dropsShower_14 : decode cX12_dropsShower 14 = .ok (.aload_n 0, 1) := by decide +kernel
theorem dX12_dropsShower_15 : decode cX12_dropsShower 15 = .ok (.getfield 7, 3) := by decide +kernel
theorem dX12_dropsShower_18 : decode cX12_dropsShower 18 = .ok (.bipush 26, 2) := by decide +kernel
theorem dX12_dropsShower_20 : decode cX12_dropsShower 20 = .ok (.iaload, 1) := by decide +kernel
theorem dX12_dropsShower_21 : decode cX12_dropsShower 21 = .ok (.if_icmp .ge 42, 3) := by decide +kernel
theorem dX12_dropsShower_24 : decode cX12_dropsShower 24 = .ok (.bipush 27, 2) := by decide +kernel
theorem dX12_dropsShower_26 : decode cX12_dropsShower 26 = .ok (.istore_n 3, 1) := by decide +kernel
theorem dX12_dropsShower_27 : decode cX12_dropsShower 27 = .ok (.iload_n 3, 1) := by decide +kernel
theorem dX12_dropsShower_28 : decode cX12_dropsShower 28 = .ok (.bipush 51, 2) := by decide +kernel
theorem dX12_dropsShower_30 : decode cX12_dropsShower 30 = .ok (.if_icmp .gt 27, 3) := by decide +kernel
theorem dX12_dropsShower_33 : decode cX12_dropsShower 33 = .ok (.aload_n 0, 1) := by decide +kernel
theorem dX12_dropsShower_34 : decode cX12_dropsShower 34 = .ok (.getfield 7, 3) := by decide +kernel
theorem dX12_dropsShower_37 : decode cX12_dropsShower 37 = .ok (.iload_n 3, 1) := by decide +kernel
theorem dX12_dropsShower_38 : decode cX12_dropsShower 38 = .ok (.iload_n 2, 1) := by decide +kernel
theorem dX12_dropsShower_39 : decode cX12_dropsShower 39 = .ok (.iadd, 1) := by decide +kernel
theorem dX12_dropsShower_40 : decode cX12_dropsShower 40 = .ok (.aload_n 0, 1) := by decide +kernel
theorem dX12_dropsShower_41 : decode cX12_dropsShower 41 = .ok (.getfield 7, 3) := by decide +kernel
theorem dX12_dropsShower_44 : decode cX12_dropsShower 44 = .ok (.iload_n 3, 1) := by decide +kernel
theorem dX12_dropsShower_45 : decode cX12_dropsShower 45 = .ok (.iload_n 2, 1) := by decide +kernel
theorem dX12_dropsShower_46 : decode cX12_dropsShower 46 = .ok (.iadd, 1) := by decide +kernel
theorem dX12_dropsShower_47 : decode cX12_dropsShower 47 = .ok (.iconst 1, 1) := by decide +kernel
theorem dX12_dropsShower_48 : decode cX12_dropsShower 48 = .ok (.iadd, 1) := by decide +kernel
theorem dX12_dropsShower_49 : decode cX12_dropsShower 49 = .ok (.iaload, 1) := by decide +kernel
theorem dX12_dropsShower_50 : decode cX12_dropsShower 50 = .ok (.iastore, 1) := by decide +kernel
theorem dX12_dropsShower_51 : decode cX12_dropsShower 51 = .ok (.iinc 3 12, 3) := by decide +kernel
theorem dX12_dropsShower_54 : decode cX12_dropsShower 54 = .ok (.goto (-27), 3) := by decide +kernel
theorem dX12_dropsShower_57 : decode cX12_dropsShower 57 = .ok (.iinc 2 1, 3) := by decide +kernel
theorem dX12_dropsShower_60 : decode cX12_dropsShower 60 = .ok (.goto (-47), 3) := by decide +kernel
theorem dX12_dropsShower_63 : decode cX12_dropsShower 63 = .ok (.return_, 1) := by decide +kernel
theorem dX12_marks_0 : decode cX12_marks 0 = .ok (.aload_n 0, 1) := by decide +kernel
theorem dX12_marks_1 : decode cX12_marks 1 = .ok (.getfield 7, 3) := by decide +kernel
theorem dX12_marks_4 : decode cX12_marks 4 = .ok (.bipush 63, 2) := by decide +kernel
theorem dX12_marks_6 : decode cX12_marks 6 = .ok (.iaload, 1) := by decide +kernel
theorem dX12_marks_7 : decode cX12_marks 7 = .ok (.bipush 60, 2) := by decide +kernel
theorem dX12_marks_9 : decode cX12_marks 9 = .ok (.if_icmp .ne 62, 3) := by decide +kernel
theorem dX12_marks_12 : decode cX12_marks 12 = .ok (.iconst 0, 1) := by decide +kernel
theorem dX12_marks_13 : decode cX12_marks 13 = .ok (.istore_n 2, 1) := by decide +kernel
theorem dX12_marks_14 : decode cX12_marks 14 = .ok (.iload_n 2, 1) := by decide +kernel
theorem dX12_marks_15 : decode cX12_marks 15 = .ok (.bipush 59, 2) := by decide +kernel
theorem dX12_marks_17 : decode cX12_marks 17 = .ok (.if_icmp .ge 43, 3) := by decide +kernel
theorem dX12_marks_20 : decode cX12_marks 20 = .ok (.bipush 64, 2) := by decide +kernel
theorem dX12_marks_22 : decode cX12_marks 22 = .ok (.istore_n 3, 1) := by decide +kernel
theorem dX12_marks_23 : decode cX12_marks 23 = .ok (.iload_n 3, 1) := by decide +kernel
theorem dX12_marks_24 : decode cX12_marks 24 = .ok (.sipush 184, 3) := by decide +kernel
theorem dX12_marks_27 : decode cX12_marks 27 = .ok (.if_icmp .gt 27, 3) := by decide +kernel
theorem dX12_marks_30 : decode cX12_marks 30 = .ok (.aload_n 0, 1) := by decide +kernel
theorem dX12_marks_31 : decode cX12_marks 31 = .ok (.getfield 7, 3) := by decide +kernel
theorem dX12_marks_34 : decode cX12_marks 34 = .ok (.iload_n 3, 1) := by decide +kernel
theorem dX12_marks_35 : decode cX12_marks 35 = .ok (.iload_n 2, 1) := by decide +kernel
theorem dX12_marks_36 : decode cX12_marks 36 = .ok (.iadd, 1) := by decide +kernel
theorem dX12_marks_37 : decode cX12_marks 37 = .ok (.aload_n 0, 1) := by decide +kernel
theorem dX12_marks_38 : decode cX12_marks 38 = .ok (.getfield 7, 3) := by decide +kernel
theorem dX12_marks_41 : decode cX12_marks 41 = .ok (.iload_n 3, 1) := by decide +kernel
theorem dX12_marks_42 : decode cX12_marks 42 = .ok (.iload_n 2, 1) := by decide +kernel
theorem dX12_marks_43 : decode cX12_marks 43 = .ok (.iadd, 1) := by decide +kernel
theorem dX12_marks_44 : decode cX12_marks 44 = .ok (.iconst 1, 1) := by decide +kernel
theorem dX12_marks_45 : decode cX12_marks 45 = .ok (.iadd, 1) := by decide +kernel
theorem dX12_marks_46 : decode cX12_marks 46 = .ok (.iaload, 1) := by decide +kernel
theorem dX12_marks_47 : decode cX12_marks 47 = .ok (.iastore, 1) := by decide +kernel
theorem dX12_marks_48 : decode cX12_marks 48 = .ok (.iinc 3 60, 3) := by decide +kernel
theorem dX12_marks_51 : decode cX12_marks 51 = .ok (.goto (-28), 3) := by decide +kernel
theorem dX12_marks_54 : decode cX12_marks 54 = .ok (.iinc 2 1, 3) := by decide +kernel
theorem dX12_marks_57 : decode cX12_marks 57 = .ok (.goto (-43), 3) := by decide +kernel
theorem dX12_marks_60 : decode cX12_marks 60 = .ok (.aload_n 0, 1) := by decide +kernel
theorem dX12_marks_61 : decode cX12_marks 61 = .ok (.getfield 7, 3) := by decide +kernel
theorem dX12_marks_64 : decode cX12_marks 64 = .ok (.bipush 63, 2) := by decide +kernel
theorem dX12_marks_66 : decode cX12_marks 66 = .ok (.dup2, 1) := by decide +kernel
theorem dX12_marks_67 : decode cX12_marks 67 = .ok (.iaload, 1) := by decide +kernel
theorem dX12_marks_68 : decode cX12_marks 68 = .ok (.iconst 1, 1) := by decide +kernel
theorem dX12_marks_69 : decode cX12_marks 69 = .ok (.isub, 1) := by decide +kernel
theorem dX12_marks_70 : decode cX12_marks 70 = .ok (.iastore, 1) := by decide +kernel
theorem dX12_marks_71 : decode cX12_marks 71 = .ok (.aload_n 0, 1) := by decide +kernel
theorem dX12_marks_72 : decode cX12_marks 72 = .ok (.getfield 7, 3) := by decide +kernel
theorem dX12_marks_75 : decode cX12_marks 75 = .ok (.bipush 64, 2) := by decide +kernel
theorem dX12_marks_77 : decode cX12_marks 77 = .ok (.aload_n 0, 1) := by decide +kernel
theorem dX12_marks_78 : decode cX12_marks 78 = .ok (.getfield 7, 3) := by decide +kernel
theorem dX12_marks_81 : decode cX12_marks 81 = .ok (.bipush 63, 2) := by decide +kernel
theorem dX12_marks_83 : decode cX12_marks 83 = .ok (.iaload, 1) := by decide +kernel
theorem dX12_marks_84 : decode cX12_marks 84 = .ok (.iadd, 1) := by decide +kernel
theorem dX12_marks_85 : decode cX12_marks 85 = .ok (.aload_n 0, 1) := by decide +kernel
theorem dX12_marks_86 : decode cX12_marks 86 = .ok (.getfield 7, 3) := by decide +kernel
theorem dX12_marks_89 : decode cX12_marks 89 = .ok (.iconst 0, 1) := by decide +kernel
theorem dX12_marks_90 : decode cX12_marks 90 = .ok (.iaload, 1) := by decide +kernel
theorem dX12_marks_91 : decode cX12_marks 91 = .ok (.iastore, 1) := by decide +kernel
theorem dX12_marks_92 : decode cX12_marks 92 = .ok (.aload_n 0, 1) := by decide +kernel
theorem dX12_marks_93 : decode cX12_marks 93 = .ok (.getfield 7, 3) := by decide +kernel
theorem dX12_marks_96 : decode cX12_marks 96 = .ok (.bipush 124, 2) := by decide +kernel
theorem dX12_marks_98 : decode cX12_marks 98 = .ok (.aload_n 0, 1) := by decide +kernel
theorem dX12_marks_99 : decode cX12_marks 99 = .ok (.getfield 7, 3) := by decide +kernel
theorem dX12_marks_102 : decode cX12_marks 102 = .ok (.bipush 63, 2) := by decide +kernel
theorem dX12_marks_104 : decode cX12_marks 104 = .ok (.iaload, 1) := by decide +kernel
theorem dX12_marks_105 : decode cX12_marks 105 = .ok (.iadd, 1) := by decide +kernel
theorem dX12_marks_106 : decode cX12_marks 106 = .ok (.aload_n 0, 1) := by decide +kernel
theorem dX12_marks_107 : decode cX12_marks 107 = .ok (.invokevirtual 37, 3) := by decide +kernel
theorem dX12_marks_110 : decode cX12_marks 110 = .ok (.iastore, 1) := by decide +kernel
theorem dX12_marks_111 : decode cX12_marks 111 = .ok (.aload_n 0, 1) := by decide +kernel
theorem dX12_marks_112 : decode cX12_marks 112 = .ok (.getfield 7, 3) := by decide +kernel
theorem dX12_marks_115 : decode cX12_marks 115 = .ok (.sipush 184, 3) := by decide +kernel
theorem dX12_marks_118 : decode cX12_marks 118 = .ok (.aload_n 0, 1) := by decide +kernel
theorem dX12_marks_119 : decode cX12_marks 119 = .ok (.getfield 7, 3) := by decide +kernel
theorem dX12_marks_122 : decode cX12_marks 122 = .ok (.bipush 63, 2) := by decide +kernel
theorem dX12_marks_124 : decode cX12_marks 124 = .ok (.iaload, 1) := by decide +kernel
theorem dX12_marks_125 : decode cX12_marks 125 = .ok (.iadd, 1) := by decide +kernel
theorem dX12_marks_126 : decode cX12_marks 126 = .ok (.iload_n 1, 1) := by decide +kernel
theorem dX12_marks_127 : decode cX12_marks 127 = .ok (.iastore, 1) := by decide +kernel
theorem dX12_marks_128 : decode cX12_marks 128 = .ok (.aload_n 0, 1) := by decide +kernel
theorem dX12_marks_129 : decode cX12_marks 129 = .ok (.getfield 7, 3) := by decide +kernel
theorem dX12_marks_132 : decode cX12_marks 132 = .ok (.bipush 63, 2) := by decide +kernel
theorem dX12_marks_134 : decode cX12_marks 134 = .ok (.dup2, 1) := by decide +kernel
theorem dX12_marks_135 : decode cX12_marks 135 = .ok (.iaload, 1) := by decide +kernel
theorem dX12_marks_136 : decode cX12_marks 136 = .ok (.iconst 1, 1) := by decide +kernel
theorem dX12_marks_137 : decode cX12_marks 137 = .ok (.iadd, 1) := by decide +kernel
theorem dX12_marks_138 : decode cX12_marks 138 = .ok (.iastore, 1) := by decide +kernel
theorem dX12_marks_139 : decode cX12_marks 139 = .ok (.return_, 1) := by decide +kernel
theorem dX12_dries_0 : decode cX12_dries 0 = .ok (.aload_n 0, 1) := by decide +kernel
theorem dX12_dries_1 : decode cX12_dries 1 = .ok (.getfield 7, 3) := by decide +kernel
theorem dX12_dries_4 : decode cX12_dries 4 = .ok (.iload_n 1, 1) := by decide +kernel
theorem dX12_dries_5 : decode cX12_dries 5 = .ok (.iaload, 1) := by decide +kernel
theorem dX12_dries_6 : decode cX12_dries 6 = .ok (.iload_n 2, 1) := by decide +kernel
theorem dX12_dries_7 : decode cX12_dries 7 = .ok (.invokestatic 41, 3) := by decide +kernel
theorem dX12_dries_10 : decode cX12_dries 10 = .ok (.istore_n 3, 1) := by decide +kernel
theorem dX12_dries_11 : decode cX12_dries 11 = .ok (.aload_n 0, 1) := by decide +kernel
theorem dX12_dries_12 : decode cX12_dries 12 = .ok (.getfield 7, 3) := by decide +kernel
theorem dX12_dries_15 : decode cX12_dries 15 = .ok (.iload_n 1, 1) := by decide +kernel
theorem dX12_dries_16 : decode cX12_dries 16 = .ok (.dup2, 1) := by decide +kernel
theorem dX12_dries_17 : decode cX12_dries 17 = .ok (.iaload, 1) := by decide +kernel
theorem dX12_dries_18 : decode cX12_dries 18 = .ok (.iload_n 3, 1) := by decide +kernel
theorem dX12_dries_19 : decode cX12_dries 19 = .ok (.isub, 1) := by decide +kernel
theorem dX12_dries_20 : decode cX12_dries 20 = .ok (.iastore, 1) := by decide +kernel
theorem dX12_dries_21 : decode cX12_dries 21 = .ok (.aload_n 0, 1) := by decide +kernel
theorem dX12_dries_22 : decode cX12_dries 22 = .ok (.getfield 7, 3) := by decide +kernel
theorem dX12_dries_25 : decode cX12_dries 25 = .ok (.bipush 10, 2) := by decide +kernel
theorem dX12_dries_27 : decode cX12_dries 27 = .ok (.dup2, 1) := by decide +kernel
theorem dX12_dries_28 : decode cX12_dries 28 = .ok (.iaload, 1) := by decide +kernel
theorem dX12_dries_29 : decode cX12_dries 29 = .ok (.iload_n 3, 1) := by decide +kernel
theorem dX12_dries_30 : decode cX12_dries 30 = .ok (.iadd, 1) := by decide +kernel
theorem dX12_dries_31 : decode cX12_dries 31 = .ok (.iastore, 1) := by decide +kernel
theorem dX12_dries_32 : decode cX12_dries 32 = .ok (.return_, 1) := by decide +kernel
theorem dX12_ticks_0 : decode cX12_ticks 0 = .ok (.aload_n 0, 1) := by decide +kernel
theorem dX12_ticks_1 : decode cX12_ticks 1 = .ok (.getfield 7, 3) := by decide +kernel
theorem dX12_ticks_4 : decode cX12_ticks 4 = .ok (.iconst 3, 1) := by decide +kernel
theorem dX12_ticks_5 : decode cX12_ticks 5 = .ok (.iaload, 1) := by decide +kernel
theorem dX12_ticks_6 : decode cX12_ticks 6 = .ok (.ifCond .le 7, 3) := by decide +kernel
theorem dX12_ticks_9 : decode cX12_ticks 9 = .ok (.iconst 1, 1) := by decide +kernel
theorem dX12_ticks_10 : decode cX12_ticks 10 = .ok (.goto 4, 3) := by decide +kernel
theorem dX12_ticks_13 : decode cX12_ticks 13 = .ok (.iconst 0, 1) := by decide +kernel
theorem dX12_ticks_14 : decode cX12_ticks 14 = .ok (.istore_n 1, 1) := by decide +kernel
theorem dX12_ticks_15 : decode cX12_ticks 15 = .ok (.aload_n 0, 1) := by decide +kernel
theorem dX12_ticks_16 : decode cX12_ticks 16 = .ok (.invokevirtual 45, 3) := by decide +kernel
theorem dX12_ticks_19 : decode cX12_ticks 19 = .ok (.istore_n 2, 1) := by decide +kernel
theorem dX12_ticks_20 : decode cX12_ticks 20 = .ok (.aload_n 0, 1) := by decide +kernel
theorem dX12_ticks_21 : decode cX12_ticks 21 = .ok (.getfield 7, 3) := by decide +kernel
theorem dX12_ticks_24 : decode cX12_ticks 24 = .ok (.bipush 13, 2) := by decide +kernel
theorem dX12_ticks_26 : decode cX12_ticks 26 = .ok (.iaload, 1) := by decide +kernel
theorem dX12_ticks_27 : decode cX12_ticks 27 = .ok (.aload_n 0, 1) := by decide +kernel
theorem dX12_ticks_28 : decode cX12_ticks 28 = .ok (.getfield 7, 3) := by decide +kernel
theorem dX12_ticks_31 : decode cX12_ticks 31 = .ok (.iconst 1, 1) := by decide +kernel
theorem dX12_ticks_32 : decode cX12_ticks 32 = .ok (.iaload, 1) := by decide +kernel
theorem dX12_ticks_33 : decode cX12_ticks 33 = .ok (.isub, 1) := by decide +kernel
theorem dX12_ticks_34 : decode cX12_ticks 34 = .ok (.istore_n 3, 1) := by decide +kernel
theorem dX12_ticks_35 : decode cX12_ticks 35 = .ok (.iload_n 3, 1) := by decide +kernel
theorem dX12_ticks_36 : decode cX12_ticks 36 = .ok (.ifCond .le 11, 3) := by decide +kernel
theorem dX12_ticks_39 : decode cX12_ticks 39 = .ok (.iload_n 3, 1) := by decide +kernel
theorem dX12_ticks_40 : decode cX12_ticks 40 = .ok (.iload_n 2, 1) := by decide +kernel
theorem dX12_ticks_41 : decode cX12_ticks 41 = .ok (.invokestatic 41, 3) := by decide +kernel
theorem dX12_ticks_44 : decode cX12_ticks 44 = .ok (.goto 4, 3) := by decide +kernel
theorem dX12_ticks_47 : decode cX12_ticks 47 = .ok (.iconst 0, 1) := by decide +kernel
theorem dX12_ticks_48 : decode cX12_ticks 48 = .ok (.istore 4, 2) := by decide +kernel
theorem dX12_ticks_50 : decode cX12_ticks 50 = .ok (.aload_n 0, 1) := by decide +kernel
theorem dX12_ticks_51 : decode cX12_ticks 51 = .ok (.getfield 7, 3) := by decide +kernel
theorem dX12_ticks_54 : decode cX12_ticks 54 = .ok (.bipush 6, 2) := by decide +kernel
theorem dX12_ticks_56 : decode cX12_ticks 56 = .ok (.dup2, 1) := by decide +kernel
theorem dX12_ticks_57 : decode cX12_ticks 57 = .ok (.iaload, 1) := by decide +kernel
theorem dX12_ticks_58 : decode cX12_ticks 58 = .ok (.iload_n 2, 1) := by decide +kernel
theorem dX12_ticks_59 : decode cX12_ticks 59 = .ok (.iadd, 1) := by decide +kernel
theorem dX12_ticks_60 : decode cX12_ticks 60 = .ok (.iastore, 1) := by decide +kernel
theorem dX12_ticks_61 : decode cX12_ticks 61 = .ok (.aload_n 0, 1) := by decide +kernel
theorem dX12_ticks_62 : decode cX12_ticks 62 = .ok (.getfield 7, 3) := by decide +kernel
theorem dX12_ticks_65 : decode cX12_ticks 65 = .ok (.iconst 1, 1) := by decide +kernel
theorem dX12_ticks_66 : decode cX12_ticks 66 = .ok (.dup2, 1) := by decide +kernel
theorem dX12_ticks_67 : decode cX12_ticks 67 = .ok (.iaload, 1) := by decide +kernel
theorem dX12_ticks_68 : decode cX12_ticks 68 = .ok (.iload 4, 2) := by decide +kernel
theorem dX12_ticks_70 : decode cX12_ticks 70 = .ok (.iadd, 1) := by decide +kernel
theorem dX12_ticks_71 : decode cX12_ticks 71 = .ok (.iastore, 1) := by decide +kernel
theorem dX12_ticks_72 : decode cX12_ticks 72 = .ok (.aload_n 0, 1) := by decide +kernel
theorem dX12_ticks_73 : decode cX12_ticks 73 = .ok (.getfield 7, 3) := by decide +kernel
theorem dX12_ticks_76 : decode cX12_ticks 76 = .ok (.iload_n 1, 1) := by decide +kernel
theorem dX12_ticks_77 : decode cX12_ticks 77 = .ok (.ifCond .eq 8, 3) := by decide +kernel
theorem dX12_ticks_80 : decode cX12_ticks 80 = .ok (.bipush 9, 2) := by decide +kernel
theorem dX12_ticks_82 : decode cX12_ticks 82 = .ok (.goto 4, 3) := by decide +kernel
theorem dX12_ticks_85 : decode cX12_ticks 85 = .ok (.iconst 2, 1) := by decide +kernel
theorem dX12_ticks_86 : decode cX12_ticks 86 = .ok (.dup2, 1) := by decide +kernel
theorem dX12_ticks_87 : decode cX12_ticks 87 = .ok (.iaload, 1) := by decide +kernel
theorem dX12_ticks_88 : decode cX12_ticks 88 = .ok (.iload_n 2, 1) := by decide +kernel
theorem dX12_ticks_89 : decode cX12_ticks 89 = .ok (.iload 4, 2) := by decide +kernel
theorem dX12_ticks_91 : decode cX12_ticks 91 = .ok (.isub, 1) := by decide +kernel
theorem dX12_ticks_92 : decode cX12_ticks 92 = .ok (.iadd, 1) := by decide +kernel
theorem dX12_ticks_93 : decode cX12_ticks 93 = .ok (.iastore, 1) := by decide +kernel
theorem dX12_ticks_94 : decode cX12_ticks 94 = .ok (.iload_n 2, 1) := by decide +kernel
theorem dX12_ticks_95 : decode cX12_ticks 95 = .ok (.ifCond .ne 31, 3) := by decide +kernel
theorem dX12_ticks_98 : decode cX12_ticks 98 = .ok (.aload_n 0, 1) := by decide +kernel
theorem dX12_ticks_99 : decode cX12_ticks 99 = .ok (.iconst 1, 1) := by decide +kernel
theorem dX12_ticks_100 : decode cX12_ticks 100 = .ok (.aload_n 0, 1) := by decide +kernel
theorem dX12_ticks_101 : decode cX12_ticks 101 = .ok (.getfield 7, 3) := by decide +kernel
theorem dX12_ticks_104 : decode cX12_ticks 104 = .ok (.bipush 14, 2) := by decide +kernel
theorem dX12_ticks_106 : decode cX12_ticks 106 = .ok (.iaload, 1) := by decide +kernel
theorem dX12_ticks_107 : decode cX12_ticks 107 = .ok (.invokevirtual 48, 3) := by decide +kernel
theorem dX12_ticks_110 : decode cX12_ticks 110 = .ok (.iload_n 1, 1) := by decide +kernel
theorem dX12_ticks_111 : decode cX12_ticks 111 = .ok (.ifCond .ne 15, 3) := by decide +kernel
theorem dX12_ticks_114 : decode cX12_ticks 114 = .ok (.aload_n 0, 1) := by decide +kernel
theorem dX12_ticks_115 : decode cX12_ticks 115 = .ok (.iconst 2, 1) := by decide +kernel
theorem dX12_ticks_116 : decode cX12_ticks 116 = .ok (.aload_n 0, 1) := by decide +kernel
theorem dX12_ticks_117 : decode cX12_ticks 117 = .ok (.getfield 7, 3) := by decide +kernel
theorem dX12_ticks_120 : decode cX12_ticks 120 = .ok (.bipush 15, 2) := by decide +kernel
theorem dX12_ticks_122 : decode cX12_ticks 122 = .ok (.iaload, 1) := by decide +kernel
theorem dX12_ticks_123 : decode cX12_ticks 123 = .ok (.invokevirtual 48, 3) := by decide +kernel
theorem dX12_ticks_126 : decode cX12_ticks 126 = .ok (.iload_n 1, 1) := by decide +kernel
theorem dX12_ticks_127 : decode cX12_ticks 127 = .ok (.ifCond .ne 23, 3) := by decide +kernel
theorem dX12_ticks_130 : decode cX12_ticks 130 = .ok (.aload_n 0, 1) := by decide +kernel
theorem dX12_ticks_131 : decode cX12_ticks 131 = .ok (.getfield 7, 3) := by decide +kernel
theorem dX12_ticks_134 : decode cX12_ticks 134 = .ok (.iconst 2, 1) := by decide +kernel
theorem dX12_ticks_135 : decode cX12_ticks 135 = .ok (.iaload, 1) := by decide +kernel
theorem dX12_ticks_136 : decode cX12_ticks 136 = .ok (.aload_n 0, 1) := by decide +kernel
theorem dX12_ticks_137 : decode cX12_ticks 137 = .ok (.getfield 7, 3) := by decide +kernel
theorem dX12_ticks_140 : decode cX12_ticks 140 = .ok (.bipush 11, 2) := by decide +kernel
theorem dX12_ticks_142 : decode cX12_ticks 142 = .ok (.iaload, 1) := by decide +kernel
theorem dX12_ticks_143 : decode cX12_ticks 143 = .ok (.if_icmp .lt 7, 3) := by decide +kernel
theorem dX12_ticks_146 : decode cX12_ticks 146 = .ok (.iconst 1, 1) := by decide +kernel
theorem dX12_ticks_147 : decode cX12_ticks 147 = .ok (.goto 4, 3) := by decide +kernel
theorem dX12_ticks_150 : decode cX12_ticks 150 = .ok (.iconst 0, 1) := by decide +kernel
theorem dX12_ticks_151 : decode cX12_ticks 151 = .ok (.istore 5, 2) := by decide +kernel
theorem dX12_ticks_153 : decode cX12_ticks 153 = .ok (.iload_n 1, 1) := by decide +kernel
theorem dX12_ticks_154 : decode cX12_ticks 154 = .ok (.ifCond .eq 16, 3) := by decide +kernel
theorem dX12_ticks_157 : decode cX12_ticks 157 = .ok (.aload_n 0, 1) := by decide +kernel
theorem dX12_ticks_158 : decode cX12_ticks 158 = .ok (.getfield 7, 3) := by decide +kernel
theorem dX12_ticks_161 : decode cX12_ticks 161 = .ok (.iconst 3, 1) := by decide +kernel
theorem dX12_ticks_162 : decode cX12_ticks 162 = .ok (.dup2, 1) := by decide +kernel
theorem dX12_ticks_163 : decode cX12_ticks 163 = .ok (.iaload, 1) := by decide +kernel
theorem dX12_ticks_164 : decode cX12_ticks 164 = .ok (.iconst 1, 1) := by decide +kernel
theorem dX12_ticks_165 : decode cX12_ticks 165 = .ok (.isub, 1) := by decide +kernel
theorem dX12_ticks_166 : decode cX12_ticks 166 = .ok (.iastore, 1) := by decide +kernel
theorem dX12_ticks_167 : decode cX12_ticks 167 = .ok (.goto 79, 3) := by decide +kernel
theorem dX12_ticks_170 : decode cX12_ticks 170 = .ok (.iload 5, 2) := by decide +kernel
theorem dX12_ticks_172 : decode cX12_ticks 172 = .ok (.ifCond .eq 74, 3) := by decide +kernel
theorem dX12_ticks_175 : decode cX12_ticks 175 = .ok (.aload_n 0, 1) := by decide +kernel
theorem dX12_ticks_176 : decode cX12_ticks 176 = .ok (.getfield 7, 3) := by decide +kernel
theorem dX12_ticks_179 : decode cX12_ticks 179 = .ok (.iconst 2, 1) := by decide +kernel
theorem dX12_ticks_180 : decode cX12_ticks 180 = .ok (.iaload, 1) := by decide +kernel
theorem dX12_ticks_181 : decode cX12_ticks 181 = .ok (.aload_n 0, 1) := by decide +kernel
theorem dX12_ticks_182 : decode cX12_ticks 182 = .ok (.getfield 7, 3) := by decide +kernel
theorem dX12_ticks_185 : decode cX12_ticks 185 = .ok (.bipush 11, 2) := by decide +kernel
theorem dX12_ticks_187 : decode cX12_ticks 187 = .ok (.iaload, 1) := by decide +kernel
theorem dX12_ticks_188 : decode cX12_ticks 188 = .ok (.isub, 1) := by decide +kernel
theorem dX12_ticks_189 : decode cX12_ticks 189 = .ok (.istore 6, 2) := by decide +kernel
theorem dX12_ticks_191 : decode cX12_ticks 191 = .ok (.aload_n 0, 1) := by decide +kernel
theorem dX12_ticks_192 : decode cX12_ticks 192 = .ok (.getfield 7, 3) := by decide +kernel
theorem dX12_ticks_195 : decode cX12_ticks 195 = .ok (.bipush 7, 2) := by decide +kernel
theorem dX12_ticks_197 : decode cX12_ticks 197 = .ok (.dup2, 1) := by decide +kernel
theorem dX12_ticks_198 : decode cX12_ticks 198 = .ok (.iaload, 1) := by decide +kernel
theorem dX12_ticks_199 : decode cX12_ticks 199 = .ok (.aload_n 0, 1) := by decide +kernel
theorem dX12_ticks_200 : decode cX12_ticks 200 = .ok (.getfield 7, 3) := by decide +kernel
theorem dX12_ticks_203 : decode cX12_ticks 203 = .ok (.bipush 11, 2) := by decide +kernel
theorem dX12_ticks_205 : decode cX12_ticks 205 = .ok (.iaload, 1) := by decide +kernel
theorem dX12_ticks_206 : decode cX12_ticks 206 = .ok (.iadd, 1) := by decide +kernel
theorem dX12_ticks_207 : decode cX12_ticks 207 = .ok (.iastore, 1) := by decide +kernel
theorem dX12_ticks_208 : decode cX12_ticks 208 = .ok (.aload_n 0, 1) := by decide +kernel
theorem dX12_ticks_209 : decode cX12_ticks 209 = .ok (.getfield 7, 3) := by decide +kernel
theorem dX12_ticks_212 : decode cX12_ticks 212 = .ok (.bipush 8, 2) := by decide +kernel
theorem dX12_ticks_214 : decode cX12_ticks 214 = .ok (.dup2, 1) := by decide +kernel
theorem dX12_ticks_215 : decode cX12_ticks 215 = .ok (.iaload, 1) := by decide +kernel
theorem dX12_ticks_216 : decode cX12_ticks 216 = .ok (.iload 6, 2) := by decide +kernel
theorem dX12_ticks_218 : decode cX12_ticks 218 = .ok (.iadd, 1) := by decide +kernel
theorem dX12_ticks_219 : decode cX12_ticks 219 = .ok (.iastore, 1) := by decide +kernel
theorem dX12_ticks_220 : decode cX12_ticks 220 = .ok (.aload_n 0, 1) := by decide +kernel
theorem dX12_ticks_221 : decode cX12_ticks 221 = .ok (.getfield 7, 3) := by decide +kernel
theorem dX12_ticks_224 : decode cX12_ticks 224 = .ok (.iconst 2, 1) := by decide +kernel
theorem dX12_ticks_225 : decode cX12_ticks 225 = .ok (.iconst 0, 1) := by decide +kernel
theorem dX12_ticks_226 : decode cX12_ticks 226 = .ok (.iastore, 1) := by decide +kernel
theorem dX12_ticks_227 : decode cX12_ticks 227 = .ok (.aload_n 0, 1) := by decide +kernel
theorem dX12_ticks_228 : decode cX12_ticks 228 = .ok (.iload 6, 2) := by decide +kernel
theorem dX12_ticks_230 : decode cX12_ticks 230 = .ok (.invokevirtual 52, 3) := by decide +kernel
theorem dX12_ticks_233 : decode cX12_ticks 233 = .ok (.aload_n 0, 1) := by decide +kernel
theorem dX12_ticks_234 : decode cX12_ticks 234 = .ok (.getfield 7, 3) := by decide +kernel
theorem dX12_ticks_237 : decode cX12_ticks 237 = .ok (.iconst 3, 1) := by decide +kernel
theorem dX12_ticks_238 : decode cX12_ticks 238 = .ok (.aload_n 0, 1) := by decide +kernel
theorem dX12_ticks_239 : decode cX12_ticks 239 = .ok (.getfield 7, 3) := by decide +kernel
theorem dX12_ticks_242 : decode cX12_ticks 242 = .ok (.bipush 12, 2) := by decide +kernel
theorem dX12_ticks_244 : decode cX12_ticks 244 = .ok (.iaload, 1) := by decide +kernel
theorem dX12_ticks_245 : decode cX12_ticks 245 = .ok (.iastore, 1) := by decide +kernel
theorem dX12_ticks_246 : decode cX12_ticks 246 = .ok (.aload_n 0, 1) := by decide +kernel
theorem dX12_ticks_247 : decode cX12_ticks 247 = .ok (.getfield 7, 3) := by decide +kernel
theorem dX12_ticks_250 : decode cX12_ticks 250 = .ok (.iconst 4, 1) := by decide +kernel
theorem dX12_ticks_251 : decode cX12_ticks 251 = .ok (.iaload, 1) := by decide +kernel
theorem dX12_ticks_252 : decode cX12_ticks 252 = .ok (.ifCond .le 23, 3) := by decide +kernel
theorem dX12_ticks_255 : decode cX12_ticks 255 = .ok (.aload_n 0, 1) := by decide +kernel
theorem dX12_ticks_256 : decode cX12_ticks 256 = .ok (.getfield 7, 3) := by decide +kernel
theorem dX12_ticks_259 : decode cX12_ticks 259 = .ok (.iconst 4, 1) := by decide +kernel
theorem dX12_ticks_260 : decode cX12_ticks 260 = .ok (.dup2, 1) := by decide +kernel
theorem dX12_ticks_261 : decode cX12_ticks 261 = .ok (.iaload, 1) := by decide +kernel
theorem dX12_ticks_262 : decode cX12_ticks 262 = .ok (.iconst 1, 1) := by decide +kernel
theorem dX12_ticks_263 : decode cX12_ticks 263 = .ok (.isub, 1) := by decide +kernel
theorem dX12_ticks_264 : decode cX12_ticks 264 = .ok (.iastore, 1) := by decide +kernel
theorem dX12_ticks_265 : decode cX12_ticks 265 = .ok (.aload_n 0, 1) := by decide +kernel
theorem dX12_ticks_266 : decode cX12_ticks 266 = .ok (.getfield 7, 3) := by decide +kernel
theorem dX12_ticks_269 : decode cX12_ticks 269 = .ok (.iconst 5, 1) := by decide +kernel
theorem dX12_ticks_270 : decode cX12_ticks 270 = .ok (.dup2, 1) := by decide +kernel
theorem dX12_ticks_271 : decode cX12_ticks 271 = .ok (.iaload, 1) := by decide +kernel
theorem dX12_ticks_272 : decode cX12_ticks 272 = .ok (.iconst 1, 1) := by decide +kernel
theorem dX12_ticks_273 : decode cX12_ticks 273 = .ok (.iadd, 1) := by decide +kernel
theorem dX12_ticks_274 : decode cX12_ticks 274 = .ok (.iastore, 1) := by decide +kernel
theorem dX12_ticks_275 : decode cX12_ticks 275 = .ok (.aload_n 0, 1) := by decide +kernel
theorem dX12_ticks_276 : decode cX12_ticks 276 = .ok (.getfield 7, 3) := by decide +kernel
theorem dX12_ticks_279 : decode cX12_ticks 279 = .ok (.iconst 0, 1) := by decide +kernel
theorem dX12_ticks_280 : decode cX12_ticks 280 = .ok (.dup2, 1) := by decide +kernel
theorem dX12_ticks_281 : decode cX12_ticks 281 = .ok (.iaload, 1) := by decide +kernel
theorem dX12_ticks_282 : decode cX12_ticks 282 = .ok (.iconst 1, 1) := by decide +kernel
theorem dX12_ticks_283 : decode cX12_ticks 283 = .ok (.iadd, 1) := by decide +kernel
theorem dX12_ticks_284 : decode cX12_ticks 284 = .ok (.iastore, 1) := by decide +kernel
theorem dX12_ticks_285 : decode cX12_ticks 285 = .ok (.aload_n 0, 1) := by decide +kernel
theorem dX12_ticks_286 : decode cX12_ticks 286 = .ok (.getfield 7, 3) := by decide +kernel
theorem dX12_ticks_289 : decode cX12_ticks 289 = .ok (.bipush 26, 2) := by decide +kernel
theorem dX12_ticks_291 : decode cX12_ticks 291 = .ok (.iaload, 1) := by decide +kernel
theorem dX12_ticks_292 : decode cX12_ticks 292 = .ok (.iconst 1, 1) := by decide +kernel
theorem dX12_ticks_293 : decode cX12_ticks 293 = .ok (.isub, 1) := by decide +kernel
theorem dX12_ticks_294 : decode cX12_ticks 294 = .ok (.istore 6, 2) := by decide +kernel
theorem dX12_ticks_296 : decode cX12_ticks 296 = .ok (.iload 6, 2) := by decide +kernel
theorem dX12_ticks_298 : decode cX12_ticks 298 = .ok (.ifCond .lt 45, 3) := by decide +kernel
theorem dX12_ticks_301 : decode cX12_ticks 301 = .ok (.aload_n 0, 1) := by decide +kernel
theorem dX12_ticks_302 : decode cX12_ticks 302 = .ok (.getfield 7, 3) := by decide +kernel
theorem dX12_ticks_305 : decode cX12_ticks 305 = .ok (.bipush 27, 2) := by decide +kernel
theorem dX12_ticks_307 : decode cX12_ticks 307 = .ok (.iload 6, 2) := by decide +kernel
theorem dX12_ticks_309 : decode cX12_ticks 309 = .ok (.iadd, 1) := by decide +kernel
theorem dX12_ticks_310 : decode cX12_ticks 310 = .ok (.iaload, 1) := by decide +kernel
theorem dX12_ticks_311 : decode cX12_ticks 311 = .ok (.aload_n 0, 1) := by decide +kernel
theorem dX12_ticks_312 : decode cX12_ticks 312 = .ok (.getfield 7, 3) := by decide +kernel
theorem dX12_ticks_315 : decode cX12_ticks 315 = .ok (.bipush 39, 2) := by decide +kernel
theorem dX12_ticks_317 : decode cX12_ticks 317 = .ok (.iload 6, 2) := by decide +kernel
theorem dX12_ticks_319 : decode cX12_ticks 319 = .ok (.iadd, 1) := by decide +kernel
theorem dX12_ticks_320 : decode cX12_ticks 320 = .ok (.iaload, 1) := by decide +kernel
theorem dX12_ticks_321 : decode cX12_ticks 321 = .ok (.iadd, 1) := by decide +kernel
theorem dX12_ticks_322 : decode cX12_ticks 322 = .ok (.aload_n 0, 1) := by decide +kernel
theorem dX12_ticks_323 : decode cX12_ticks 323 = .ok (.getfield 7, 3) := by decide +kernel
theorem dX12_ticks_326 : decode cX12_ticks 326 = .ok (.iconst 0, 1) := by decide +kernel
theorem dX12_ticks_327 : decode cX12_ticks 327 = .ok (.iaload, 1) := by decide +kernel
theorem dX12_ticks_328 : decode cX12_ticks 328 = .ok (.if_icmp .gt 9, 3) := by decide +kernel
theorem dX12_ticks_331 : decode cX12_ticks 331 = .ok (.aload_n 0, 1) := by decide +kernel
theorem dX12_ticks_332 : decode cX12_ticks 332 = .ok (.iload 6, 2) := by decide +kernel
theorem dX12_ticks_334 : decode cX12_ticks 334 = .ok (.invokevirtual 56, 3) := by decide +kernel
theorem dX12_ticks_337 : decode cX12_ticks 337 = .ok (.iinc 6 (-1), 3) := by decide +kernel
theorem dX12_ticks_340 : decode cX12_ticks 340 = .ok (.goto (-44), 3) := by decide +kernel
theorem dX12_ticks_343 : decode cX12_ticks 343 = .ok (.iload 5, 2) := by decide +kernel
theorem dX12_ticks_345 : decode cX12_ticks 345 = .ok (.ireturn, 1) := by decide +kernel
theorem dX12_goes_0 : decode cX12_goes 0 = .ok (.iconst 0, 1) := by decide +kernel
theorem dX12_goes_1 : decode cX12_goes 1 = .ok (.istore_n 2, 1) := by decide +kernel
theorem dX12_goes_2 : decode cX12_goes 2 = .ok (.iconst 0, 1) := by decide +kernel
theorem dX12_goes_3 : decode cX12_goes 3 = .ok (.istore_n 3, 1) := by decide +kernel
theorem dX12_goes_4 : decode cX12_goes 4 = .ok (.iload_n 3, 1) := by decide +kernel
theorem dX12_goes_5 : decode cX12_goes 5 = .ok (.iload_n 1, 1) := by decide +kernel
theorem dX12_goes_6 : decode cX12_goes 6 = .ok (.if_icmp .ge 24, 3) := by decide +kernel
theorem dX12_goes_9 : decode cX12_goes 9 = .ok (.iload_n 2, 1) := by decide +kernel
theorem dX12_goes_10 : decode cX12_goes 10 = .ok (.aload_n 0, 1) := by decide +kernel
theorem dX12_goes_11 : decode cX12_goes 11 = .ok (.invokevirtual 59, 3) := by decide +kernel
theorem dX12_goes_14 : decode cX12_goes 14 = .ok (.ifCond .eq 7, 3) := by decide +kernel
theorem dX12_goes_17 : decode cX12_goes 17 = .ok (.iconst 1, 1) := by decide +kernel
theorem dX12_goes_18 : decode cX12_goes 18 = .ok (.goto 4, 3) := by decide +kernel
theorem dX12_goes_21 : decode cX12_goes 21 = .ok (.iconst 0, 1) := by decide +kernel
theorem dX12_goes_22 : decode cX12_goes 22 = .ok (.iadd, 1) := by decide +kernel
theorem dX12_goes_23 : decode cX12_goes 23 = .ok (.istore_n 2, 1) := by decide +kernel
theorem dX12_goes_24 : decode cX12_goes 24 = .ok (.iinc 3 1, 3) := by decide +kernel
theorem dX12_goes_27 : decode cX12_goes 27 = .ok (.goto (-23), 3) := by decide +kernel
theorem dX12_goes_30 : decode cX12_goes 30 = .ok (.iload_n 2, 1) := by decide +kernel
theorem dX12_goes_31 : decode cX12_goes 31 = .ok (.ireturn, 1) := by decide +kernel
theorem dX12_puts_0 : decode cX12_puts 0 = .ok (.aload_n 0, 1) := by decide +kernel
theorem dX12_puts_1 : decode cX12_puts 1 = .ok (.getfield 7, 3) := by decide +kernel
theorem dX12_puts_4 : decode cX12_puts 4 = .ok (.bipush 26, 2) := by decide +kernel
theorem dX12_puts_6 : decode cX12_puts 6 = .ok (.iaload, 1) := by decide +kernel
theorem dX12_puts_7 : decode cX12_puts 7 = .ok (.istore 4, 2) := by decide +kernel
theorem dX12_puts_9 : decode cX12_puts 9 = .ok (.iload 4, 2) := by decide +kernel
theorem dX12_puts_11 : decode cX12_puts 11 = .ok (.ifCond .le 64, 3) := by decide +kernel
theorem dX12_puts_14 : decode cX12_puts 14 = .ok (.aload_n 0, 1) := by decide +kernel
theorem dX12_puts_15 : decode cX12_puts 15 = .ok (.getfield 7, 3) := by decide +kernel
theorem dX12_puts_18 : decode cX12_puts 18 = .ok (.bipush 27, 2) := by decide +kernel
theorem dX12_puts_20 : decode cX12_puts 20 = .ok (.iload 4, 2) := by decide +kernel
theorem dX12_puts_22 : decode cX12_puts 22 = .ok (.iadd, 1) := by decide +kernel
theorem dX12_puts_23 : decode cX12_puts 23 = .ok (.iconst 1, 1) := by decide +kernel
theorem dX12_puts_24 : decode cX12_puts 24 = .ok (.isub, 1) := by decide +kernel
theorem dX12_puts_25 : decode cX12_puts 25 = .ok (.iaload, 1) := by decide +kernel
theorem dX12_puts_26 : decode cX12_puts 26 = .ok (.iload_n 1, 1) := by decide +kernel
theorem dX12_puts_27 : decode cX12_puts 27 = .ok (.if_icmp .le 48, 3) := by decide +kernel
theorem dX12_puts_30 : decode cX12_puts 30 = .ok (.bipush 27, 2) := by decide +kernel
theorem dX12_puts_32 : decode cX12_puts 32 = .ok (.istore 5, 2) := by decide +kernel
theorem dX12_puts_34 : decode cX12_puts 34 = .ok (.iload 5, 2) := by decide +kernel
theorem dX12_puts_36 : decode cX12_puts 36 = .ok (.bipush 51, 2) := by decide +kernel
theorem dX12_puts_38 : decode cX12_puts 38 = .ok (.if_icmp .gt 31, 3) := by decide +kernel
theorem dX12_puts_41 : decode cX12_puts 41 = .ok (.aload_n 0, 1) := by decide +kernel
theorem dX12_puts_42 : decode cX12_puts 42 = .ok (.getfield 7, 3) := by decide +kernel
theorem dX12_puts_45 : decode cX12_puts 45 = .ok (.iload 5, 2) := by decide +kernel
theorem dX12_puts_47 : decode cX12_puts 47 = .ok (.iload 4, 2) := by decide +kernel
theorem dX12_puts_49 : decode cX12_puts 49 = .ok (.iadd, 1) := by decide +kernel
theorem dX12_puts_50 : decode cX12_puts 50 = .ok (.aload_n 0, 1) := by decide +kernel
theorem dX12_puts_51 : decode cX12_puts 51 = .ok (.getfield 7, 3) := by decide +kernel
theorem dX12_puts_54 : decode cX12_puts 54 = .ok (.iload 5, 2) := by decide +kernel
theorem dX12_puts_56 : decode cX12_puts 56 = .ok (.iload 4, 2) := by decide +kernel
theorem dX12_puts_58 : decode cX12_puts 58 = .ok (.iadd, 1) := by decide +kernel
theorem dX12_puts_59 : decode cX12_puts 59 = .ok (.iconst 1, 1) := by decide +kernel
theorem dX12_puts_60 : decode cX12_puts 60 = .ok (.isub, 1) := by decide +kernel
theorem dX12_puts_61 : decode cX12_puts 61 = .ok (.iaload, 1) := by decide +kernel
theorem dX12_puts_62 : decode cX12_puts 62 = .ok (.iastore, 1) := by decide +kernel
theorem dX12_puts_63 : decode cX12_puts 63 = .ok (.iinc 5 12, 3) := by decide +kernel
theorem dX12_puts_66 : decode cX12_puts 66 = .ok (.goto (-32), 3) := by decide +kernel
theorem dX12_puts_69 : decode cX12_puts 69 = .ok (.iinc 4 (-1), 3) := by decide +kernel
theorem dX12_puts_72 : decode cX12_puts 72 = .ok (.goto (-63), 3) := by decide +kernel
theorem dX12_puts_75 : decode cX12_puts 75 = .ok (.aload_n 0, 1) := by decide +kernel
theorem dX12_puts_76 : decode cX12_puts 76 = .ok (.getfield 7, 3) := by decide +kernel
theorem dX12_puts_79 : decode cX12_puts 79 = .ok (.bipush 27, 2) := by decide +kernel
theorem dX12_puts_81 : decode cX12_puts 81 = .ok (.iload 4, 2) := by decide +kernel
theorem dX12_puts_83 : decode cX12_puts 83 = .ok (.iadd, 1) := by decide +kernel
theorem dX12_puts_84 : decode cX12_puts 84 = .ok (.iload_n 1, 1) := by decide +kernel
theorem dX12_puts_85 : decode cX12_puts 85 = .ok (.iastore, 1) := by decide +kernel
theorem dX12_puts_86 : decode cX12_puts 86 = .ok (.aload_n 0, 1) := by decide +kernel
theorem dX12_puts_87 : decode cX12_puts 87 = .ok (.getfield 7, 3) := by decide +kernel
theorem dX12_puts_90 : decode cX12_puts 90 = .ok (.bipush 39, 2) := by decide +kernel
theorem dX12_puts_92 : decode cX12_puts 92 = .ok (.iload 4, 2) := by decide +kernel
theorem dX12_puts_94 : decode cX12_puts 94 = .ok (.iadd, 1) := by decide +kernel
theorem dX12_puts_95 : decode cX12_puts 95 = .ok (.iload_n 2, 1) := by decide +kernel
theorem dX12_puts_96 : decode cX12_puts 96 = .ok (.iastore, 1) := by decide +kernel
theorem dX12_puts_97 : decode cX12_puts 97 = .ok (.aload_n 0, 1) := by decide +kernel
theorem dX12_puts_98 : decode cX12_puts 98 = .ok (.getfield 7, 3) := by decide +kernel
theorem dX12_puts_101 : decode cX12_puts 101 = .ok (.bipush 51, 2) := by decide +kernel
theorem dX12_puts_103 : decode cX12_puts 103 = .ok (.iload 4, 2) := by decide +kernel
theorem dX12_puts_105 : decode cX12_puts 105 = .ok (.iadd, 1) := by decide +kernel
theorem dX12_puts_106 : decode cX12_puts 106 = .ok (.iload_n 3, 1) := by decide +kernel
theorem dX12_puts_107 : decode cX12_puts 107 = .ok (.iastore, 1) := by decide +kernel
theorem dX12_puts_108 : decode cX12_puts 108 = .ok (.aload_n 0, 1) := by decide +kernel
theorem dX12_puts_109 : decode cX12_puts 109 = .ok (.getfield 7, 3) := by decide +kernel
theorem dX12_puts_112 : decode cX12_puts 112 = .ok (.bipush 26, 2) := by decide +kernel
theorem dX12_puts_114 : decode cX12_puts 114 = .ok (.dup2, 1) := by decide +kernel
theorem dX12_puts_115 : decode cX12_puts 115 = .ok (.iaload, 1) := by decide +kernel
theorem dX12_puts_116 : decode cX12_puts 116 = .ok (.iconst 1, 1) := by decide +kernel
theorem dX12_puts_117 : decode cX12_puts 117 = .ok (.iadd, 1) := by decide +kernel
theorem dX12_puts_118 : decode cX12_puts 118 = .ok (.iastore, 1) := by decide +kernel
theorem dX12_puts_119 : decode cX12_puts 119 = .ok (.iload 4, 2) := by decide +kernel
theorem dX12_puts_121 : decode cX12_puts 121 = .ok (.ireturn, 1) := by decide +kernel
theorem dX12_addShower_0 : decode cX12_addShower 0 = .ok (.iload_n 1, 1) := by decide +kernel
theorem dX12_addShower_1 : decode cX12_addShower 1 = .ok (.aload_n 0, 1) := by decide +kernel
theorem dX12_addShower_2 : decode cX12_addShower 2 = .ok (.getfield 7, 3) := by decide +kernel
theorem dX12_addShower_5 : decode cX12_addShower 5 = .ok (.iconst 0, 1) := by decide +kernel
theorem dX12_addShower_6 : decode cX12_addShower 6 = .ok (.iaload, 1) := by decide +kernel
theorem dX12_addShower_7 : decode cX12_addShower 7 = .ok (.sipush 5000, 3) := by decide +kernel
theorem dX12_addShower_10 : decode cX12_addShower 10 = .ok (.invokestatic 33, 3) := by decide +kernel
theorem dX12_addShower_13 : decode cX12_addShower 13 = .ok (.ifCond .eq 25, 3) := by decide +kernel
theorem dX12_addShower_16 : decode cX12_addShower 16 = .ok (.iload_n 2, 1) := by decide +kernel
theorem dX12_addShower_17 : decode cX12_addShower 17 = .ok (.iconst 1, 1) := by decide +kernel
theorem dX12_addShower_18 : decode cX12_addShower 18 = .ok (.sipush 500, 3) := by decide +kernel
theorem dX12_addShower_21 : decode cX12_addShower 21 = .ok (.invokestatic 33, 3) := by decide +kernel
theorem dX12_addShower_24 : decode cX12_addShower 24 = .ok (.ifCond .eq 14, 3) := by decide +kernel
theorem dX12_addShower_27 : decode cX12_addShower 27 = .ok (.iload_n 3, 1) := by decide +kernel
theorem dX12_addShower_28 : decode cX12_addShower 28 = .ok (.iconst 1, 1) := by decide +kernel
theorem dX12_addShower_29 : decode cX12_addShower 29 = .ok (.sipush 200, 3) := by decide +kernel
theorem dX12_addShower_32 : decode cX12_addShower 32 = .ok (.invokestatic 33, 3) := by decide +kernel
theorem dX12_addShower_35 : decode cX12_addShower 35 = .ok (.ifCond .ne 5, 3) := by decide +kernel
theorem dX12_addShower_38 : decode cX12_addShower 38 = .ok (.iconst (-1), 1) := by decide +kernel
theorem dX12_addShower_39 : decode cX12_addShower 39 = .ok (.ireturn, 1) := by decide +kernel
theorem dX12_addShower_40 : decode cX12_addShower 40 = .ok (.aload_n 0, 1) := by decide +kernel
theorem dX12_addShower_41 : decode cX12_addShower 41 = .ok (.getfield 7, 3) := by decide +kernel
theorem dX12_addShower_44 : decode cX12_addShower 44 = .ok (.bipush 26, 2) := by decide +kernel
theorem dX12_addShower_46 : decode cX12_addShower 46 = .ok (.iaload, 1) := by decide +kernel
theorem dX12_addShower_47 : decode cX12_addShower 47 = .ok (.bipush 12, 2) := by decide +kernel
theorem dX12_addShower_49 : decode cX12_addShower 49 = .ok (.if_icmp .ne 6, 3) := by decide +kernel
theorem dX12_addShower_52 : decode cX12_addShower 52 = .ok (.bipush (-3), 2) := by decide +kernel
theorem dX12_addShower_54 : decode cX12_addShower 54 = .ok (.ireturn, 1) := by decide +kernel
theorem dX12_addShower_55 : decode cX12_addShower 55 = .ok (.aload_n 0, 1) := by decide +kernel
theorem dX12_addShower_56 : decode cX12_addShower 56 = .ok (.invokevirtual 63, 3) := by decide +kernel
theorem dX12_addShower_59 : decode cX12_addShower 59 = .ok (.aload_n 0, 1) := by decide +kernel
theorem dX12_addShower_60 : decode cX12_addShower 60 = .ok (.iload_n 1, 1) := by decide +kernel
theorem dX12_addShower_61 : decode cX12_addShower 61 = .ok (.iload_n 2, 1) := by decide +kernel
theorem dX12_addShower_62 : decode cX12_addShower 62 = .ok (.iload_n 3, 1) := by decide +kernel
theorem dX12_addShower_63 : decode cX12_addShower 63 = .ok (.invokevirtual 66, 3) := by decide +kernel
theorem dX12_addShower_66 : decode cX12_addShower 66 = .ok (.ireturn, 1) := by decide +kernel
theorem dX12_isShower_0 : decode cX12_isShower 0 = .ok (.iload_n 1, 1) := by decide +kernel
theorem dX12_isShower_1 : decode cX12_isShower 1 = .ok (.iconst 0, 1) := by decide +kernel
theorem dX12_isShower_2 : decode cX12_isShower 2 = .ok (.aload_n 0, 1) := by decide +kernel
theorem dX12_isShower_3 : decode cX12_isShower 3 = .ok (.getfield 7, 3) := by decide +kernel
theorem dX12_isShower_6 : decode cX12_isShower 6 = .ok (.bipush 26, 2) := by decide +kernel
theorem dX12_isShower_8 : decode cX12_isShower 8 = .ok (.iaload, 1) := by decide +kernel
theorem dX12_isShower_9 : decode cX12_isShower 9 = .ok (.iconst 1, 1) := by decide +kernel
theorem dX12_isShower_10 : decode cX12_isShower 10 = .ok (.isub, 1) := by decide +kernel
theorem dX12_isShower_11 : decode cX12_isShower 11 = .ok (.invokestatic 33, 3) := by decide +kernel
theorem dX12_isShower_14 : decode cX12_isShower 14 = .ok (.ireturn, 1) := by decide +kernel
theorem dX12_cancel_0 : decode cX12_cancel 0 = .ok (.aload_n 0, 1) := by decide +kernel
theorem dX12_cancel_1 : decode cX12_cancel 1 = .ok (.iload_n 1, 1) := by decide +kernel
theorem dX12_cancel_2 : decode cX12_cancel 2 = .ok (.invokevirtual 70, 3) := by decide +kernel
theorem dX12_cancel_5 : decode cX12_cancel 5 = .ok (.ifCond .ne 5, 3) := by decide +kernel
theorem dX12_cancel_8 : decode cX12_cancel 8 = .ok (.iconst (-1), 1) := by decide +kernel
theorem dX12_cancel_9 : decode cX12_cancel 9 = .ok (.ireturn, 1) := by decide +kernel
theorem dX12_cancel_10 : decode cX12_cancel 10 = .ok (.aload_n 0, 1) := by decide +kernel
theorem dX12_cancel_11 : decode cX12_cancel 11 = .ok (.getfield 7, 3) := by decide +kernel
theorem dX12_cancel_14 : decode cX12_cancel 14 = .ok (.bipush 27, 2) := by decide +kernel
theorem dX12_cancel_16 : decode cX12_cancel 16 = .ok (.iload_n 1, 1) := by decide +kernel
theorem dX12_cancel_17 : decode cX12_cancel 17 = .ok (.iadd, 1) := by decide +kernel
theorem dX12_cancel_18 : decode cX12_cancel 18 = .ok (.iaload, 1) := by decide +kernel
theorem dX12_cancel_19 : decode cX12_cancel 19 = .ok (.aload_n 0, 1) := by decide +kernel
theorem dX12_cancel_20 : decode cX12_cancel 20 = .ok (.getfield 7, 3) := by decide +kernel
theorem dX12_cancel_23 : decode cX12_cancel 23 = .ok (.iconst 0, 1) := by decide +kernel
theorem dX12_cancel_24 : decode cX12_cancel 24 = .ok (.iaload, 1) := by decide +kernel
theorem dX12_cancel_25 : decode cX12_cancel 25 = .ok (.if_icmp .ge 6, 3) := by decide +kernel
theorem dX12_cancel_28 : decode cX12_cancel 28 = .ok (.bipush (-2), 2) := by decide +kernel
theorem dX12_cancel_30 : decode cX12_cancel 30 = .ok (.ireturn, 1) := by decide +kernel
theorem dX12_cancel_31 : decode cX12_cancel 31 = .ok (.aload_n 0, 1) := by decide +kernel
theorem dX12_cancel_32 : decode cX12_cancel 32 = .ok (.invokevirtual 63, 3) := by decide +kernel
theorem dX12_cancel_35 : decode cX12_cancel 35 = .ok (.aload_n 0, 1) := by decide +kernel
theorem dX12_cancel_36 : decode cX12_cancel 36 = .ok (.iload_n 1, 1) := by decide +kernel
theorem dX12_cancel_37 : decode cX12_cancel 37 = .ok (.invokevirtual 56, 3) := by decide +kernel
theorem dX12_cancel_40 : decode cX12_cancel 40 = .ok (.aload_n 0, 1) := by decide +kernel
theorem dX12_cancel_41 : decode cX12_cancel 41 = .ok (.getfield 7, 3) := by decide +kernel
theorem dX12_cancel_44 : decode cX12_cancel 44 = .ok (.bipush 26, 2) := by decide +kernel
theorem dX12_cancel_46 : decode cX12_cancel 46 = .ok (.iaload, 1) := by decide +kernel
theorem dX12_cancel_47 : decode cX12_cancel 47 = .ok (.ireturn, 1) := by decide +kernel
theorem dX12_shower_0 : decode cX12_shower 0 = .ok (.aload_n 0, 1) := by decide +kernel
theorem dX12_shower_1 : decode cX12_shower 1 = .ok (.iload_n 1, 1) := by decide +kernel
theorem dX12_shower_2 : decode cX12_shower 2 = .ok (.invokevirtual 70, 3) := by decide +kernel
theorem dX12_shower_5 : decode cX12_shower 5 = .ok (.ifCond .eq 12, 3) := by decide +kernel
theorem dX12_shower_8 : decode cX12_shower 8 = .ok (.iload_n 2, 1) := by decide +kernel
theorem dX12_shower_9 : decode cX12_shower 9 = .ok (.iconst 0, 1) := by decide +kernel
theorem dX12_shower_10 : decode cX12_shower 10 = .ok (.iconst 3, 1) := by decide +kernel
theorem dX12_shower_11 : decode cX12_shower 11 = .ok (.invokestatic 33, 3) := by decide +kernel
theorem dX12_shower_14 : decode cX12_shower 14 = .ok (.ifCond .ne 5, 3) := by decide +kernel
theorem dX12_shower_17 : decode cX12_shower 17 = .ok (.iconst (-1), 1) := by decide +kernel
theorem dX12_shower_18 : decode cX12_shower 18 = .ok (.ireturn, 1) := by decide +kernel
theorem dX12_shower_19 : decode cX12_shower 19 = .ok (.aload_n 0, 1) := by decide +kernel
theorem dX12_shower_20 : decode cX12_shower 20 = .ok (.getfield 7, 3) := by decide +kernel
theorem dX12_shower_23 : decode cX12_shower 23 = .ok (.bipush 27, 2) := by decide +kernel
theorem dX12_shower_25 : decode cX12_shower 25 = .ok (.iload_n 1, 1) := by decide +kernel
theorem dX12_shower_26 : decode cX12_shower 26 = .ok (.iadd, 1) := by decide +kernel
theorem dX12_shower_27 : decode cX12_shower 27 = .ok (.iaload, 1) := by decide +kernel
theorem dX12_shower_28 : decode cX12_shower 28 = .ok (.istore_n 3, 1) := by decide +kernel
theorem dX12_shower_29 : decode cX12_shower 29 = .ok (.iload_n 2, 1) := by decide +kernel
theorem dX12_shower_30 : decode cX12_shower 30 = .ok (.iconst 3, 1) := by decide +kernel
theorem dX12_shower_31 : decode cX12_shower 31 = .ok (.if_icmp .ne 36, 3) := by decide +kernel
theorem dX12_shower_34 : decode cX12_shower 34 = .ok (.iload_n 3, 1) := by decide +kernel
theorem dX12_shower_35 : decode cX12_shower 35 = .ok (.aload_n 0, 1) := by decide +kernel
theorem dX12_shower_36 : decode cX12_shower 36 = .ok (.getfield 7, 3) := by decide +kernel
theorem dX12_shower_39 : decode cX12_shower 39 = .ok (.bipush 39, 2) := by decide +kernel
theorem dX12_shower_41 : decode cX12_shower 41 = .ok (.iload_n 1, 1) := by decide +kernel
theorem dX12_shower_42 : decode cX12_shower 42 = .ok (.iadd, 1) := by decide +kernel
theorem dX12_shower_43 : decode cX12_shower 43 = .ok (.iaload, 1) := by decide +kernel
theorem dX12_shower_44 : decode cX12_shower 44 = .ok (.iadd, 1) := by decide +kernel
theorem dX12_shower_45 : decode cX12_shower 45 = .ok (.iload_n 3, 1) := by decide +kernel
theorem dX12_shower_46 : decode cX12_shower 46 = .ok (.aload_n 0, 1) := by decide +kernel
theorem dX12_shower_47 : decode cX12_shower 47 = .ok (.getfield 7, 3) := by decide +kernel
theorem dX12_shower_50 : decode cX12_shower 50 = .ok (.iconst 0, 1) := by decide +kernel
theorem dX12_shower_51 : decode cX12_shower 51 = .ok (.iaload, 1) := by decide +kernel
theorem dX12_shower_52 : decode cX12_shower 52 = .ok (.if_icmp .le 7, 3) := by decide +kernel
theorem dX12_shower_55 : decode cX12_shower 55 = .ok (.iload_n 3, 1) := by decide +kernel
theorem dX12_shower_56 : decode cX12_shower 56 = .ok (.goto 9, 3) := by decide +kernel
theorem dX12_shower_59 : decode cX12_shower 59 = .ok (.aload_n 0, 1) := by decide +kernel
theorem dX12_shower_60 : decode cX12_shower 60 = .ok (.getfield 7, 3) := by decide +kernel
theorem dX12_shower_63 : decode cX12_shower 63 = .ok (.iconst 0, 1) := by decide +kernel
theorem dX12_shower_64 : decode cX12_shower 64 = .ok (.iaload, 1) := by decide +kernel
theorem dX12_shower_65 : decode cX12_shower 65 = .ok (.isub, 1) := by decide +kernel
theorem dX12_shower_66 : decode cX12_shower 66 = .ok (.ireturn, 1) := by decide +kernel
theorem dX12_shower_67 : decode cX12_shower 67 = .ok (.aload_n 0, 1) := by decide +kernel
theorem dX12_shower_68 : decode cX12_shower 68 = .ok (.getfield 7, 3) := by decide +kernel
theorem dX12_shower_71 : decode cX12_shower 71 = .ok (.bipush 27, 2) := by decide +kernel
theorem dX12_shower_73 : decode cX12_shower 73 = .ok (.bipush 12, 2) := by decide +kernel
theorem dX12_shower_75 : decode cX12_shower 75 = .ok (.iload_n 2, 1) := by decide +kernel
theorem dX12_shower_76 : decode cX12_shower 76 = .ok (.imul, 1) := by decide +kernel
theorem dX12_shower_77 : decode cX12_shower 77 = .ok (.iadd, 1) := by decide +kernel
theorem dX12_shower_78 : decode cX12_shower 78 = .ok (.iload_n 1, 1) := by decide +kernel
theorem dX12_shower_79 : decode cX12_shower 79 = .ok (.iadd, 1) := by decide +kernel
theorem dX12_shower_80 : decode cX12_shower 80 = .ok (.iaload, 1) := by decide +kernel
theorem dX12_shower_81 : decode cX12_shower 81 = .ok (.ireturn, 1) := by decide +kernel
theorem dX12_run_0 : decode cX12_run 0 = .ok (.iload_n 1, 1) := by decide +kernel
theorem dX12_run_1 : decode cX12_run 1 = .ok (.iconst 1, 1) := by decide +kernel
theorem dX12_run_2 : decode cX12_run 2 = .ok (.sipush 1000, 3) := by decide +kernel
theorem dX12_run_5 : decode cX12_run 5 = .ok (.invokestatic 33, 3) := by decide +kernel
theorem dX12_run_8 : decode cX12_run 8 = .ok (.ifCond .ne 5, 3) := by decide +kernel
theorem dX12_run_11 : decode cX12_run 11 = .ok (.iconst (-1), 1) := by decide +kernel
theorem dX12_run_12 : decode cX12_run 12 = .ok (.ireturn, 1) := by decide +kernel
theorem dX12_run_13 : decode cX12_run 13 = .ok (.aload_n 0, 1) := by decide +kernel
theorem dX12_run_14 : decode cX12_run 14 = .ok (.getfield 7, 3) := by decide +kernel
theorem dX12_run_17 : decode cX12_run 17 = .ok (.iconst 0, 1) := by decide +kernel
theorem dX12_run_18 : decode cX12_run 18 = .ok (.iaload, 1) := by decide +kernel
theorem dX12_run_19 : decode cX12_run 19 = .ok (.iload_n 1, 1) := by decide +kernel
theorem dX12_run_20 : decode cX12_run 20 = .ok (.iadd, 1) := by decide +kernel
theorem dX12_run_21 : decode cX12_run 21 = .ok (.sipush 5000, 3) := by decide +kernel
theorem dX12_run_24 : decode cX12_run 24 = .ok (.if_icmp .le 6, 3) := by decide +kernel
theorem dX12_run_27 : decode cX12_run 27 = .ok (.bipush (-3), 2) := by decide +kernel
theorem dX12_run_29 : decode cX12_run 29 = .ok (.ireturn, 1) := by decide +kernel
theorem dX12_run_30 : decode cX12_run 30 = .ok (.aload_n 0, 1) := by decide +kernel
theorem dX12_run_31 : decode cX12_run 31 = .ok (.invokevirtual 63, 3) := by decide +kernel
theorem dX12_run_34 : decode cX12_run 34 = .ok (.aload_n 0, 1) := by decide +kernel
theorem dX12_run_35 : decode cX12_run 35 = .ok (.iload_n 1, 1) := by decide +kernel
theorem dX12_run_36 : decode cX12_run 36 = .ok (.invokevirtual 74, 3) := by decide +kernel
theorem dX12_run_39 : decode cX12_run 39 = .ok (.ireturn, 1) := by decide +kernel
theorem dX12_undo_0 : decode cX12_undo 0 = .ok (.aload_n 0, 1) := by decide +kernel
theorem dX12_undo_1 : decode cX12_undo 1 = .ok (.getfield 29, 3) := by decide +kernel
theorem dX12_undo_4 : decode cX12_undo 4 = .ok (.ifCond .ne 6, 3) := by decide +kernel
theorem dX12_undo_7 : decode cX12_undo 7 = .ok (.bipush (-2), 2) := by decide +kernel
theorem dX12_undo_9 : decode cX12_undo 9 = .ok (.ireturn, 1) := by decide +kernel
theorem dX12_undo_10 : decode cX12_undo 10 = .ok (.aload_n 0, 1) := by decide +kernel
theorem dX12_undo_11 : decode cX12_undo 11 = .ok (.dup, 1) := by decide +kernel
theorem dX12_undo_12 : decode cX12_undo 12 = .ok (.getfield 29, 3) := by decide +kernel
theorem dX12_undo_15 : decode cX12_undo 15 = .ok (.iconst 1, 1) := by decide +kernel
theorem dX12_undo_16 : decode cX12_undo 16 = .ok (.isub, 1) := by decide +kernel
theorem dX12_undo_17 : decode cX12_undo 17 = .ok (.putfield 29, 3) := by decide +kernel
theorem dX12_undo_20 : decode cX12_undo 20 = .ok (.iconst 0, 1) := by decide +kernel
theorem dX12_undo_21 : decode cX12_undo 21 = .ok (.istore_n 1, 1) := by decide +kernel
theorem dX12_undo_22 : decode cX12_undo 22 = .ok (.iload_n 1, 1) := by decide +kernel
theorem dX12_undo_23 : decode cX12_undo 23 = .ok (.sipush 244, 3) := by decide +kernel
theorem dX12_undo_26 : decode cX12_undo 26 = .ok (.if_icmp .ge 30, 3) := by decide +kernel
theorem dX12_undo_29 : decode cX12_undo 29 = .ok (.aload_n 0, 1) := by decide +kernel
theorem dX12_undo_30 : decode cX12_undo 30 = .ok (.getfield 7, 3) := by decide +kernel
theorem dX12_undo_33 : decode cX12_undo 33 = .ok (.iload_n 1, 1) := by decide +kernel
theorem dX12_undo_34 : decode cX12_undo 34 = .ok (.aload_n 0, 1) := by decide +kernel
theorem dX12_undo_35 : decode cX12_undo 35 = .ok (.getfield 13, 3) := by decide +kernel
theorem dX12_undo_38 : decode cX12_undo 38 = .ok (.sipush 244, 3) := by decide +kernel
theorem dX12_undo_41 : decode cX12_undo 41 = .ok (.aload_n 0, 1) := by decide +kernel
theorem dX12_undo_42 : decode cX12_undo 42 = .ok (.getfield 29, 3) := by decide +kernel
theorem dX12_undo_45 : decode cX12_undo 45 = .ok (.imul, 1) := by decide +kernel
theorem dX12_undo_46 : decode cX12_undo 46 = .ok (.iload_n 1, 1) := by decide +kernel
theorem dX12_undo_47 : decode cX12_undo 47 = .ok (.iadd, 1) := by decide +kernel
theorem dX12_undo_48 : decode cX12_undo 48 = .ok (.iaload, 1) := by decide +kernel
theorem dX12_undo_49 : decode cX12_undo 49 = .ok (.iastore, 1) := by decide +kernel
theorem dX12_undo_50 : decode cX12_undo 50 = .ok (.iinc 1 1, 3) := by decide +kernel
theorem dX12_undo_53 : decode cX12_undo 53 = .ok (.goto (-31), 3) := by decide +kernel
theorem dX12_undo_56 : decode cX12_undo 56 = .ok (.aload_n 0, 1) := by decide +kernel
theorem dX12_undo_57 : decode cX12_undo 57 = .ok (.getfield 29, 3) := by decide +kernel
theorem dX12_undo_60 : decode cX12_undo 60 = .ok (.ireturn, 1) := by decide +kernel
theorem dX12_isSetting_0 : decode cX12_isSetting 0 = .ok (.iload_n 0, 1) := by decide +kernel
theorem dX12_isSetting_1 : decode cX12_isSetting 1 = .ok (.tableswitch 110 0 7 #[47, 57, 65, 74, 74, 82, 92, 101], 47) := by decide +kernel
theorem dX12_isSetting_48 : decode cX12_isSetting 48 = .ok (.iload_n 1, 1) := by decide +kernel
theorem dX12_isSetting_49 : decode cX12_isSetting 49 = .ok (.bipush 20, 2) := by decide +kernel
theorem dX12_isSetting_51 : decode cX12_isSetting 51 = .ok (.sipush 500, 3) := by decide +kernel
theorem dX12_isSetting_54 : decode cX12_isSetting 54 = .ok (.invokestatic 33, 3) := by decide +kernel
theorem dX12_isSetting_57 : decode cX12_isSetting 57 = .ok (.ireturn, 1) := by decide +kernel
theorem dX12_isSetting_58 : decode cX12_isSetting 58 = .ok (.iload_n 1, 1) := by decide +kernel
theorem dX12_isSetting_59 : decode cX12_isSetting 59 = .ok (.iconst 0, 1) := by decide +kernel
theorem dX12_isSetting_60 : decode cX12_isSetting 60 = .ok (.bipush 20, 2) := by decide +kernel
theorem dX12_isSetting_62 : decode cX12_isSetting 62 = .ok (.invokestatic 33, 3) := by decide +kernel
theorem dX12_isSetting_65 : decode cX12_isSetting 65 = .ok (.ireturn, 1) := by decide +kernel
theorem dX12_isSetting_66 : decode cX12_isSetting 66 = .ok (.iload_n 1, 1) := by decide +kernel
theorem dX12_isSetting_67 : decode cX12_isSetting 67 = .ok (.iconst 0, 1) := by decide +kernel
theorem dX12_isSetting_68 : decode cX12_isSetting 68 = .ok (.sipush 200, 3) := by decide +kernel
theorem dX12_isSetting_71 : decode cX12_isSetting 71 = .ok (.invokestatic 33, 3) := by decide +kernel
theorem dX12_isSetting_74 : decode cX12_isSetting 74 = .ok (.ireturn, 1) := by decide +kernel
theorem dX12_isSetting_75 : decode cX12_isSetting 75 = .ok (.iload_n 1, 1) := by decide +kernel
theorem dX12_isSetting_76 : decode cX12_isSetting 76 = .ok (.iconst 0, 1) := by decide +kernel
theorem dX12_isSetting_77 : decode cX12_isSetting 77 = .ok (.bipush 50, 2) := by decide +kernel
theorem dX12_isSetting_79 : decode cX12_isSetting 79 = .ok (.invokestatic 33, 3) := by decide +kernel
theorem dX12_isSetting_82 : decode cX12_isSetting 82 = .ok (.ireturn, 1) := by decide +kernel
theorem dX12_isSetting_83 : decode cX12_isSetting 83 = .ok (.iload_n 1, 1) := by decide +kernel
theorem dX12_isSetting_84 : decode cX12_isSetting 84 = .ok (.bipush 10, 2) := by decide +kernel
theorem dX12_isSetting_86 : decode cX12_isSetting 86 = .ok (.sipush 1000, 3) := by decide +kernel
theorem dX12_isSetting_89 : decode cX12_isSetting 89 = .ok (.invokestatic 33, 3) := by decide +kernel
theorem dX12_isSetting_92 : decode cX12_isSetting 92 = .ok (.ireturn, 1) := by decide +kernel
theorem dX12_isSetting_93 : decode cX12_isSetting 93 = .ok (.iload_n 1, 1) := by decide +kernel
theorem dX12_isSetting_94 : decode cX12_isSetting 94 = .ok (.iconst 1, 1) := by decide +kernel
theorem dX12_isSetting_95 : decode cX12_isSetting 95 = .ok (.sipush 2000, 3) := by decide +kernel
theorem dX12_isSetting_98 : decode cX12_isSetting 98 = .ok (.invokestatic 33, 3) := by decide +kernel
theorem dX12_isSetting_101 : decode cX12_isSetting 101 = .ok (.ireturn, 1) := by decide +kernel
theorem dX12_isSetting_102 : decode cX12_isSetting 102 = .ok (.iload_n 1, 1) := by decide +kernel
theorem dX12_isSetting_103 : decode cX12_isSetting 103 = .ok (.iconst 1, 1) := by decide +kernel
theorem dX12_isSetting_104 : decode cX12_isSetting 104 = .ok (.sipush 1000, 3) := by decide +kernel
theorem dX12_isSetting_107 : decode cX12_isSetting 107 = .ok (.invokestatic 33, 3) := by decide +kernel
theorem dX12_isSetting_110 : decode cX12_isSetting 110 = .ok (.ireturn, 1) := by decide +kernel
theorem dX12_isSetting_111 : decode cX12_isSetting 111 = .ok (.iconst 0, 1) := by decide +kernel
theorem dX12_isSetting_112 : decode cX12_isSetting 112 = .ok (.ireturn, 1) := by decide +kernel
theorem dX12_set_0 : decode cX12_set 0 = .ok (.iload_n 1, 1) := by decide +kernel
theorem dX12_set_1 : decode cX12_set 1 = .ok (.iload_n 2, 1) := by decide +kernel
theorem dX12_set_2 : decode cX12_set 2 = .ok (.invokestatic 78, 3) := by decide +kernel
theorem dX12_set_5 : decode cX12_set 5 = .ok (.ifCond .ne 5, 3) := by decide +kernel
theorem dX12_set_8 : decode cX12_set 8 = .ok (.iconst (-1), 1) := by decide +kernel
theorem dX12_set_9 : decode cX12_set 9 = .ok (.ireturn, 1) := by decide +kernel
theorem dX12_set_10 : decode cX12_set 10 = .ok (.aload_n 0, 1) := by decide +kernel
theorem dX12_set_11 : decode cX12_set 11 = .ok (.invokevirtual 63, 3) := by decide +kernel
theorem dX12_set_14 : decode cX12_set 14 = .ok (.aload_n 0, 1) := by decide +kernel
theorem dX12_set_15 : decode cX12_set 15 = .ok (.getfield 7, 3) := by decide +kernel
theorem dX12_set_18 : decode cX12_set 18 = .ok (.bipush 11, 2) := by decide +kernel
theorem dX12_set_20 : decode cX12_set 20 = .ok (.iload_n 1, 1) := by decide +kernel
theorem dX12_set_21 : decode cX12_set 21 = .ok (.iadd, 1) := by decide +kernel
theorem dX12_set_22 : decode cX12_set 22 = .ok (.iaload, 1) := by decide +kernel
theorem dX12_set_23 : decode cX12_set 23 = .ok (.istore_n 3, 1) := by decide +kernel
theorem dX12_set_24 : decode cX12_set 24 = .ok (.aload_n 0, 1) := by decide +kernel
theorem dX12_set_25 : decode cX12_set 25 = .ok (.getfield 7, 3) := by decide +kernel
theorem dX12_set_28 : decode cX12_set 28 = .ok (.bipush 11, 2) := by decide +kernel
theorem dX12_set_30 : decode cX12_set 30 = .ok (.iload_n 1, 1) := by decide +kernel
theorem dX12_set_31 : decode cX12_set 31 = .ok (.iadd, 1) := by decide +kernel
theorem dX12_set_32 : decode cX12_set 32 = .ok (.iload_n 2, 1) := by decide +kernel
theorem dX12_set_33 : decode cX12_set 33 = .ok (.iastore, 1) := by decide +kernel
theorem dX12_set_34 : decode cX12_set 34 = .ok (.iload_n 3, 1) := by decide +kernel
theorem dX12_set_35 : decode cX12_set 35 = .ok (.ireturn, 1) := by decide +kernel
theorem dX12_wind_0 : decode cX12_wind 0 = .ok (.aload_n 0, 1) := by decide +kernel
theorem dX12_wind_1 : decode cX12_wind 1 = .ok (.invokevirtual 63, 3) := by decide +kernel
theorem dX12_wind_4 : decode cX12_wind 4 = .ok (.aload_n 0, 1) := by decide +kernel
theorem dX12_wind_5 : decode cX12_wind 5 = .ok (.getfield 7, 3) := by decide +kernel
theorem dX12_wind_8 : decode cX12_wind 8 = .ok (.iconst 4, 1) := by decide +kernel
theorem dX12_wind_9 : decode cX12_wind 9 = .ok (.iaload, 1) := by decide +kernel
theorem dX12_wind_10 : decode cX12_wind 10 = .ok (.istore_n 1, 1) := by decide +kernel
theorem dX12_wind_11 : decode cX12_wind 11 = .ok (.aload_n 0, 1) := by decide +kernel
theorem dX12_wind_12 : decode cX12_wind 12 = .ok (.getfield 7, 3) := by decide +kernel
theorem dX12_wind_15 : decode cX12_wind 15 = .ok (.iconst 4, 1) := by decide +kernel
theorem dX12_wind_16 : decode cX12_wind 16 = .ok (.aload_n 0, 1) := by decide +kernel
theorem dX12_wind_17 : decode cX12_wind 17 = .ok (.getfield 7, 3) := by decide +kernel
theorem dX12_wind_20 : decode cX12_wind 20 = .ok (.bipush 17, 2) := by decide +kernel
theorem dX12_wind_22 : decode cX12_wind 22 = .ok (.iaload, 1) := by decide +kernel
theorem dX12_wind_23 : decode cX12_wind 23 = .ok (.iastore, 1) := by decide +kernel
theorem dX12_wind_24 : decode cX12_wind 24 = .ok (.iload_n 1, 1) := by decide +kernel
theorem dX12_wind_25 : decode cX12_wind 25 = .ok (.ireturn, 1) := by decide +kernel
theorem dX12_addGears_0 : decode cX12_addGears 0 = .ok (.iload_n 1, 1) := by decide +kernel
theorem dX12_addGears_1 : decode cX12_addGears 1 = .ok (.bipush 8, 2) := by decide +kernel
theorem dX12_addGears_3 : decode cX12_addGears 3 = .ok (.bipush 120, 2) := by decide +kernel
theorem dX12_addGears_5 : decode cX12_addGears 5 = .ok (.invokestatic 33, 3) := by decide +kernel
theorem dX12_addGears_8 : decode cX12_addGears 8 = .ok (.ifCond .eq 14, 3) := by decide +kernel
theorem dX12_addGears_11 : decode cX12_addGears 11 = .ok (.iload_n 2, 1) := by decide +kernel
theorem dX12_addGears_12 : decode cX12_addGears 12 = .ok (.bipush 8, 2) := by decide +kernel
theorem dX12_addGears_14 : decode cX12_addGears 14 = .ok (.bipush 120, 2) := by decide +kernel
theorem dX12_addGears_16 : decode cX12_addGears 16 = .ok (.invokestatic 33, 3) := by decide +kernel
theorem dX12_addGears_19 : decode cX12_addGears 19 = .ok (.ifCond .ne 5, 3) := by decide +kernel
theorem dX12_addGears_22 : decode cX12_addGears 22 = .ok (.iconst (-1), 1) := by decide +kernel
theorem dX12_addGears_23 : decode cX12_addGears 23 = .ok (.ireturn, 1) := by decide +kernel
theorem dX12_addGears_24 : decode cX12_addGears 24 = .ok (.aload_n 0, 1) := by decide +kernel
theorem dX12_addGears_25 : decode cX12_addGears 25 = .ok (.getfield 7, 3) := by decide +kernel
theorem dX12_addGears_28 : decode cX12_addGears 28 = .ok (.bipush 19, 2) := by decide +kernel
theorem dX12_addGears_30 : decode cX12_addGears 30 = .ok (.iaload, 1) := by decide +kernel
theorem dX12_addGears_31 : decode cX12_addGears 31 = .ok (.iconst 3, 1) := by decide +kernel
theorem dX12_addGears_32 : decode cX12_addGears 32 = .ok (.if_icmp .ne 6, 3) := by decide +kernel
theorem dX12_addGears_35 : decode cX12_addGears 35 = .ok (.bipush (-3), 2) := by decide +kernel
theorem dX12_addGears_37 : decode cX12_addGears 37 = .ok (.ireturn, 1) := by decide +kernel
theorem dX12_addGears_38 : decode cX12_addGears 38 = .ok (.aload_n 0, 1) := by decide +kernel
theorem dX12_addGears_39 : decode cX12_addGears 39 = .ok (.invokevirtual 63, 3) := by decide +kernel
theorem dX12_addGears_42 : decode cX12_addGears 42 = .ok (.aload_n 0, 1) := by decide +kernel
theorem dX12_addGears_43 : decode cX12_addGears 43 = .ok (.getfield 7, 3) := by decide +kernel
theorem dX12_addGears_46 : decode cX12_addGears 46 = .ok (.bipush 20, 2) := by decide +kernel
theorem dX12_addGears_48 : decode cX12_addGears 48 = .ok (.iconst 2, 1) := by decide +kernel
theorem dX12_addGears_49 : decode cX12_addGears 49 = .ok (.aload_n 0, 1) := by decide +kernel
theorem dX12_addGears_50 : decode cX12_addGears 50 = .ok (.getfield 7, 3) := by decide +kernel
theorem dX12_addGears_53 : decode cX12_addGears 53 = .ok (.bipush 19, 2) := by decide +kernel
theorem dX12_addGears_55 : decode cX12_addGears 55 = .ok (.iaload, 1) := by decide +kernel
theorem dX12_addGears_56 : decode cX12_addGears 56 = .ok (.imul, 1) := by decide +kernel
theorem dX12_addGears_57 : decode cX12_addGears 57 = .ok (.iadd, 1) := by decide +kernel
theorem dX12_addGears_58 : decode cX12_addGears 58 = .ok (.iload_n 1, 1) := by decide +kernel
theorem dX12_addGears_59 : decode cX12_addGears 59 = .ok (.iastore, 1) := by decide +kernel
theorem dX12_addGears_60 : decode cX12_addGears 60 = .ok (.aload_n 0, 1) := by decide +kernel
theorem dX12_addGears_61 : decode cX12_addGears 61 = .ok (.getfield 7, 3) := by decide +kernel
theorem dX12_addGears_64 : decode cX12_addGears 64 = .ok (.bipush 20, 2) := by decide +kernel
theorem dX12_addGears_66 : decode cX12_addGears 66 = .ok (.iconst 2, 1) := by decide +kernel
theorem dX12_addGears_67 : decode cX12_addGears 67 = .ok (.aload_n 0, 1) := by decide +kernel
theorem dX12_addGears_68 : decode cX12_addGears 68 = .ok (.getfield 7, 3) := by decide +kernel
theorem dX12_addGears_71 : decode cX12_addGears 71 = .ok (.bipush 19, 2) := by decide +kernel
theorem dX12_addGears_73 : decode cX12_addGears 73 = .ok (.iaload, 1) := by decide +kernel
theorem dX12_addGears_74 : decode cX12_addGears 74 = .ok (.imul, 1) := by decide +kernel
theorem dX12_addGears_75 : decode cX12_addGears 75 = .ok (.iadd, 1) := by decide +kernel
theorem dX12_addGears_76 : decode cX12_addGears 76 = .ok (.iconst 1, 1) := by decide +kernel
theorem dX12_addGears_77 : decode cX12_addGears 77 = .ok (.iadd, 1) := by decide +kernel
theorem dX12_addGears_78 : decode cX12_addGears 78 = .ok (.iload_n 2, 1) := by decide +kernel
theorem dX12_addGears_79 : decode cX12_addGears 79 = .ok (.iastore, 1) := by decide +kernel
theorem dX12_addGears_80 : decode cX12_addGears 80 = .ok (.aload_n 0, 1) := by decide +kernel
theorem dX12_addGears_81 : decode cX12_addGears 81 = .ok (.getfield 7, 3) := by decide +kernel
theorem dX12_addGears_84 : decode cX12_addGears 84 = .ok (.bipush 19, 2) := by decide +kernel
theorem dX12_addGears_86 : decode cX12_addGears 86 = .ok (.dup2, 1) := by decide +kernel
theorem dX12_addGears_87 : decode cX12_addGears 87 = .ok (.iaload, 1) := by decide +kernel
theorem dX12_addGears_88 : decode cX12_addGears 88 = .ok (.iconst 1, 1) := by decide +kernel
theorem dX12_addGears_89 : decode cX12_addGears 89 = .ok (.iadd, 1) := by decide +kernel
theorem dX12_addGears_90 : decode cX12_addGears 90 = .ok (.iastore, 1) := by decide +kernel
theorem dX12_addGears_91 : decode cX12_addGears 91 = .ok (.aload_n 0, 1) := by decide +kernel
theorem dX12_addGears_92 : decode cX12_addGears 92 = .ok (.getfield 7, 3) := by decide +kernel
theorem dX12_addGears_95 : decode cX12_addGears 95 = .ok (.bipush 19, 2) := by decide +kernel
theorem dX12_addGears_97 : decode cX12_addGears 97 = .ok (.iaload, 1) := by decide +kernel
theorem dX12_addGears_98 : decode cX12_addGears 98 = .ok (.ireturn, 1) := by decide +kernel
theorem dX12_isPair_0 : decode cX12_isPair 0 = .ok (.iload_n 1, 1) := by decide +kernel
theorem dX12_isPair_1 : decode cX12_isPair 1 = .ok (.iconst 0, 1) := by decide +kernel
theorem dX12_isPair_2 : decode cX12_isPair 2 = .ok (.aload_n 0, 1) := by decide +kernel
theorem dX12_isPair_3 : decode cX12_isPair 3 = .ok (.getfield 7, 3) := by decide +kernel
theorem dX12_isPair_6 : decode cX12_isPair 6 = .ok (.bipush 19, 2) := by decide +kernel
theorem dX12_isPair_8 : decode cX12_isPair 8 = .ok (.iaload, 1) := by decide +kernel
theorem dX12_isPair_9 : decode cX12_isPair 9 = .ok (.iconst 1, 1) := by decide +kernel
theorem dX12_isPair_10 : decode cX12_isPair 10 = .ok (.isub, 1) := by decide +kernel
theorem dX12_isPair_11 : decode cX12_isPair 11 = .ok (.invokestatic 33, 3) := by decide +kernel
theorem dX12_isPair_14 : decode cX12_isPair 14 = .ok (.ireturn, 1) := by decide +kernel
theorem dX12_removeGears_0 : decode cX12_removeGears 0 = .ok (.aload_n 0, 1) := by decide +kernel
theorem dX12_removeGears_1 : decode cX12_removeGears 1 = .ok (.iload_n 1, 1) := by decide +kernel
theorem dX12_removeGears_2 : decode cX12_removeGears 2 = .ok (.invokevirtual 82, 3) := by decide +kernel
theorem dX12_removeGears_5 : decode cX12_removeGears 5 = .ok (.ifCond .ne 5, 3) := by decide +kernel
theorem dX12_removeGears_8 : decode cX12_removeGears 8 = .ok (.iconst (-1), 1) := by decide +kernel
theorem dX12_removeGears_9 : decode cX12_removeGears 9 = .ok (.ireturn, 1) := by decide +kernel
theorem dX12_removeGears_10 : decode cX12_removeGears 10 = .ok (.aload_n 0, 1) := by decide +kernel
theorem dX12_removeGears_11 : decode cX12_removeGears 11 = .ok (.invokevirtual 63, 3) := by decide +kernel
theorem dX12_removeGears_14 : decode cX12_removeGears 14 = .ok (.aload_n 0, 1) := by decide +kernel
theorem dX12_removeGears_15 : decode cX12_removeGears 15 = .ok (.getfield 7, 3) := by decide +kernel
theorem dX12_removeGears_18 : decode cX12_removeGears 18 = .ok (.bipush 19, 2) := by decide +kernel
theorem dX12_removeGears_20 : decode cX12_removeGears 20 = .ok (.dup2, 1) := by decide +kernel
theorem dX12_removeGears_21 : decode cX12_removeGears 21 = .ok (.iaload, 1) := by decide +kernel
theorem dX12_removeGears_22 : decode cX12_removeGears 22 = .ok (.iconst 1, 1) := by decide +kernel
theorem dX12_removeGears_23 : decode cX12_removeGears 23 = .ok (.isub, 1) := by decide +kernel
theorem dX12_removeGears_24 : decode cX12_removeGears 24 = .ok (.iastore, 1) := by decide +kernel
theorem dX12_removeGears_25 : decode cX12_removeGears 25 = .ok (.iconst 2, 1) := by decide +kernel
theorem dX12_removeGears_26 : decode cX12_removeGears 26 = .ok (.iload_n 1, 1) := by decide +kernel
theorem dX12_removeGears_27 : decode cX12_removeGears 27 = .ok (.imul, 1) := by decide +kernel
theorem dX12_removeGears_28 : decode cX12_removeGears 28 = .ok (.istore_n 2, 1) := by decide +kernel
theorem dX12_removeGears_29 : decode cX12_removeGears 29 = .ok (.iload_n 2, 1) := by decide +kernel
theorem dX12_removeGears_30 : decode cX12_removeGears 30 = .ok (.iconst 2, 1) := by decide +kernel
theorem dX12_removeGears_31 : decode cX12_removeGears 31 = .ok (.aload_n 0, 1) := by decide +kernel
theorem dX12_removeGears_32 : decode cX12_removeGears 32 = .ok (.getfield 7, 3) := by decide +kernel
theorem dX12_removeGears_35 : decode cX12_removeGears 35 = .ok (.bipush 19, 2) := by decide +kernel
theorem dX12_removeGears_37 : decode cX12_removeGears 37 = .ok (.iaload, 1) := by decide +kernel
theorem dX12_removeGears_38 : decode cX12_removeGears 38 = .ok (.imul, 1) := by decide +kernel
theorem dX12_removeGears_39 : decode cX12_removeGears 39 = .ok (.if_icmp .ge 29, 3) := by decide +kernel
theorem dX12_removeGears_42 : decode cX12_removeGears 42 = .ok (.aload_n 0, 1) := by decide +kernel
theorem dX12_removeGears_43 : decode cX12_removeGears 43 = .ok (.getfield 7, 3) := by decide +kernel
theorem dX12_removeGears_46 : decode cX12_removeGears 46 = .ok (.bipush 20, 2) := by decide +kernel
theorem dX12_removeGears_48 : decode cX12_removeGears 48 = .ok (.iload_n 2, 1) := by decide +kernel
theorem dX12_removeGears_49 : decode cX12_removeGears 49 = .ok (.iadd, 1) := by decide +kernel
theorem dX12_removeGears_50 : decode cX12_removeGears 50 = .ok (.aload_n 0, 1) := by decide +kernel
theorem dX12_removeGears_51 : decode cX12_removeGears 51 = .ok (.getfield 7, 3) := by decide +kernel
theorem dX12_removeGears_54 : decode cX12_removeGears 54 = .ok (.bipush 20, 2) := by decide +kernel
theorem dX12_removeGears_56 : decode cX12_removeGears 56 = .ok (.iload_n 2, 1) := by decide +kernel
theorem dX12_removeGears_57 : decode cX12_removeGears 57 = .ok (.iadd, 1) := by decide +kernel
theorem dX12_removeGears_58 : decode cX12_removeGears 58 = .ok (.iconst 2, 1) := by decide +kernel
theorem dX12_removeGears_59 : decode cX12_removeGears 59 = .ok (.iadd, 1) := by decide +kernel
theorem dX12_removeGears_60 : decode cX12_removeGears 60 = .ok (.iaload, 1) := by decide +kernel
theorem dX12_removeGears_61 : decode cX12_removeGears 61 = .ok (.iastore, 1) := by decide +kernel
theorem dX12_removeGears_62 : decode cX12_removeGears 62 = .ok (.iinc 2 1, 3) := by decide +kernel
theorem dX12_removeGears_65 : decode cX12_removeGears 65 = .ok (.goto (-36), 3) := by decide +kernel
theorem dX12_removeGears_68 : decode cX12_removeGears 68 = .ok (.aload_n 0, 1) := by decide +kernel
theorem dX12_removeGears_69 : decode cX12_removeGears 69 = .ok (.getfield 7, 3) := by decide +kernel
theorem dX12_removeGears_72 : decode cX12_removeGears 72 = .ok (.bipush 19, 2) := by decide +kernel
theorem dX12_removeGears_74 : decode cX12_removeGears 74 = .ok (.iaload, 1) := by decide +kernel
theorem dX12_removeGears_75 : decode cX12_removeGears 75 = .ok (.ireturn, 1) := by decide +kernel
theorem dX12_gear_0 : decode cX12_gear 0 = .ok (.aload_n 0, 1) := by decide +kernel
theorem dX12_gear_1 : decode cX12_gear 1 = .ok (.iload_n 1, 1) := by decide +kernel
theorem dX12_gear_2 : decode cX12_gear 2 = .ok (.invokevirtual 82, 3) := by decide +kernel
theorem dX12_gear_5 : decode cX12_gear 5 = .ok (.ifCond .eq 28, 3) := by decide +kernel
theorem dX12_gear_8 : decode cX12_gear 8 = .ok (.iload_n 2, 1) := by decide +kernel
theorem dX12_gear_9 : decode cX12_gear 9 = .ok (.iconst 0, 1) := by decide +kernel
theorem dX12_gear_10 : decode cX12_gear 10 = .ok (.iconst 1, 1) := by decide +kernel
theorem dX12_gear_11 : decode cX12_gear 11 = .ok (.invokestatic 33, 3) := by decide +kernel
theorem dX12_gear_14 : decode cX12_gear 14 = .ok (.ifCond .eq 19, 3) := by decide +kernel
theorem dX12_gear_17 : decode cX12_gear 17 = .ok (.aload_n 0, 1) := by decide +kernel
theorem dX12_gear_18 : decode cX12_gear 18 = .ok (.getfield 7, 3) := by decide +kernel
theorem dX12_gear_21 : decode cX12_gear 21 = .ok (.bipush 20, 2) := by decide +kernel
theorem dX12_gear_23 : decode cX12_gear 23 = .ok (.iconst 2, 1) := by decide +kernel
theorem dX12_gear_24 : decode cX12_gear 24 = .ok (.iload_n 1, 1) := by decide +kernel
theorem dX12_gear_25 : decode cX12_gear 25 = .ok (.imul, 1) := by decide +kernel
theorem dX12_gear_26 : decode cX12_gear 26 = .ok (.iadd, 1) := by decide +kernel
theorem dX12_gear_27 : decode cX12_gear 27 = .ok (.iload_n 2, 1) := by decide +kernel
theorem dX12_gear_28 : decode cX12_gear 28 = .ok (.iadd, 1) := by decide +kernel
theorem dX12_gear_29 : decode cX12_gear 29 = .ok (.iaload, 1) := by decide +kernel
theorem dX12_gear_30 : decode cX12_gear 30 = .ok (.goto 4, 3) := by decide +kernel
theorem dX12_gear_33 : decode cX12_gear 33 = .ok (.iconst (-1), 1) := by decide +kernel
theorem dX12_gear_34 : decode cX12_gear 34 = .ok (.ireturn, 1) := by decide +kernel
theorem dX12_count_0 : decode cX12_count 0 = .ok (.iload_n 1, 1) := by decide +kernel
theorem dX12_count_1 : decode cX12_count 1 = .ok (.bipush 20, 2) := by decide +kernel
theorem dX12_count_3 : decode cX12_count 3 = .ok (.bipush 27, 2) := by decide +kernel
theorem dX12_count_5 : decode cX12_count 5 = .ok (.invokestatic 33, 3) := by decide +kernel
theorem dX12_count_8 : decode cX12_count 8 = .ok (.ifCond .eq 16, 3) := by decide +kernel
theorem dX12_count_11 : decode cX12_count 11 = .ok (.aload_n 0, 1) := by decide +kernel
theorem dX12_count_12 : decode cX12_count 12 = .ok (.getfield 7, 3) := by decide +kernel
theorem dX12_count_15 : decode cX12_count 15 = .ok (.bipush 11, 2) := by decide +kernel
theorem dX12_count_17 : decode cX12_count 17 = .ok (.iload_n 1, 1) := by decide +kernel
theorem dX12_count_18 : decode cX12_count 18 = .ok (.iadd, 1) := by decide +kernel
theorem dX12_count_19 : decode cX12_count 19 = .ok (.bipush 20, 2) := by decide +kernel
theorem dX12_count_21 : decode cX12_count 21 = .ok (.isub, 1) := by decide +kernel
theorem dX12_count_22 : decode cX12_count 22 = .ok (.iaload, 1) := by decide +kernel
theorem dX12_count_23 : decode cX12_count 23 = .ok (.ireturn, 1) := by decide +kernel
theorem dX12_count_24 : decode cX12_count 24 = .ok (.iload_n 1, 1) := by decide +kernel
theorem dX12_count_25 : decode cX12_count 25 = .ok (.tableswitch 140 0 13 #[71, 78, 86, 94, 103, 103, 103, 103, 103, 112, 117, 125, 130, 135], 71) := by decide +kernel
theorem dX12_count_96 : decode cX12_count 96 = .ok (.aload_n 0, 1) := by decide +kernel
theorem dX12_count_97 : decode cX12_count 97 = .ok (.getfield 7, 3) := by decide +kernel
theorem dX12_count_100 : decode cX12_count 100 = .ok (.iconst 0, 1) := by decide +kernel
theorem dX12_count_101 : decode cX12_count 101 = .ok (.iaload, 1) := by decide +kernel
theorem dX12_count_102 : decode cX12_count 102 = .ok (.ireturn, 1) := by decide +kernel
theorem dX12_count_103 : decode cX12_count 103 = .ok (.aload_n 0, 1) := by decide +kernel
theorem dX12_count_104 : decode cX12_count 104 = .ok (.getfield 7, 3) := by decide +kernel
theorem dX12_count_107 : decode cX12_count 107 = .ok (.bipush 26, 2) := by decide +kernel
theorem dX12_count_109 : decode cX12_count 109 = .ok (.iaload, 1) := by decide +kernel
theorem dX12_count_110 : decode cX12_count 110 = .ok (.ireturn, 1) := by decide +kernel
theorem dX12_count_111 : decode cX12_count 111 = .ok (.aload_n 0, 1) := by decide +kernel
theorem dX12_count_112 : decode cX12_count 112 = .ok (.getfield 7, 3) := by decide +kernel
theorem dX12_count_115 : decode cX12_count 115 = .ok (.bipush 63, 2) := by decide +kernel
theorem dX12_count_117 : decode cX12_count 117 = .ok (.iaload, 1) := by decide +kernel
theorem dX12_count_118 : decode cX12_count 118 = .ok (.ireturn, 1) := by decide +kernel
theorem dX12_count_119 : decode cX12_count 119 = .ok (.aload_n 0, 1) := by decide +kernel
theorem dX12_count_120 : decode cX12_count 120 = .ok (.invokevirtual 85, 3) := by decide +kernel
theorem dX12_count_123 : decode cX12_count 123 = .ok (.aload_n 0, 1) := by decide +kernel
theorem dX12_count_124 : decode cX12_count 124 = .ok (.getfield 88, 3) := by decide +kernel
theorem dX12_count_127 : decode cX12_count 127 = .ok (.ireturn, 1) := by decide +kernel
theorem dX12_count_128 : decode cX12_count 128 = .ok (.aload_n 0, 1) := by decide +kernel
theorem dX12_count_129 : decode cX12_count 129 = .ok (.getfield 7, 3) := by decide +kernel
theorem dX12_count_132 : decode cX12_count 132 = .ok (.iload_n 1, 1) := by decide +kernel
theorem dX12_count_133 : decode cX12_count 133 = .ok (.iconst 3, 1) := by decide +kernel
theorem dX12_count_134 : decode cX12_count 134 = .ok (.isub, 1) := by decide +kernel
theorem dX12_count_135 : decode cX12_count 135 = .ok (.iaload, 1) := by decide +kernel
theorem dX12_count_136 : decode cX12_count 136 = .ok (.ireturn, 1) := by decide +kernel
theorem dX12_count_137 : decode cX12_count 137 = .ok (.aload_n 0, 1) := by decide +kernel
theorem dX12_count_138 : decode cX12_count 138 = .ok (.invokevirtual 37, 3) := by decide +kernel
theorem dX12_count_141 : decode cX12_count 141 = .ok (.ireturn, 1) := by decide +kernel
theorem dX12_count_142 : decode cX12_count 142 = .ok (.aload_n 0, 1) := by decide +kernel
theorem dX12_count_143 : decode cX12_count 143 = .ok (.getfield 7, 3) := by decide +kernel
theorem dX12_count_146 : decode cX12_count 146 = .ok (.bipush 19, 2) := by decide +kernel
theorem dX12_count_148 : decode cX12_count 148 = .ok (.iaload, 1) := by decide +kernel
theorem dX12_count_149 : decode cX12_count 149 = .ok (.ireturn, 1) := by decide +kernel
theorem dX12_count_150 : decode cX12_count 150 = .ok (.aload_n 0, 1) := by decide +kernel
theorem dX12_count_151 : decode cX12_count 151 = .ok (.getfield 29, 3) := by decide +kernel
theorem dX12_count_154 : decode cX12_count 154 = .ok (.ireturn, 1) := by decide +kernel
theorem dX12_count_155 : decode cX12_count 155 = .ok (.aload_n 0, 1) := by decide +kernel
theorem dX12_count_156 : decode cX12_count 156 = .ok (.getfield 91, 3) := by decide +kernel
theorem dX12_count_159 : decode cX12_count 159 = .ok (.ireturn, 1) := by decide +kernel
theorem dX12_count_160 : decode cX12_count 160 = .ok (.aload_n 0, 1) := by decide +kernel
theorem dX12_count_161 : decode cX12_count 161 = .ok (.invokevirtual 45, 3) := by decide +kernel
theorem dX12_count_164 : decode cX12_count 164 = .ok (.ireturn, 1) := by decide +kernel
theorem dX12_count_165 : decode cX12_count 165 = .ok (.iconst (-1), 1) := by decide +kernel
theorem dX12_count_166 : decode cX12_count 166 = .ok (.ireturn, 1) := by decide +kernel
theorem dX12_account_0 : decode cX12_account 0 = .ok (.iload_n 1, 1) := by decide +kernel
theorem dX12_account_1 : decode cX12_account 1 = .ok (.iconst 0, 1) := by decide +kernel
theorem dX12_account_2 : decode cX12_account 2 = .ok (.iconst 4, 1) := by decide +kernel
theorem dX12_account_3 : decode cX12_account 3 = .ok (.invokestatic 33, 3) := by decide +kernel
theorem dX12_account_6 : decode cX12_account 6 = .ok (.ifCond .eq 15, 3) := by decide +kernel
theorem dX12_account_9 : decode cX12_account 9 = .ok (.aload_n 0, 1) := by decide +kernel
theorem dX12_account_10 : decode cX12_account 10 = .ok (.getfield 7, 3) := by decide +kernel
theorem dX12_account_13 : decode cX12_account 13 = .ok (.bipush 6, 2) := by decide +kernel
theorem dX12_account_15 : decode cX12_account 15 = .ok (.iload_n 1, 1) := by decide +kernel
theorem dX12_account_16 : decode cX12_account 16 = .ok (.iadd, 1) := by decide +kernel
theorem dX12_account_17 : decode cX12_account 17 = .ok (.iaload, 1) := by decide +kernel
theorem dX12_account_18 : decode cX12_account 18 = .ok (.goto 4, 3) := by decide +kernel
theorem dX12_account_21 : decode cX12_account 21 = .ok (.iconst (-1), 1) := by decide +kernel
theorem dX12_account_22 : decode cX12_account 22 = .ok (.ireturn, 1) := by decide +kernel
theorem dX12_mark_0 : decode cX12_mark 0 = .ok (.iload_n 1, 1) := by decide +kernel
theorem dX12_mark_1 : decode cX12_mark 1 = .ok (.iconst 0, 1) := by decide +kernel
theorem dX12_mark_2 : decode cX12_mark 2 = .ok (.aload_n 0, 1) := by decide +kernel
theorem dX12_mark_3 : decode cX12_mark 3 = .ok (.getfield 7, 3) := by decide +kernel
theorem dX12_mark_6 : decode cX12_mark 6 = .ok (.bipush 63, 2) := by decide +kernel
theorem dX12_mark_8 : decode cX12_mark 8 = .ok (.iaload, 1) := by decide +kernel
theorem dX12_mark_9 : decode cX12_mark 9 = .ok (.iconst 1, 1) := by decide +kernel
theorem dX12_mark_10 : decode cX12_mark 10 = .ok (.isub, 1) := by decide +kernel
theorem dX12_mark_11 : decode cX12_mark 11 = .ok (.invokestatic 33, 3) := by decide +kernel
theorem dX12_mark_14 : decode cX12_mark 14 = .ok (.ifCond .eq 29, 3) := by decide +kernel
theorem dX12_mark_17 : decode cX12_mark 17 = .ok (.iload_n 2, 1) := by decide +kernel
theorem dX12_mark_18 : decode cX12_mark 18 = .ok (.iconst 0, 1) := by decide +kernel
theorem dX12_mark_19 : decode cX12_mark 19 = .ok (.iconst 2, 1) := by decide +kernel
theorem dX12_mark_20 : decode cX12_mark 20 = .ok (.invokestatic 33, 3) := by decide +kernel
theorem dX12_mark_23 : decode cX12_mark 23 = .ok (.ifCond .eq 20, 3) := by decide +kernel
theorem dX12_mark_26 : decode cX12_mark 26 = .ok (.aload_n 0, 1) := by decide +kernel
theorem dX12_mark_27 : decode cX12_mark 27 = .ok (.getfield 7, 3) := by decide +kernel
theorem dX12_mark_30 : decode cX12_mark 30 = .ok (.bipush 64, 2) := by decide +kernel
theorem dX12_mark_32 : decode cX12_mark 32 = .ok (.bipush 60, 2) := by decide +kernel
theorem dX12_mark_34 : decode cX12_mark 34 = .ok (.iload_n 2, 1) := by decide +kernel
theorem dX12_mark_35 : decode cX12_mark 35 = .ok (.imul, 1) := by decide +kernel
theorem dX12_mark_36 : decode cX12_mark 36 = .ok (.iadd, 1) := by decide +kernel
theorem dX12_mark_37 : decode cX12_mark 37 = .ok (.iload_n 1, 1) := by decide +kernel
theorem dX12_mark_38 : decode cX12_mark 38 = .ok (.iadd, 1) := by decide +kernel
theorem dX12_mark_39 : decode cX12_mark 39 = .ok (.iaload, 1) := by decide +kernel
theorem dX12_mark_40 : decode cX12_mark 40 = .ok (.goto 4, 3) := by decide +kernel
theorem dX12_mark_43 : decode cX12_mark 43 = .ok (.iconst (-1), 1) := by decide +kernel
theorem dX12_mark_44 : decode cX12_mark 44 = .ok (.ireturn, 1) := by decide +kernel
theorem dX12_apart_0 : decode cX12_apart 0 = .ok (.aload_n 0, 1) := by decide +kernel
theorem dX12_apart_1 : decode cX12_apart 1 = .ok (.getfield 7, 3) := by decide +kernel
theorem dX12_apart_4 : decode cX12_apart 4 = .ok (.bipush 64, 2) := by decide +kernel
theorem dX12_apart_6 : decode cX12_apart 6 = .ok (.iload_n 1, 1) := by decide +kernel
theorem dX12_apart_7 : decode cX12_apart 7 = .ok (.iadd, 1) := by decide +kernel
theorem dX12_apart_8 : decode cX12_apart 8 = .ok (.iaload, 1) := by decide +kernel
theorem dX12_apart_9 : decode cX12_apart 9 = .ok (.aload_n 0, 1) := by decide +kernel
theorem dX12_apart_10 : decode cX12_apart 10 = .ok (.getfield 7, 3) := by decide +kernel
theorem dX12_apart_13 : decode cX12_apart 13 = .ok (.bipush 64, 2) := by decide +kernel
theorem dX12_apart_15 : decode cX12_apart 15 = .ok (.iload_n 1, 1) := by decide +kernel
theorem dX12_apart_16 : decode cX12_apart 16 = .ok (.iadd, 1) := by decide +kernel
theorem dX12_apart_17 : decode cX12_apart 17 = .ok (.iconst 1, 1) := by decide +kernel
theorem dX12_apart_18 : decode cX12_apart 18 = .ok (.isub, 1) := by decide +kernel
theorem dX12_apart_19 : decode cX12_apart 19 = .ok (.iaload, 1) := by decide +kernel
theorem dX12_apart_20 : decode cX12_apart 20 = .ok (.isub, 1) := by decide +kernel
theorem dX12_apart_21 : decode cX12_apart 21 = .ok (.ireturn, 1) := by decide +kernel
theorem dX12_parts_0 : decode cX12_parts 0 = .ok (.aload_n 0, 1) := by decide +kernel
theorem dX12_parts_1 : decode cX12_parts 1 = .ok (.iconst 0, 1) := by decide +kernel
theorem dX12_parts_2 : decode cX12_parts 2 = .ok (.putfield 88, 3) := by decide +kernel
theorem dX12_parts_5 : decode cX12_parts 5 = .ok (.iconst 0, 1) := by decide +kernel
theorem dX12_parts_6 : decode cX12_parts 6 = .ok (.istore_n 1, 1) := by decide +kernel
theorem dX12_parts_7 : decode cX12_parts 7 = .ok (.iload_n 1, 1) := by decide +kernel
theorem dX12_parts_8 : decode cX12_parts 8 = .ok (.aload_n 0, 1) := by decide +kernel
theorem dX12_parts_9 : decode cX12_parts 9 = .ok (.getfield 7, 3) := by decide +kernel
theorem dX12_parts_12 : decode cX12_parts 12 = .ok (.bipush 63, 2) := by decide +kernel
theorem dX12_parts_14 : decode cX12_parts 14 = .ok (.iaload, 1) := by decide +kernel
theorem dX12_parts_15 : decode cX12_parts 15 = .ok (.if_icmp .ge 48, 3) := by decide +kernel
theorem dX12_parts_18 : decode cX12_parts 18 = .ok (.iload_n 1, 1) := by decide +kernel
theorem dX12_parts_19 : decode cX12_parts 19 = .ok (.ifCond .eq 18, 3) := by decide +kernel
theorem dX12_parts_22 : decode cX12_parts 22 = .ok (.aload_n 0, 1) := by decide +kernel
theorem dX12_parts_23 : decode cX12_parts 23 = .ok (.iload_n 1, 1) := by decide +kernel
theorem dX12_parts_24 : decode cX12_parts 24 = .ok (.invokevirtual 94, 3) := by decide +kernel
theorem dX12_parts_27 : decode cX12_parts 27 = .ok (.aload_n 0, 1) := by decide +kernel
theorem dX12_parts_28 : decode cX12_parts 28 = .ok (.getfield 7, 3) := by decide +kernel
theorem dX12_parts_31 : decode cX12_parts 31 = .ok (.bipush 18, 2) := by decide +kernel
theorem dX12_parts_33 : decode cX12_parts 33 = .ok (.iaload, 1) := by decide +kernel
theorem dX12_parts_34 : decode cX12_parts 34 = .ok (.if_icmp .le 23, 3) := by decide +kernel
theorem dX12_parts_37 : decode cX12_parts 37 = .ok (.aload_n 0, 1) := by decide +kernel
theorem dX12_parts_38 : decode cX12_parts 38 = .ok (.getfield 26, 3) := by decide +kernel
theorem dX12_parts_41 : decode cX12_parts 41 = .ok (.aload_n 0, 1) := by decide +kernel
theorem dX12_parts_42 : decode cX12_parts 42 = .ok (.getfield 88, 3) := by decide +kernel
theorem dX12_parts_45 : decode cX12_parts 45 = .ok (.iload_n 1, 1) := by decide +kernel
theorem dX12_parts_46 : decode cX12_parts 46 = .ok (.iastore, 1) := by decide +kernel
theorem dX12_parts_47 : decode cX12_parts 47 = .ok (.aload_n 0, 1) := by decide +kernel
theorem dX12_parts_48 : decode cX12_parts 48 = .ok (.dup, 1) := by decide +kernel
theorem dX12_parts_49 : decode cX12_parts 49 = .ok (.getfield 88, 3) := by decide +kernel
theorem dX12_parts_52 : decode cX12_parts 52 = .ok (.iconst 1, 1) := by decide +kernel
theorem dX12_parts_53 : decode cX12_parts 53 = .ok (.iadd, 1) := by decide +kernel
theorem dX12_parts_54 : decode cX12_parts 54 = .ok (.putfield 88, 3) := by decide +kernel
theorem dX12_parts_57 : decode cX12_parts 57 = .ok (.iinc 1 1, 3) := by decide +kernel
theorem dX12_parts_60 : decode cX12_parts 60 = .ok (.goto (-53), 3) := by decide +kernel
theorem dX12_parts_63 : decode cX12_parts 63 = .ok (.aload_n 0, 1) := by decide +kernel
theorem dX12_parts_64 : decode cX12_parts 64 = .ok (.getfield 26, 3) := by decide +kernel
theorem dX12_parts_67 : decode cX12_parts 67 = .ok (.aload_n 0, 1) := by decide +kernel
theorem dX12_parts_68 : decode cX12_parts 68 = .ok (.getfield 88, 3) := by decide +kernel
theorem dX12_parts_71 : decode cX12_parts 71 = .ok (.aload_n 0, 1) := by decide +kernel
theorem dX12_parts_72 : decode cX12_parts 72 = .ok (.getfield 7, 3) := by decide +kernel
theorem dX12_parts_75 : decode cX12_parts 75 = .ok (.bipush 63, 2) := by decide +kernel
theorem dX12_parts_77 : decode cX12_parts 77 = .ok (.iaload, 1) := by decide +kernel
theorem dX12_parts_78 : decode cX12_parts 78 = .ok (.iastore, 1) := by decide +kernel
theorem dX12_parts_79 : decode cX12_parts 79 = .ok (.return_, 1) := by decide +kernel
theorem dX12_lossOf_0 : decode cX12_lossOf 0 = .ok (.iconst 0, 1) := by decide +kernel
theorem dX12_lossOf_1 : decode cX12_lossOf 1 = .ok (.istore_n 2, 1) := by decide +kernel
theorem dX12_lossOf_2 : decode cX12_lossOf 2 = .ok (.aload_n 0, 1) := by decide +kernel
theorem dX12_lossOf_3 : decode cX12_lossOf 3 = .ok (.getfield 26, 3) := by decide +kernel
theorem dX12_lossOf_6 : decode cX12_lossOf 6 = .ok (.iload_n 1, 1) := by decide +kernel
theorem dX12_lossOf_7 : decode cX12_lossOf 7 = .ok (.iaload, 1) := by decide +kernel
theorem dX12_lossOf_8 : decode cX12_lossOf 8 = .ok (.iconst 1, 1) := by decide +kernel
theorem dX12_lossOf_9 : decode cX12_lossOf 9 = .ok (.iadd, 1) := by decide +kernel
theorem dX12_lossOf_10 : decode cX12_lossOf 10 = .ok (.istore_n 3, 1) := by decide +kernel
theorem dX12_lossOf_11 : decode cX12_lossOf 11 = .ok (.iload_n 3, 1) := by decide +kernel
theorem dX12_lossOf_12 : decode cX12_lossOf 12 = .ok (.aload_n 0, 1) := by decide +kernel
theorem dX12_lossOf_13 : decode cX12_lossOf 13 = .ok (.getfield 26, 3) := by decide +kernel
theorem dX12_lossOf_16 : decode cX12_lossOf 16 = .ok (.iload_n 1, 1) := by decide +kernel
theorem dX12_lossOf_17 : decode cX12_lossOf 17 = .ok (.iconst 1, 1) := by decide +kernel
theorem dX12_lossOf_18 : decode cX12_lossOf 18 = .ok (.iadd, 1) := by decide +kernel
theorem dX12_lossOf_19 : decode cX12_lossOf 19 = .ok (.iaload, 1) := by decide +kernel
theorem dX12_lossOf_20 : decode cX12_lossOf 20 = .ok (.if_icmp .ge 33, 3) := by decide +kernel
theorem dX12_lossOf_23 : decode cX12_lossOf 23 = .ok (.iload_n 2, 1) := by decide +kernel
theorem dX12_lossOf_24 : decode cX12_lossOf 24 = .ok (.aload_n 0, 1) := by decide +kernel
theorem dX12_lossOf_25 : decode cX12_lossOf 25 = .ok (.getfield 7, 3) := by decide +kernel
theorem dX12_lossOf_28 : decode cX12_lossOf 28 = .ok (.bipush 11, 2) := by decide +kernel
theorem dX12_lossOf_30 : decode cX12_lossOf 30 = .ok (.iaload, 1) := by decide +kernel
theorem dX12_lossOf_31 : decode cX12_lossOf 31 = .ok (.aload_n 0, 1) := by decide +kernel
theorem dX12_lossOf_32 : decode cX12_lossOf 32 = .ok (.getfield 7, 3) := by decide +kernel
theorem dX12_lossOf_35 : decode cX12_lossOf 35 = .ok (.bipush 12, 2) := by decide +kernel
theorem dX12_lossOf_37 : decode cX12_lossOf 37 = .ok (.iaload, 1) := by decide +kernel
theorem dX12_lossOf_38 : decode cX12_lossOf 38 = .ok (.imul, 1) := by decide +kernel
theorem dX12_lossOf_39 : decode cX12_lossOf 39 = .ok (.aload_n 0, 1) := by decide +kernel
theorem dX12_lossOf_40 : decode cX12_lossOf 40 = .ok (.iload_n 3, 1) := by decide +kernel
theorem dX12_lossOf_41 : decode cX12_lossOf 41 = .ok (.invokevirtual 94, 3) := by decide +kernel
theorem dX12_lossOf_44 : decode cX12_lossOf 44 = .ok (.idiv, 1) := by decide +kernel
theorem dX12_lossOf_45 : decode cX12_lossOf 45 = .ok (.iadd, 1) := by decide +kernel
theorem dX12_lossOf_46 : decode cX12_lossOf 46 = .ok (.istore_n 2, 1) := by decide +kernel
theorem dX12_lossOf_47 : decode cX12_lossOf 47 = .ok (.iinc 3 1, 3) := by decide +kernel
theorem dX12_lossOf_50 : decode cX12_lossOf 50 = .ok (.goto (-39), 3) := by decide +kernel
theorem dX12_lossOf_53 : decode cX12_lossOf 53 = .ok (.iload_n 2, 1) := by decide +kernel
theorem dX12_lossOf_54 : decode cX12_lossOf 54 = .ok (.ireturn, 1) := by decide +kernel
theorem dX12_amountOf_0 : decode cX12_amountOf 0 = .ok (.aload_n 0, 1) := by decide +kernel
theorem dX12_amountOf_1 : decode cX12_amountOf 1 = .ok (.getfield 26, 3) := by decide +kernel
theorem dX12_amountOf_4 : decode cX12_amountOf 4 = .ok (.iload_n 1, 1) := by decide +kernel
theorem dX12_amountOf_5 : decode cX12_amountOf 5 = .ok (.iconst 1, 1) := by decide +kernel
theorem dX12_amountOf_6 : decode cX12_amountOf 6 = .ok (.iadd, 1) := by decide +kernel
theorem dX12_amountOf_7 : decode cX12_amountOf 7 = .ok (.iaload, 1) := by decide +kernel
theorem dX12_amountOf_8 : decode cX12_amountOf 8 = .ok (.aload_n 0, 1) := by decide +kernel
theorem dX12_amountOf_9 : decode cX12_amountOf 9 = .ok (.getfield 26, 3) := by decide +kernel
theorem dX12_amountOf_12 : decode cX12_amountOf 12 = .ok (.iload_n 1, 1) := by decide +kernel
theorem dX12_amountOf_13 : decode cX12_amountOf 13 = .ok (.iaload, 1) := by decide +kernel
theorem dX12_amountOf_14 : decode cX12_amountOf 14 = .ok (.isub, 1) := by decide +kernel
theorem dX12_amountOf_15 : decode cX12_amountOf 15 = .ok (.aload_n 0, 1) := by decide +kernel
theorem dX12_amountOf_16 : decode cX12_amountOf 16 = .ok (.getfield 7, 3) := by decide +kernel
theorem dX12_amountOf_19 : decode cX12_amountOf 19 = .ok (.bipush 11, 2) := by decide +kernel
theorem dX12_amountOf_21 : decode cX12_amountOf 21 = .ok (.iaload, 1) := by decide +kernel
theorem dX12_amountOf_22 : decode cX12_amountOf 22 = .ok (.imul, 1) := by decide +kernel
theorem dX12_amountOf_23 : decode cX12_amountOf 23 = .ok (.ireturn, 1) := by decide +kernel
theorem dX12_peakOf_0 : decode cX12_peakOf 0 = .ok (.iconst 0, 1) := by decide +kernel
theorem dX12_peakOf_1 : decode cX12_peakOf 1 = .ok (.istore_n 2, 1) := by decide +kernel
theorem dX12_peakOf_2 : decode cX12_peakOf 2 = .ok (.aload_n 0, 1) := by decide +kernel
theorem dX12_peakOf_3 : decode cX12_peakOf 3 = .ok (.getfield 26, 3) := by decide +kernel
theorem dX12_peakOf_6 : decode cX12_peakOf 6 = .ok (.iload_n 1, 1) := by decide +kernel
theorem dX12_peakOf_7 : decode cX12_peakOf 7 = .ok (.iaload, 1) := by decide +kernel
theorem dX12_peakOf_8 : decode cX12_peakOf 8 = .ok (.istore_n 3, 1) := by decide +kernel
theorem dX12_peakOf_9 : decode cX12_peakOf 9 = .ok (.iload_n 3, 1) := by decide +kernel
theorem dX12_peakOf_10 : decode cX12_peakOf 10 = .ok (.aload_n 0, 1) := by decide +kernel
theorem dX12_peakOf_11 : decode cX12_peakOf 11 = .ok (.getfield 26, 3) := by decide +kernel
theorem dX12_peakOf_14 : decode cX12_peakOf 14 = .ok (.iload_n 1, 1) := by decide +kernel
theorem dX12_peakOf_15 : decode cX12_peakOf 15 = .ok (.iconst 1, 1) := by decide +kernel
theorem dX12_peakOf_16 : decode cX12_peakOf 16 = .ok (.iadd, 1) := by decide +kernel
theorem dX12_peakOf_17 : decode cX12_peakOf 17 = .ok (.iaload, 1) := by decide +kernel
theorem dX12_peakOf_18 : decode cX12_peakOf 18 = .ok (.if_icmp .ge 82, 3) := by decide +kernel
theorem dX12_peakOf_21 : decode cX12_peakOf 21 = .ok (.iconst 0, 1) := by decide +kernel
theorem dX12_peakOf_22 : decode cX12_peakOf 22 = .ok (.istore 4, 2) := by decide +kernel
theorem dX12_peakOf_24 : decode cX12_peakOf 24 = .ok (.iload_n 3, 1) := by decide +kernel
theorem dX12_peakOf_25 : decode cX12_peakOf 25 = .ok (.istore 5, 2) := by decide +kernel
theorem dX12_peakOf_27 : decode cX12_peakOf 27 = .ok (.iload 5, 2) := by decide +kernel
theorem dX12_peakOf_29 : decode cX12_peakOf 29 = .ok (.aload_n 0, 1) := by decide +kernel
theorem dX12_peakOf_30 : decode cX12_peakOf 30 = .ok (.getfield 26, 3) := by decide +kernel
theorem dX12_peakOf_33 : decode cX12_peakOf 33 = .ok (.iload_n 1, 1) := by decide +kernel
theorem dX12_peakOf_34 : decode cX12_peakOf 34 = .ok (.iconst 1, 1) := by decide +kernel
theorem dX12_peakOf_35 : decode cX12_peakOf 35 = .ok (.iadd, 1) := by decide +kernel
theorem dX12_peakOf_36 : decode cX12_peakOf 36 = .ok (.iaload, 1) := by decide +kernel
theorem dX12_peakOf_37 : decode cX12_peakOf 37 = .ok (.if_icmp .ge 44, 3) := by decide +kernel
theorem dX12_peakOf_40 : decode cX12_peakOf 40 = .ok (.iload 4, 2) := by decide +kernel
theorem dX12_peakOf_42 : decode cX12_peakOf 42 = .ok (.aload_n 0, 1) := by decide +kernel
theorem dX12_peakOf_43 : decode cX12_peakOf 43 = .ok (.getfield 7, 3) := by decide +kernel
theorem dX12_peakOf_46 : decode cX12_peakOf 46 = .ok (.bipush 64, 2) := by decide +kernel
theorem dX12_peakOf_48 : decode cX12_peakOf 48 = .ok (.iload 5, 2) := by decide +kernel
theorem dX12_peakOf_50 : decode cX12_peakOf 50 = .ok (.iadd, 1) := by decide +kernel
theorem dX12_peakOf_51 : decode cX12_peakOf 51 = .ok (.iaload, 1) := by decide +kernel
theorem dX12_peakOf_52 : decode cX12_peakOf 52 = .ok (.aload_n 0, 1) := by decide +kernel
theorem dX12_peakOf_53 : decode cX12_peakOf 53 = .ok (.getfield 7, 3) := by decide +kernel
theorem dX12_peakOf_56 : decode cX12_peakOf 56 = .ok (.bipush 64, 2) := by decide +kernel
theorem dX12_peakOf_58 : decode cX12_peakOf 58 = .ok (.iload_n 3, 1) := by decide +kernel
theorem dX12_peakOf_59 : decode cX12_peakOf 59 = .ok (.iadd, 1) := by decide +kernel
theorem dX12_peakOf_60 : decode cX12_peakOf 60 = .ok (.iaload, 1) := by decide +kernel
theorem dX12_peakOf_61 : decode cX12_peakOf 61 = .ok (.isub, 1) := by decide +kernel
theorem dX12_peakOf_62 : decode cX12_peakOf 62 = .ok (.bipush 30, 2) := by decide +kernel
theorem dX12_peakOf_64 : decode cX12_peakOf 64 = .ok (.if_icmp .ge 7, 3) := by decide +kernel
theorem dX12_peakOf_67 : decode cX12_peakOf 67 = .ok (.iconst 1, 1) := by decide +kernel
theorem dX12_peakOf_68 : decode cX12_peakOf 68 = .ok (.goto 4, 3) := by decide +kernel
theorem dX12_peakOf_71 : decode cX12_peakOf 71 = .ok (.iconst 0, 1) := by decide +kernel
theorem dX12_peakOf_72 : decode cX12_peakOf 72 = .ok (.iadd, 1) := by decide +kernel
theorem dX12_peakOf_73 : decode cX12_peakOf 73 = .ok (.istore 4, 2) := by decide +kernel
theorem dX12_peakOf_75 : decode cX12_peakOf 75 = .ok (.iinc 5 1, 3) := by decide +kernel
theorem dX12_peakOf_78 : decode cX12_peakOf 78 = .ok (.goto (-51), 3) := by decide +kernel
theorem dX12_peakOf_81 : decode cX12_peakOf 81 = .ok (.iload 4, 2) := by decide +kernel
theorem dX12_peakOf_83 : decode cX12_peakOf 83 = .ok (.iload_n 2, 1) := by decide +kernel
theorem dX12_peakOf_84 : decode cX12_peakOf 84 = .ok (.if_icmp .le 8, 3) := by decide +kernel
theorem dX12_peakOf_87 : decode cX12_peakOf 87 = .ok (.iload 4, 2) := by decide +kernel
theorem dX12_peakOf_89 : decode cX12_peakOf 89 = .ok (.goto 4, 3) := by decide +kernel
theorem dX12_peakOf_92 : decode cX12_peakOf 92 = .ok (.iload_n 2, 1) := by decide +kernel
theorem dX12_peakOf_93 : decode cX12_peakOf 93 = .ok (.istore_n 2, 1) := by decide +kernel
theorem dX12_peakOf_94 : decode cX12_peakOf 94 = .ok (.iinc 3 1, 3) := by decide +kernel
theorem dX12_peakOf_97 : decode cX12_peakOf 97 = .ok (.goto (-88), 3) := by decide +kernel
theorem dX12_peakOf_100 : decode cX12_peakOf 100 = .ok (.iload_n 2, 1) := by decide +kernel
theorem dX12_peakOf_101 : decode cX12_peakOf 101 = .ok (.ireturn, 1) := by decide +kernel
theorem dX12_storm_0 : decode cX12_storm 0 = .ok (.aload_n 0, 1) := by decide +kernel
theorem dX12_storm_1 : decode cX12_storm 1 = .ok (.invokevirtual 85, 3) := by decide +kernel
theorem dX12_storm_4 : decode cX12_storm 4 = .ok (.iload_n 1, 1) := by decide +kernel
theorem dX12_storm_5 : decode cX12_storm 5 = .ok (.iconst 0, 1) := by decide +kernel
theorem dX12_storm_6 : decode cX12_storm 6 = .ok (.aload_n 0, 1) := by decide +kernel
theorem dX12_storm_7 : decode cX12_storm 7 = .ok (.getfield 88, 3) := by decide +kernel
theorem dX12_storm_10 : decode cX12_storm 10 = .ok (.iconst 1, 1) := by decide +kernel
