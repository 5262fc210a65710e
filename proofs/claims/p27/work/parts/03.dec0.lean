theorem dX0_init_0 : decode cX0_init 0 = .ok (.aload_n 0, 1) := by decide +kernel
theorem dX0_init_1 : decode cX0_init 1 = .ok (.invokespecial 3, 3) := by decide +kernel
theorem dX0_init_4 : decode cX0_init 4 = .ok (.return_, 1) := by decide +kernel
theorem dX0_copyFrom_0 : decode cX0_copyFrom 0 = .ok (.aload_n 0, 1) := by decide +kernel
theorem dX0_copyFrom_1 : decode cX0_copyFrom 1 = .ok (.aload_n 1, 1) := by decide +kernel
theorem dX0_copyFrom_2 : decode cX0_copyFrom 2 = .ok (.getfield 9, 3) := by decide +kernel
theorem dX0_copyFrom_5 : decode cX0_copyFrom 5 = .ok (.putfield 9, 3) := by decide +kernel
theorem dX0_copyFrom_8 : decode cX0_copyFrom 8 = .ok (.aload_n 0, 1) := by decide +kernel
theorem dX0_copyFrom_9 : decode cX0_copyFrom 9 = .ok (.aload_n 1, 1) := by decide +kernel
theorem dX0_copyFrom_10 : decode cX0_copyFrom 10 = .ok (.getfield 15, 3) := by decide +kernel
theorem dX0_copyFrom_13 : decode cX0_copyFrom 13 = .ok (.putfield 15, 3) := by decide +kernel
theorem dX0_copyFrom_16 : decode cX0_copyFrom 16 = .ok (.aload_n 0, 1) := by decide +kernel
theorem dX0_copyFrom_17 : decode cX0_copyFrom 17 = .ok (.aload_n 1, 1) := by decide +kernel
theorem dX0_copyFrom_18 : decode cX0_copyFrom 18 = .ok (.getfield 18, 3) := by decide +kernel
theorem dX0_copyFrom_21 : decode cX0_copyFrom 21 = .ok (.putfield 18, 3) := by decide +kernel
theorem dX0_copyFrom_24 : decode cX0_copyFrom 24 = .ok (.aload_n 0, 1) := by decide +kernel
theorem dX0_copyFrom_25 : decode cX0_copyFrom 25 = .ok (.aload_n 1, 1) := by decide +kernel
theorem dX0_copyFrom_26 : decode cX0_copyFrom 26 = .ok (.getfield 21, 3) := by decide +kernel
theorem dX0_copyFrom_29 : decode cX0_copyFrom 29 = .ok (.putfield 21, 3) := by decide +kernel
theorem dX0_copyFrom_32 : decode cX0_copyFrom 32 = .ok (.aload_n 0, 1) := by decide +kernel
theorem dX0_copyFrom_33 : decode cX0_copyFrom 33 = .ok (.aload_n 1, 1) := by decide +kernel
theorem dX0_copyFrom_34 : decode cX0_copyFrom 34 = .ok (.getfield 24, 3) := by decide +kernel
theorem dX0_copyFrom_37 : decode cX0_copyFrom 37 = .ok (.putfield 24, 3) := by decide +kernel
theorem dX0_copyFrom_40 : decode cX0_copyFrom 40 = .ok (.aload_n 0, 1) := by decide +kernel
theorem dX0_copyFrom_41 : decode cX0_copyFrom 41 = .ok (.aload_n 1, 1) := by decide +kernel
theorem dX0_copyFrom_42 : decode cX0_copyFrom 42 = .ok (.getfield 27, 3) := by decide +kernel
theorem dX0_copyFrom_45 : decode cX0_copyFrom 45 = .ok (.putfield 27, 3) := by decide +kernel
theorem dX0_copyFrom_48 : decode cX0_copyFrom 48 = .ok (.return_, 1) := by decide +kernel
theorem dX0_passTick_0 : decode cX0_passTick 0 = .ok (.aload_n 0, 1) := by decide +kernel
theorem dX0_passTick_1 : decode cX0_passTick 1 = .ok (.getfield 15, 3) := by decide +kernel
theorem dX0_passTick_4 : decode cX0_passTick 4 = .ok (.ifCond .le 25, 3) := by decide +kernel
theorem dX0_passTick_7 : decode cX0_passTick 7 = .ok (.aload_n 0, 1) := by decide +kernel
theorem dX0_passTick_8 : decode cX0_passTick 8 = .ok (.dup, 1) := by decide +kernel
theorem dX0_passTick_9 : decode cX0_passTick 9 = .ok (.getfield 24, 3) := by decide +kernel
theorem dX0_passTick_12 : decode cX0_passTick 12 = .ok (.iload_n 1, 1) := by decide +kernel
theorem dX0_passTick_13 : decode cX0_passTick 13 = .ok (.iadd, 1) := by decide +kernel
theorem dX0_passTick_14 : decode cX0_passTick 14 = .ok (.putfield 24, 3) := by decide +kernel
theorem dX0_passTick_17 : decode cX0_passTick 17 = .ok (.aload_n 0, 1) := by decide +kernel
theorem dX0_passTick_18 : decode cX0_passTick 18 = .ok (.dup, 1) := by decide +kernel
theorem dX0_passTick_19 : decode cX0_passTick 19 = .ok (.getfield 15, 3) := by decide +kernel
theorem dX0_passTick_22 : decode cX0_passTick 22 = .ok (.iconst 1, 1) := by decide +kernel
theorem dX0_passTick_23 : decode cX0_passTick 23 = .ok (.isub, 1) := by decide +kernel
theorem dX0_passTick_24 : decode cX0_passTick 24 = .ok (.putfield 15, 3) := by decide +kernel
theorem dX0_passTick_27 : decode cX0_passTick 27 = .ok (.iconst (-1), 1) := by decide +kernel
theorem dX0_passTick_28 : decode cX0_passTick 28 = .ok (.ireturn, 1) := by decide +kernel
theorem dX0_passTick_29 : decode cX0_passTick 29 = .ok (.aload_n 0, 1) := by decide +kernel
theorem dX0_passTick_30 : decode cX0_passTick 30 = .ok (.dup, 1) := by decide +kernel
theorem dX0_passTick_31 : decode cX0_passTick 31 = .ok (.getfield 9, 3) := by decide +kernel
theorem dX0_passTick_34 : decode cX0_passTick 34 = .ok (.iload_n 1, 1) := by decide +kernel
theorem dX0_passTick_35 : decode cX0_passTick 35 = .ok (.iadd, 1) := by decide +kernel
theorem dX0_passTick_36 : decode cX0_passTick 36 = .ok (.putfield 9, 3) := by decide +kernel
theorem dX0_passTick_39 : decode cX0_passTick 39 = .ok (.iload_n 2, 1) := by decide +kernel
theorem dX0_passTick_40 : decode cX0_passTick 40 = .ok (.ifCond .eq 36, 3) := by decide +kernel
theorem dX0_passTick_43 : decode cX0_passTick 43 = .ok (.aload_n 0, 1) := by decide +kernel
theorem dX0_passTick_44 : decode cX0_passTick 44 = .ok (.getfield 9, 3) := by decide +kernel
theorem dX0_passTick_47 : decode cX0_passTick 47 = .ok (.iload 5, 2) := by decide +kernel
theorem dX0_passTick_49 : decode cX0_passTick 49 = .ok (.invokestatic 30, 3) := by decide +kernel
theorem dX0_passTick_52 : decode cX0_passTick 52 = .ok (.istore 6, 2) := by decide +kernel
theorem dX0_passTick_54 : decode cX0_passTick 54 = .ok (.aload_n 0, 1) := by decide +kernel
theorem dX0_passTick_55 : decode cX0_passTick 55 = .ok (.dup, 1) := by decide +kernel
theorem dX0_passTick_56 : decode cX0_passTick 56 = .ok (.getfield 9, 3) := by decide +kernel
theorem dX0_passTick_59 : decode cX0_passTick 59 = .ok (.iload 6, 2) := by decide +kernel
theorem dX0_passTick_61 : decode cX0_passTick 61 = .ok (.isub, 1) := by decide +kernel
theorem dX0_passTick_62 : decode cX0_passTick 62 = .ok (.putfield 9, 3) := by decide +kernel
theorem dX0_passTick_65 : decode cX0_passTick 65 = .ok (.aload_n 0, 1) := by decide +kernel
theorem dX0_passTick_66 : decode cX0_passTick 66 = .ok (.dup, 1) := by decide +kernel
theorem dX0_passTick_67 : decode cX0_passTick 67 = .ok (.getfield 27, 3) := by decide +kernel
theorem dX0_passTick_70 : decode cX0_passTick 70 = .ok (.iload 6, 2) := by decide +kernel
theorem dX0_passTick_72 : decode cX0_passTick 72 = .ok (.iadd, 1) := by decide +kernel
theorem dX0_passTick_73 : decode cX0_passTick 73 = .ok (.putfield 27, 3) := by decide +kernel
theorem dX0_passTick_76 : decode cX0_passTick 76 = .ok (.aload_n 0, 1) := by decide +kernel
theorem dX0_passTick_77 : decode cX0_passTick 77 = .ok (.getfield 9, 3) := by decide +kernel
theorem dX0_passTick_80 : decode cX0_passTick 80 = .ok (.iload_n 3, 1) := by decide +kernel
theorem dX0_passTick_81 : decode cX0_passTick 81 = .ok (.if_icmp .lt 13, 3) := by decide +kernel
theorem dX0_passTick_84 : decode cX0_passTick 84 = .ok (.aload_n 0, 1) := by decide +kernel
theorem dX0_passTick_85 : decode cX0_passTick 85 = .ok (.iload_n 3, 1) := by decide +kernel
theorem dX0_passTick_86 : decode cX0_passTick 86 = .ok (.iload 4, 2) := by decide +kernel
theorem dX0_passTick_88 : decode cX0_passTick 88 = .ok (.invokevirtual 36, 3) := by decide +kernel
theorem dX0_passTick_91 : decode cX0_passTick 91 = .ok (.goto 4, 3) := by decide +kernel
theorem dX0_passTick_94 : decode cX0_passTick 94 = .ok (.iconst (-1), 1) := by decide +kernel
theorem dX0_passTick_95 : decode cX0_passTick 95 = .ok (.ireturn, 1) := by decide +kernel
theorem dX0_tip_0 : decode cX0_tip 0 = .ok (.aload_n 0, 1) := by decide +kernel
theorem dX0_tip_1 : decode cX0_tip 1 = .ok (.getfield 9, 3) := by decide +kernel
theorem dX0_tip_4 : decode cX0_tip 4 = .ok (.iload_n 1, 1) := by decide +kernel
theorem dX0_tip_5 : decode cX0_tip 5 = .ok (.isub, 1) := by decide +kernel
theorem dX0_tip_6 : decode cX0_tip 6 = .ok (.istore_n 3, 1) := by decide +kernel
theorem dX0_tip_7 : decode cX0_tip 7 = .ok (.aload_n 0, 1) := by decide +kernel
theorem dX0_tip_8 : decode cX0_tip 8 = .ok (.dup, 1) := by decide +kernel
theorem dX0_tip_9 : decode cX0_tip 9 = .ok (.getfield 18, 3) := by decide +kernel
theorem dX0_tip_12 : decode cX0_tip 12 = .ok (.iload_n 1, 1) := by decide +kernel
theorem dX0_tip_13 : decode cX0_tip 13 = .ok (.iadd, 1) := by decide +kernel
theorem dX0_tip_14 : decode cX0_tip 14 = .ok (.putfield 18, 3) := by decide +kernel
theorem dX0_tip_17 : decode cX0_tip 17 = .ok (.aload_n 0, 1) := by decide +kernel
theorem dX0_tip_18 : decode cX0_tip 18 = .ok (.dup, 1) := by decide +kernel
theorem dX0_tip_19 : decode cX0_tip 19 = .ok (.getfield 21, 3) := by decide +kernel
theorem dX0_tip_22 : decode cX0_tip 22 = .ok (.iload_n 3, 1) := by decide +kernel
theorem dX0_tip_23 : decode cX0_tip 23 = .ok (.iadd, 1) := by decide +kernel
theorem dX0_tip_24 : decode cX0_tip 24 = .ok (.putfield 21, 3) := by decide +kernel
theorem dX0_tip_27 : decode cX0_tip 27 = .ok (.aload_n 0, 1) := by decide +kernel
theorem dX0_tip_28 : decode cX0_tip 28 = .ok (.iconst 0, 1) := by decide +kernel
theorem dX0_tip_29 : decode cX0_tip 29 = .ok (.putfield 9, 3) := by decide +kernel
theorem dX0_tip_32 : decode cX0_tip 32 = .ok (.aload_n 0, 1) := by decide +kernel
theorem dX0_tip_33 : decode cX0_tip 33 = .ok (.iload_n 2, 1) := by decide +kernel
theorem dX0_tip_34 : decode cX0_tip 34 = .ok (.putfield 15, 3) := by decide +kernel
theorem dX0_tip_37 : decode cX0_tip 37 = .ok (.iload_n 3, 1) := by decide +kernel
theorem dX0_tip_38 : decode cX0_tip 38 = .ok (.ireturn, 1) := by decide +kernel
theorem dX1_init_0 : decode cX1_init 0 = .ok (.aload_n 0, 1) := by decide +kernel
theorem dX1_init_1 : decode cX1_init 1 = .ok (.invokespecial 3, 3) := by decide +kernel
theorem dX1_init_4 : decode cX1_init 4 = .ok (.aload_n 0, 1) := by decide +kernel
theorem dX1_init_5 : decode cX1_init 5 = .ok (.getstatic 9, 3) := by decide +kernel
theorem dX1_init_8 : decode cX1_init 8 = .ok (.bipush 6, 2) := by decide +kernel
theorem dX1_init_10 : decode cX1_init 10 = .ok (.iaload, 1) := by decide +kernel
theorem dX1_init_11 : decode cX1_init 11 = .ok (.putfield 13, 3) := by decide +kernel
theorem dX1_init_14 : decode cX1_init 14 = .ok (.return_, 1) := by decide +kernel
theorem dX1_copyFrom_0 : decode cX1_copyFrom 0 = .ok (.aload_n 0, 1) := by decide +kernel
theorem dX1_copyFrom_1 : decode cX1_copyFrom 1 = .ok (.aload_n 1, 1) := by decide +kernel
theorem dX1_copyFrom_2 : decode cX1_copyFrom 2 = .ok (.getfield 13, 3) := by decide +kernel
theorem dX1_copyFrom_5 : decode cX1_copyFrom 5 = .ok (.putfield 13, 3) := by decide +kernel
theorem dX1_copyFrom_8 : decode cX1_copyFrom 8 = .ok (.aload_n 0, 1) := by decide +kernel
theorem dX1_copyFrom_9 : decode cX1_copyFrom 9 = .ok (.aload_n 1, 1) := by decide +kernel
theorem dX1_copyFrom_10 : decode cX1_copyFrom 10 = .ok (.getfield 19, 3) := by decide +kernel
theorem dX1_copyFrom_13 : decode cX1_copyFrom 13 = .ok (.putfield 19, 3) := by decide +kernel
theorem dX1_copyFrom_16 : decode cX1_copyFrom 16 = .ok (.return_, 1) := by decide +kernel
theorem dX1_passTick_0 : decode cX1_passTick 0 = .ok (.aload_n 0, 1) := by decide +kernel
theorem dX1_passTick_1 : decode cX1_passTick 1 = .ok (.getfield 13, 3) := by decide +kernel
theorem dX1_passTick_4 : decode cX1_passTick 4 = .ok (.ifCond .le 23, 3) := by decide +kernel
theorem dX1_passTick_7 : decode cX1_passTick 7 = .ok (.aload_n 0, 1) := by decide +kernel
theorem dX1_passTick_8 : decode cX1_passTick 8 = .ok (.dup, 1) := by decide +kernel
theorem dX1_passTick_9 : decode cX1_passTick 9 = .ok (.getfield 13, 3) := by decide +kernel
theorem dX1_passTick_12 : decode cX1_passTick 12 = .ok (.iconst 1, 1) := by decide +kernel
theorem dX1_passTick_13 : decode cX1_passTick 13 = .ok (.isub, 1) := by decide +kernel
theorem dX1_passTick_14 : decode cX1_passTick 14 = .ok (.putfield 13, 3) := by decide +kernel
theorem dX1_passTick_17 : decode cX1_passTick 17 = .ok (.aload_n 0, 1) := by decide +kernel
theorem dX1_passTick_18 : decode cX1_passTick 18 = .ok (.dup, 1) := by decide +kernel
theorem dX1_passTick_19 : decode cX1_passTick 19 = .ok (.getfield 19, 3) := by decide +kernel
theorem dX1_passTick_22 : decode cX1_passTick 22 = .ok (.iconst 1, 1) := by decide +kernel
theorem dX1_passTick_23 : decode cX1_passTick 23 = .ok (.iadd, 1) := by decide +kernel
theorem dX1_passTick_24 : decode cX1_passTick 24 = .ok (.putfield 19, 3) := by decide +kernel
theorem dX1_passTick_27 : decode cX1_passTick 27 = .ok (.return_, 1) := by decide +kernel
theorem dX2_init_0 : decode cX2_init 0 = .ok (.aload_n 0, 1) := by decide +kernel
theorem dX2_init_1 : decode cX2_init 1 = .ok (.invokespecial 1, 3) := by decide +kernel
theorem dX2_init_4 : decode cX2_init 4 = .ok (.return_, 1) := by decide +kernel
theorem dX2_copyFrom_0 : decode cX2_copyFrom 0 = .ok (.aload_n 0, 1) := by decide +kernel
theorem dX2_copyFrom_1 : decode cX2_copyFrom 1 = .ok (.aload_n 1, 1) := by decide +kernel
theorem dX2_copyFrom_2 : decode cX2_copyFrom 2 = .ok (.getfield 7, 3) := by decide +kernel
theorem dX2_copyFrom_5 : decode cX2_copyFrom 5 = .ok (.putfield 7, 3) := by decide +kernel
theorem dX2_copyFrom_8 : decode cX2_copyFrom 8 = .ok (.aload_n 0, 1) := by decide +kernel
theorem dX2_copyFrom_9 : decode cX2_copyFrom 9 = .ok (.aload_n 1, 1) := by decide +kernel
theorem dX2_copyFrom_10 : decode cX2_copyFrom 10 = .ok (.getfield 13, 3) := by decide +kernel
theorem dX2_copyFrom_13 : decode cX2_copyFrom 13 = .ok (.putfield 13, 3) := by decide +kernel
theorem dX2_copyFrom_16 : decode cX2_copyFrom 16 = .ok (.return_, 1) := by decide +kernel
theorem dX2_passTick_0 : decode cX2_passTick 0 = .ok (.iload_n 1, 1) := by decide +kernel
theorem dX2_passTick_1 : decode cX2_passTick 1 = .ok (.iconst 0, 1) := by decide +kernel
theorem dX2_passTick_2 : decode cX2_passTick 2 = .ok (.iload_n 2, 1) := by decide +kernel
theorem dX2_passTick_3 : decode cX2_passTick 3 = .ok (.aload_n 0, 1) := by decide +kernel
theorem dX2_passTick_4 : decode cX2_passTick 4 = .ok (.getfield 7, 3) := by decide +kernel
theorem dX2_passTick_7 : decode cX2_passTick 7 = .ok (.isub, 1) := by decide +kernel
theorem dX2_passTick_8 : decode cX2_passTick 8 = .ok (.invokestatic 16, 3) := by decide +kernel
theorem dX2_passTick_11 : decode cX2_passTick 11 = .ok (.invokestatic 22, 3) := by decide +kernel
theorem dX2_passTick_14 : decode cX2_passTick 14 = .ok (.istore 4, 2) := by decide +kernel
theorem dX2_passTick_16 : decode cX2_passTick 16 = .ok (.aload_n 0, 1) := by decide +kernel
theorem dX2_passTick_17 : decode cX2_passTick 17 = .ok (.dup, 1) := by decide +kernel
theorem dX2_passTick_18 : decode cX2_passTick 18 = .ok (.getfield 7, 3) := by decide +kernel
theorem dX2_passTick_21 : decode cX2_passTick 21 = .ok (.iload 4, 2) := by decide +kernel
theorem dX2_passTick_23 : decode cX2_passTick 23 = .ok (.iadd, 1) := by decide +kernel
theorem dX2_passTick_24 : decode cX2_passTick 24 = .ok (.putfield 7, 3) := by decide +kernel
theorem dX2_passTick_27 : decode cX2_passTick 27 = .ok (.iload_n 1, 1) := by decide +kernel
theorem dX2_passTick_28 : decode cX2_passTick 28 = .ok (.ifCond .ne 35, 3) := by decide +kernel
theorem dX2_passTick_31 : decode cX2_passTick 31 = .ok (.aload_n 0, 1) := by decide +kernel
theorem dX2_passTick_32 : decode cX2_passTick 32 = .ok (.getfield 7, 3) := by decide +kernel
theorem dX2_passTick_35 : decode cX2_passTick 35 = .ok (.iload_n 3, 1) := by decide +kernel
theorem dX2_passTick_36 : decode cX2_passTick 36 = .ok (.invokestatic 22, 3) := by decide +kernel
theorem dX2_passTick_39 : decode cX2_passTick 39 = .ok (.istore 5, 2) := by decide +kernel
theorem dX2_passTick_41 : decode cX2_passTick 41 = .ok (.aload_n 0, 1) := by decide +kernel
theorem dX2_passTick_42 : decode cX2_passTick 42 = .ok (.dup, 1) := by decide +kernel
theorem dX2_passTick_43 : decode cX2_passTick 43 = .ok (.getfield 7, 3) := by decide +kernel
theorem dX2_passTick_46 : decode cX2_passTick 46 = .ok (.iload 5, 2) := by decide +kernel
theorem dX2_passTick_48 : decode cX2_passTick 48 = .ok (.isub, 1) := by decide +kernel
theorem dX2_passTick_49 : decode cX2_passTick 49 = .ok (.putfield 7, 3) := by decide +kernel
theorem dX2_passTick_52 : decode cX2_passTick 52 = .ok (.aload_n 0, 1) := by decide +kernel
theorem dX2_passTick_53 : decode cX2_passTick 53 = .ok (.dup, 1) := by decide +kernel
theorem dX2_passTick_54 : decode cX2_passTick 54 = .ok (.getfield 13, 3) := by decide +kernel
theorem dX2_passTick_57 : decode cX2_passTick 57 = .ok (.iload 5, 2) := by decide +kernel
theorem dX2_passTick_59 : decode cX2_passTick 59 = .ok (.iadd, 1) := by decide +kernel
theorem dX2_passTick_60 : decode cX2_passTick 60 = .ok (.putfield 13, 3) := by decide +kernel
theorem dX2_passTick_63 : decode cX2_passTick 63 = .ok (.iload_n 1, 1) := by decide +kernel
theorem dX2_passTick_64 : decode cX2_passTick 64 = .ok (.iload 4, 2) := by decide +kernel
theorem dX2_passTick_66 : decode cX2_passTick 66 = .ok (.isub, 1) := by decide +kernel
theorem dX2_passTick_67 : decode cX2_passTick 67 = .ok (.ireturn, 1) := by decide +kernel
theorem dX3_init_0 : decode cX3_init 0 = .ok (.aload_n 0, 1) := by decide +kernel
theorem dX3_init_1 : decode cX3_init 1 = .ok (.invokespecial 3, 3) := by decide +kernel
theorem dX3_init_4 : decode cX3_init 4 = .ok (.aload_n 0, 1) := by decide +kernel
theorem dX3_init_5 : decode cX3_init 5 = .ok (.iconst 3, 1) := by decide +kernel
theorem dX3_init_6 : decode cX3_init 6 = .ok (.newarray .int, 2) := by decide +kernel
theorem dX3_init_8 : decode cX3_init 8 = .ok (.putfield 9, 3) := by decide +kernel
theorem dX3_init_11 : decode cX3_init 11 = .ok (.aload_n 0, 1) := by decide +kernel
theorem dX3_init_12 : decode cX3_init 12 = .ok (.iconst 3, 1) := by decide +kernel
theorem dX3_init_13 : decode cX3_init 13 = .ok (.newarray .int, 2) := by decide +kernel
theorem dX3_init_15 : decode cX3_init 15 = .ok (.putfield 15, 3) := by decide +kernel
theorem dX3_init_18 : decode cX3_init 18 = .ok (.return_, 1) := by decide +kernel
theorem dX3_copyFrom_0 : decode cX3_copyFrom 0 = .ok (.aload_n 1, 1) := by decide +kernel
theorem dX3_copyFrom_1 : decode cX3_copyFrom 1 = .ok (.getfield 9, 3) := by decide +kernel
theorem dX3_copyFrom_4 : decode cX3_copyFrom 4 = .ok (.aload_n 0, 1) := by decide +kernel
theorem dX3_copyFrom_5 : decode cX3_copyFrom 5 = .ok (.getfield 9, 3) := by decide +kernel
theorem dX3_copyFrom_8 : decode cX3_copyFrom 8 = .ok (.invokestatic 18, 3) := by decide +kernel
theorem dX3_copyFrom_11 : decode cX3_copyFrom 11 = .ok (.aload_n 1, 1) := by decide +kernel
theorem dX3_copyFrom_12 : decode cX3_copyFrom 12 = .ok (.getfield 15, 3) := by decide +kernel
theorem dX3_copyFrom_15 : decode cX3_copyFrom 15 = .ok (.aload_n 0, 1) := by decide +kernel
theorem dX3_copyFrom_16 : decode cX3_copyFrom 16 = .ok (.getfield 15, 3) := by decide +kernel
theorem dX3_copyFrom_19 : decode cX3_copyFrom 19 = .ok (.invokestatic 18, 3) := by decide +kernel
theorem dX3_copyFrom_22 : decode cX3_copyFrom 22 = .ok (.aload_n 0, 1) := by decide +kernel
theorem dX3_copyFrom_23 : decode cX3_copyFrom 23 = .ok (.aload_n 1, 1) := by decide +kernel
theorem dX3_copyFrom_24 : decode cX3_copyFrom 24 = .ok (.getfield 22, 3) := by decide +kernel
theorem dX3_copyFrom_27 : decode cX3_copyFrom 27 = .ok (.putfield 22, 3) := by decide +kernel
theorem dX3_copyFrom_30 : decode cX3_copyFrom 30 = .ok (.return_, 1) := by decide +kernel
theorem dX3_placeOf_0 : decode cX3_placeOf 0 = .ok (.iload_n 1, 1) := by decide +kernel
theorem dX3_placeOf_1 : decode cX3_placeOf 1 = .ok (.i2l, 1) := by decide +kernel
theorem dX3_placeOf_2 : decode cX3_placeOf 2 = .ok (.lstore_n 3, 1) := by decide +kernel
theorem dX3_placeOf_3 : decode cX3_placeOf 3 = .ok (.lconst 1, 1) := by decide +kernel
theorem dX3_placeOf_4 : decode cX3_placeOf 4 = .ok (.lstore 5, 2) := by decide +kernel
theorem dX3_placeOf_6 : decode cX3_placeOf 6 = .ok (.iconst 0, 1) := by decide +kernel
theorem dX3_placeOf_7 : decode cX3_placeOf 7 = .ok (.istore 7, 2) := by decide +kernel
theorem dX3_placeOf_9 : decode cX3_placeOf 9 = .ok (.iload 7, 2) := by decide +kernel
theorem dX3_placeOf_11 : decode cX3_placeOf 11 = .ok (.aload_n 0, 1) := by decide +kernel
theorem dX3_placeOf_12 : decode cX3_placeOf 12 = .ok (.getfield 22, 3) := by decide +kernel
theorem dX3_placeOf_15 : decode cX3_placeOf 15 = .ok (.if_icmp .ge 33, 3) := by decide +kernel
theorem dX3_placeOf_18 : decode cX3_placeOf 18 = .ok (.lload_n 3, 1) := by decide +kernel
theorem dX3_placeOf_19 : decode cX3_placeOf 19 = .ok (.aload_n 0, 1) := by decide +kernel
theorem dX3_placeOf_20 : decode cX3_placeOf 20 = .ok (.getfield 9, 3) := by decide +kernel
theorem dX3_placeOf_23 : decode cX3_placeOf 23 = .ok (.iload 7, 2) := by decide +kernel
theorem dX3_placeOf_25 : decode cX3_placeOf 25 = .ok (.iaload, 1) := by decide +kernel
theorem dX3_placeOf_26 : decode cX3_placeOf 26 = .ok (.i2l, 1) := by decide +kernel
theorem dX3_placeOf_27 : decode cX3_placeOf 27 = .ok (.lmul, 1) := by decide +kernel
theorem dX3_placeOf_28 : decode cX3_placeOf 28 = .ok (.lstore_n 3, 1) := by decide +kernel
theorem dX3_placeOf_29 : decode cX3_placeOf 29 = .ok (.lload 5, 2) := by decide +kernel
theorem dX3_placeOf_31 : decode cX3_placeOf 31 = .ok (.aload_n 0, 1) := by decide +kernel
theorem dX3_placeOf_32 : decode cX3_placeOf 32 = .ok (.getfield 15, 3) := by decide +kernel
theorem dX3_placeOf_35 : decode cX3_placeOf 35 = .ok (.iload 7, 2) := by decide +kernel
theorem dX3_placeOf_37 : decode cX3_placeOf 37 = .ok (.iaload, 1) := by decide +kernel
theorem dX3_placeOf_38 : decode cX3_placeOf 38 = .ok (.i2l, 1) := by decide +kernel
theorem dX3_placeOf_39 : decode cX3_placeOf 39 = .ok (.lmul, 1) := by decide +kernel
theorem dX3_placeOf_40 : decode cX3_placeOf 40 = .ok (.lstore 5, 2) := by decide +kernel
theorem dX3_placeOf_42 : decode cX3_placeOf 42 = .ok (.iinc 7 1, 3) := by decide +kernel
theorem dX3_placeOf_45 : decode cX3_placeOf 45 = .ok (.goto (-36), 3) := by decide +kernel
theorem dX3_placeOf_48 : decode cX3_placeOf 48 = .ok (.lload 5, 2) := by decide +kernel
theorem dX3_placeOf_50 : decode cX3_placeOf 50 = .ok (.lconst 0, 1) := by decide +kernel
theorem dX3_placeOf_51 : decode cX3_placeOf 51 = .ok (.lcmp, 1) := by decide +kernel
theorem dX3_placeOf_52 : decode cX3_placeOf 52 = .ok (.ifCond .eq 7, 3) := by decide +kernel
theorem dX3_placeOf_55 : decode cX3_placeOf 55 = .ok (.iload_n 2, 1) := by decide +kernel
theorem dX3_placeOf_56 : decode cX3_placeOf 56 = .ok (.ifCond .ne 5, 3) := by decide +kernel
theorem dX3_placeOf_59 : decode cX3_placeOf 59 = .ok (.iconst 0, 1) := by decide +kernel
theorem dX3_placeOf_60 : decode cX3_placeOf 60 = .ok (.ireturn, 1) := by decide +kernel
theorem dX3_placeOf_61 : decode cX3_placeOf 61 = .ok (.lload_n 3, 1) := by decide +kernel
theorem dX3_placeOf_62 : decode cX3_placeOf 62 = .ok (.lload 5, 2) := by decide +kernel
theorem dX3_placeOf_64 : decode cX3_placeOf 64 = .ok (.ldiv, 1) := by decide +kernel
theorem dX3_placeOf_65 : decode cX3_placeOf 65 = .ok (.iload_n 2, 1) := by decide +kernel
theorem dX3_placeOf_66 : decode cX3_placeOf 66 = .ok (.i2l, 1) := by decide +kernel
theorem dX3_placeOf_67 : decode cX3_placeOf 67 = .ok (.lrem, 1) := by decide +kernel
theorem dX3_placeOf_68 : decode cX3_placeOf 68 = .ok (.l2i, 1) := by decide +kernel
theorem dX3_placeOf_69 : decode cX3_placeOf 69 = .ok (.ireturn, 1) := by decide +kernel
theorem dX4_init_0 : decode cX4_init 0 = .ok (.aload_n 0, 1) := by decide +kernel
theorem dX4_init_1 : decode cX4_init 1 = .ok (.invokespecial 3, 3) := by decide +kernel
theorem dX4_init_4 : decode cX4_init 4 = .ok (.aload_n 0, 1) := by decide +kernel
theorem dX4_init_5 : decode cX4_init 5 = .ok (.iconst 5, 1) := by decide +kernel
theorem dX4_init_6 : decode cX4_init 6 = .ok (.anewarray 9, 3) := by decide +kernel
theorem dX4_init_9 : decode cX4_init 9 = .ok (.putfield 11, 3) := by decide +kernel
theorem dX4_init_12 : decode cX4_init 12 = .ok (.iconst 0, 1) := by decide +kernel
theorem dX4_init_13 : decode cX4_init 13 = .ok (.istore_n 1, 1) := by decide +kernel
theorem dX4_init_14 : decode cX4_init 14 = .ok (.iload_n 1, 1) := by decide +kernel
theorem dX4_init_15 : decode cX4_init 15 = .ok (.iconst 5, 1) := by decide +kernel
theorem dX4_init_16 : decode cX4_init 16 = .ok (.if_icmp .ge 22, 3) := by decide +kernel
theorem dX4_init_19 : decode cX4_init 19 = .ok (.aload_n 0, 1) := by decide +kernel
theorem dX4_init_20 : decode cX4_init 20 = .ok (.getfield 11, 3) := by decide +kernel
theorem dX4_init_23 : decode cX4_init 23 = .ok (.iload_n 1, 1) := by decide +kernel
theorem dX4_init_24 : decode cX4_init 24 = .ok (.new 9, 3) := by decide +kernel
theorem dX4_init_27 : decode cX4_init 27 = .ok (.dup, 1) := by decide +kernel
theorem dX4_init_28 : decode cX4_init 28 = .ok (.invokespecial 17, 3) := by decide +kernel
theorem dX4_init_31 : decode cX4_init 31 = .ok (.aastore, 1) := by decide +kernel
theorem dX4_init_32 : decode cX4_init 32 = .ok (.iinc 1 1, 3) := by decide +kernel
theorem dX4_init_35 : decode cX4_init 35 = .ok (.goto (-21), 3) := by decide +kernel
theorem dX4_init_38 : decode cX4_init 38 = .ok (.return_, 1) := by decide +kernel
theorem dX4_keep_0 : decode cX4_keep 0 = .ok (.aload_n 0, 1) := by decide +kernel
theorem dX4_keep_1 : decode cX4_keep 1 = .ok (.getfield 18, 3) := by decide +kernel
theorem dX4_keep_4 : decode cX4_keep 4 = .ok (.iconst 5, 1) := by decide +kernel
theorem dX4_keep_5 : decode cX4_keep 5 = .ok (.if_icmp .lt 7, 3) := by decide +kernel
theorem dX4_keep_8 : decode cX4_keep 8 = .ok (.aload_n 0, 1) := by decide +kernel
theorem dX4_keep_9 : decode cX4_keep 9 = .ok (.invokevirtual 22, 3) := by decide +kernel
theorem dX4_keep_12 : decode cX4_keep 12 = .ok (.aload_n 0, 1) := by decide +kernel
theorem dX4_keep_13 : decode cX4_keep 13 = .ok (.getfield 11, 3) := by decide +kernel
theorem dX4_keep_16 : decode cX4_keep 16 = .ok (.aload_n 0, 1) := by decide +kernel
theorem dX4_keep_17 : decode cX4_keep 17 = .ok (.getfield 18, 3) := by decide +kernel
theorem dX4_keep_20 : decode cX4_keep 20 = .ok (.aaload, 1) := by decide +kernel
theorem dX4_keep_21 : decode cX4_keep 21 = .ok (.aload_n 1, 1) := by decide +kernel
theorem dX4_keep_22 : decode cX4_keep 22 = .ok (.invokevirtual 25, 3) := by decide +kernel
theorem dX4_keep_25 : decode cX4_keep 25 = .ok (.aload_n 0, 1) := by decide +kernel
theorem dX4_keep_26 : decode cX4_keep 26 = .ok (.dup, 1) := by decide +kernel
theorem dX4_keep_27 : decode cX4_keep 27 = .ok (.getfield 18, 3) := by decide +kernel
theorem dX4_keep_30 : decode cX4_keep 30 = .ok (.iconst 1, 1) := by decide +kernel
theorem dX4_keep_31 : decode cX4_keep 31 = .ok (.iadd, 1) := by decide +kernel
theorem dX4_keep_32 : decode cX4_keep 32 = .ok (.putfield 18, 3) := by decide +kernel
theorem dX4_keep_35 : decode cX4_keep 35 = .ok (.return_, 1) := by decide +kernel
theorem dX4_dropOldest_0 : decode cX4_dropOldest 0 = .ok (.aload_n 0, 1) := by decide +kernel
theorem dX4_dropOldest_1 : decode cX4_dropOldest 1 = .ok (.getfield 11, 3) := by decide +kernel
theorem dX4_dropOldest_4 : decode cX4_dropOldest 4 = .ok (.iconst 0, 1) := by decide +kernel
theorem dX4_dropOldest_5 : decode cX4_dropOldest 5 = .ok (.aaload, 1) := by decide +kernel
theorem dX4_dropOldest_6 : decode cX4_dropOldest 6 = .ok (.astore_n 1, 1) := by decide +kernel
theorem dX4_dropOldest_7 : decode cX4_dropOldest 7 = .ok (.iconst 1, 1) := by decide +kernel
theorem dX4_dropOldest_8 : decode cX4_dropOldest 8 = .ok (.istore_n 2, 1) := by decide +kernel
theorem dX4_dropOldest_9 : decode cX4_dropOldest 9 = .ok (.iload_n 2, 1) := by decide +kernel
theorem dX4_dropOldest_10 : decode cX4_dropOldest 10 = .ok (.iconst 5, 1) := by decide +kernel
theorem dX4_dropOldest_11 : decode cX4_dropOldest 11 = .ok (.if_icmp .ge 23, 3) := by decide +kernel
theorem dX4_dropOldest_14 : decode cX4_dropOldest 14 = .ok (.aload_n 0, 1) := by decide +kernel
theorem dX4_dropOldest_15 : decode cX4_dropOldest 15 = .ok (.getfield 11, 3) := by decide +kernel
theorem dX4_dropOldest_18 : decode cX4_dropOldest 18 = .ok (.iload_n 2, 1) := by decide +kernel
theorem dX4_dropOldest_19 : decode cX4_dropOldest 19 = .ok (.iconst 1, 1) := by decide +kernel
theorem dX4_dropOldest_20 : decode cX4_dropOldest 20 = .ok (.isub, 1) := by decide +kernel
theorem dX4_dropOldest_21 : decode cX4_dropOldest 21 = .ok (.aload_n 0, 1) := by decide +kernel
theorem dX4_dropOldest_22 : decode cX4_dropOldest 22 = .ok (.getfield 11, 3) := by decide +kernel
theorem dX4_dropOldest_25 : decode cX4_dropOldest 25 = .ok (.iload_n 2, 1) := by decide +kernel
theorem dX4_dropOldest_26 : decode cX4_dropOldest 26 = .ok (.aaload, 1) := by decide +kernel
theorem dX4_dropOldest_27 : decode cX4_dropOldest 27 = .ok (.aastore, 1) := by decide +kernel
theorem dX4_dropOldest_28 : decode cX4_dropOldest 28 = .ok (.iinc 2 1, 3) := by decide +kernel
theorem dX4_dropOldest_31 : decode cX4_dropOldest 31 = .ok (.goto (-22), 3) := by decide +kernel
theorem dX4_dropOldest_34 : decode cX4_dropOldest 34 = .ok (.aload_n 0, 1) := by decide +kernel
theorem dX4_dropOldest_35 : decode cX4_dropOldest 35 = .ok (.getfield 11, 3) := by decide +kernel
theorem dX4_dropOldest_38 : decode cX4_dropOldest 38 = .ok (.iconst 4, 1) := by decide +kernel
theorem dX4_dropOldest_39 : decode cX4_dropOldest 39 = .ok (.aload_n 1, 1) := by decide +kernel
theorem dX4_dropOldest_40 : decode cX4_dropOldest 40 = .ok (.aastore, 1) := by decide +kernel
theorem dX4_dropOldest_41 : decode cX4_dropOldest 41 = .ok (.aload_n 0, 1) := by decide +kernel
theorem dX4_dropOldest_42 : decode cX4_dropOldest 42 = .ok (.iconst 4, 1) := by decide +kernel
theorem dX4_dropOldest_43 : decode cX4_dropOldest 43 = .ok (.putfield 18, 3) := by decide +kernel
theorem dX4_dropOldest_46 : decode cX4_dropOldest 46 = .ok (.return_, 1) := by decide +kernel
theorem dX4_restoreInto_0 : decode cX4_restoreInto 0 = .ok (.aload_n 0, 1) := by decide +kernel
theorem dX4_restoreInto_1 : decode cX4_restoreInto 1 = .ok (.getfield 18, 3) := by decide +kernel
theorem dX4_restoreInto_4 : decode cX4_restoreInto 4 = .ok (.ifCond .le 26, 3) := by decide +kernel
theorem dX4_restoreInto_7 : decode cX4_restoreInto 7 = .ok (.aload_n 0, 1) := by decide +kernel
theorem dX4_restoreInto_8 : decode cX4_restoreInto 8 = .ok (.dup, 1) := by decide +kernel
theorem dX4_restoreInto_9 : decode cX4_restoreInto 9 = .ok (.getfield 18, 3) := by decide +kernel
theorem dX4_restoreInto_12 : decode cX4_restoreInto 12 = .ok (.iconst 1, 1) := by decide +kernel
theorem dX4_restoreInto_13 : decode cX4_restoreInto 13 = .ok (.isub, 1) := by decide +kernel
theorem dX4_restoreInto_14 : decode cX4_restoreInto 14 = .ok (.putfield 18, 3) := by decide +kernel
theorem dX4_restoreInto_17 : decode cX4_restoreInto 17 = .ok (.aload_n 1, 1) := by decide +kernel
theorem dX4_restoreInto_18 : decode cX4_restoreInto 18 = .ok (.aload_n 0, 1) := by decide +kernel
theorem dX4_restoreInto_19 : decode cX4_restoreInto 19 = .ok (.getfield 11, 3) := by decide +kernel
theorem dX4_restoreInto_22 : decode cX4_restoreInto 22 = .ok (.aload_n 0, 1) := by decide +kernel
theorem dX4_restoreInto_23 : decode cX4_restoreInto 23 = .ok (.getfield 18, 3) := by decide +kernel
theorem dX4_restoreInto_26 : decode cX4_restoreInto 26 = .ok (.aaload, 1) := by decide +kernel
theorem dX4_restoreInto_27 : decode cX4_restoreInto 27 = .ok (.invokevirtual 25, 3) := by decide +kernel
theorem dX4_restoreInto_30 : decode cX4_restoreInto 30 = .ok (.return_, 1) := by decide +kernel
theorem dX5_init_0 : decode cX5_init 0 = .ok (.aload_n 0, 1) := by decide +kernel
theorem dX5_init_1 : decode cX5_init 1 = .ok (.invokespecial 3, 3) := by decide +kernel
theorem dX5_init_4 : decode cX5_init 4 = .ok (.aload_n 0, 1) := by decide +kernel
theorem dX5_init_5 : decode cX5_init 5 = .ok (.bipush 60, 2) := by decide +kernel
theorem dX5_init_7 : decode cX5_init 7 = .ok (.newarray .int, 2) := by decide +kernel
theorem dX5_init_9 : decode cX5_init 9 = .ok (.putfield 9, 3) := by decide +kernel
theorem dX5_init_12 : decode cX5_init 12 = .ok (.aload_n 0, 1) := by decide +kernel
theorem dX5_init_13 : decode cX5_init 13 = .ok (.bipush 60, 2) := by decide +kernel
theorem dX5_init_15 : decode cX5_init 15 = .ok (.newarray .int, 2) := by decide +kernel
theorem dX5_init_17 : decode cX5_init 17 = .ok (.putfield 15, 3) := by decide +kernel
theorem dX5_init_20 : decode cX5_init 20 = .ok (.aload_n 0, 1) := by decide +kernel
theorem dX5_init_21 : decode cX5_init 21 = .ok (.bipush 60, 2) := by decide +kernel
theorem dX5_init_23 : decode cX5_init 23 = .ok (.newarray .int, 2) := by decide +kernel
theorem dX5_init_25 : decode cX5_init 25 = .ok (.putfield 18, 3) := by decide +kernel
theorem dX5_init_28 : decode cX5_init 28 = .ok (.return_, 1) := by decide +kernel
theorem dX5_copyFrom_0 : decode cX5_copyFrom 0 = .ok (.aload_n 1, 1) := by decide +kernel
theorem dX5_copyFrom_1 : decode cX5_copyFrom 1 = .ok (.getfield 9, 3) := by decide +kernel
theorem dX5_copyFrom_4 : decode cX5_copyFrom 4 = .ok (.aload_n 0, 1) := by decide +kernel
theorem dX5_copyFrom_5 : decode cX5_copyFrom 5 = .ok (.getfield 9, 3) := by decide +kernel
theorem dX5_copyFrom_8 : decode cX5_copyFrom 8 = .ok (.invokestatic 21, 3) := by decide +kernel
theorem dX5_copyFrom_11 : decode cX5_copyFrom 11 = .ok (.aload_n 1, 1) := by decide +kernel
theorem dX5_copyFrom_12 : decode cX5_copyFrom 12 = .ok (.getfield 15, 3) := by decide +kernel
theorem dX5_copyFrom_15 : decode cX5_copyFrom 15 = .ok (.aload_n 0, 1) := by decide +kernel
theorem dX5_copyFrom_16 : decode cX5_copyFrom 16 = .ok (.getfield 15, 3) := by decide +kernel
theorem dX5_copyFrom_19 : decode cX5_copyFrom 19 = .ok (.invokestatic 21, 3) := by decide +kernel
theorem dX5_copyFrom_22 : decode cX5_copyFrom 22 = .ok (.aload_n 1, 1) := by decide +kernel
theorem dX5_copyFrom_23 : decode cX5_copyFrom 23 = .ok (.getfield 18, 3) := by decide +kernel
theorem dX5_copyFrom_26 : decode cX5_copyFrom 26 = .ok (.aload_n 0, 1) := by decide +kernel
theorem dX5_copyFrom_27 : decode cX5_copyFrom 27 = .ok (.getfield 18, 3) := by decide +kernel
theorem dX5_copyFrom_30 : decode cX5_copyFrom 30 = .ok (.invokestatic 21, 3) := by decide +kernel
theorem dX5_copyFrom_33 : decode cX5_copyFrom 33 = .ok (.aload_n 0, 1) := by decide +kernel
theorem dX5_copyFrom_34 : decode cX5_copyFrom 34 = .ok (.aload_n 1, 1) := by decide +kernel
theorem dX5_copyFrom_35 : decode cX5_copyFrom 35 = .ok (.getfield 25, 3) := by decide +kernel
theorem dX5_copyFrom_38 : decode cX5_copyFrom 38 = .ok (.putfield 25, 3) := by decide +kernel
theorem dX5_copyFrom_41 : decode cX5_copyFrom 41 = .ok (.return_, 1) := by decide +kernel
theorem dX5_has_0 : decode cX5_has 0 = .ok (.iload_n 1, 1) := by decide +kernel
theorem dX5_has_1 : decode cX5_has 1 = .ok (.ifCond .lt 15, 3) := by decide +kernel
theorem dX5_has_4 : decode cX5_has 4 = .ok (.iload_n 1, 1) := by decide +kernel
theorem dX5_has_5 : decode cX5_has 5 = .ok (.aload_n 0, 1) := by decide +kernel
theorem dX5_has_6 : decode cX5_has 6 = .ok (.getfield 25, 3) := by decide +kernel
theorem dX5_has_9 : decode cX5_has 9 = .ok (.if_icmp .ge 7, 3) := by decide +kernel
theorem dX5_has_12 : decode cX5_has 12 = .ok (.iconst 1, 1) := by decide +kernel
theorem dX5_has_13 : decode cX5_has 13 = .ok (.goto 4, 3) := by decide +kernel
theorem dX5_has_16 : decode cX5_has 16 = .ok (.iconst 0, 1) := by decide +kernel
theorem dX5_has_17 : decode cX5_has 17 = .ok (.ireturn, 1) := by decide +kernel
theorem dX5_append_0 : decode cX5_append 0 = .ok (.aload_n 0, 1) := by decide +kernel
theorem dX5_append_1 : decode cX5_append 1 = .ok (.getfield 25, 3) := by decide +kernel
theorem dX5_append_4 : decode cX5_append 4 = .ok (.bipush 60, 2) := by decide +kernel
theorem dX5_append_6 : decode cX5_append 6 = .ok (.if_icmp .lt 7, 3) := by decide +kernel
theorem dX5_append_9 : decode cX5_append 9 = .ok (.aload_n 0, 1) := by decide +kernel
theorem dX5_append_10 : decode cX5_append 10 = .ok (.invokevirtual 29, 3) := by decide +kernel
theorem dX5_append_13 : decode cX5_append 13 = .ok (.aload_n 0, 1) := by decide +kernel
theorem dX5_append_14 : decode cX5_append 14 = .ok (.getfield 9, 3) := by decide +kernel
theorem dX5_append_17 : decode cX5_append 17 = .ok (.aload_n 0, 1) := by decide +kernel
theorem dX5_append_18 : decode cX5_append 18 = .ok (.getfield 25, 3) := by decide +kernel
theorem dX5_append_21 : decode cX5_append 21 = .ok (.iload_n 1, 1) := by decide +kernel
theorem dX5_append_22 : decode cX5_append 22 = .ok (.iastore, 1) := by decide +kernel
theorem dX5_append_23 : decode cX5_append 23 = .ok (.aload_n 0, 1) := by decide +kernel
theorem dX5_append_24 : decode cX5_append 24 = .ok (.getfield 15, 3) := by decide +kernel
theorem dX5_append_27 : decode cX5_append 27 = .ok (.aload_n 0, 1) := by decide +kernel
theorem dX5_append_28 : decode cX5_append 28 = .ok (.getfield 25, 3) := by decide +kernel
theorem dX5_append_31 : decode cX5_append 31 = .ok (.iload_n 2, 1) := by decide +kernel
theorem dX5_append_32 : decode cX5_append 32 = .ok (.iastore, 1) := by decide +kernel
theorem dX5_append_33 : decode cX5_append 33 = .ok (.aload_n 0, 1) := by decide +kernel
theorem dX5_append_34 : decode cX5_append 34 = .ok (.getfield 18, 3) := by decide +kernel
theorem dX5_append_37 : decode cX5_append 37 = .ok (.aload_n 0, 1) := by decide +kernel
theorem dX5_append_38 : decode cX5_append 38 = .ok (.getfield 25, 3) := by decide +kernel
theorem dX5_append_41 : decode cX5_append 41 = .ok (.iload_n 3, 1) := by decide +kernel
theorem dX5_append_42 : decode cX5_append 42 = .ok (.iastore, 1) := by decide +kernel
theorem dX5_append_43 : decode cX5_append 43 = .ok (.aload_n 0, 1) := by decide +kernel
theorem dX5_append_44 : decode cX5_append 44 = .ok (.dup, 1) := by decide +kernel
theorem dX5_append_45 : decode cX5_append 45 = .ok (.getfield 25, 3) := by decide +kernel
theorem dX5_append_48 : decode cX5_append 48 = .ok (.iconst 1, 1) := by decide +kernel
theorem dX5_append_49 : decode cX5_append 49 = .ok (.iadd, 1) := by decide +kernel
theorem dX5_append_50 : decode cX5_append 50 = .ok (.putfield 25, 3) := by decide +kernel
theorem dX5_append_53 : decode cX5_append 53 = .ok (.return_, 1) := by decide +kernel
theorem dX5_removeOldest_0 : decode cX5_removeOldest 0 = .ok (.aload_n 0, 1) := by decide +kernel
theorem dX5_removeOldest_1 : decode cX5_removeOldest 1 = .ok (.bipush 59, 2) := by decide +kernel
theorem dX5_removeOldest_3 : decode cX5_removeOldest 3 = .ok (.putfield 25, 3) := by decide +kernel
theorem dX5_removeOldest_6 : decode cX5_removeOldest 6 = .ok (.aload_n 0, 1) := by decide +kernel
theorem dX5_removeOldest_7 : decode cX5_removeOldest 7 = .ok (.getfield 9, 3) := by decide +kernel
theorem dX5_removeOldest_10 : decode cX5_removeOldest 10 = .ok (.iconst 1, 1) := by decide +kernel
theorem dX5_removeOldest_11 : decode cX5_removeOldest 11 = .ok (.aload_n 0, 1) := by decide +kernel
theorem dX5_removeOldest_12 : decode cX5_removeOldest 12 = .ok (.getfield 9, 3) := by decide +kernel
theorem dX5_removeOldest_15 : decode cX5_removeOldest 15 = .ok (.iconst 0, 1) := by decide +kernel
theorem dX5_removeOldest_16 : decode cX5_removeOldest 16 = .ok (.aload_n 0, 1) := by decide +kernel
theorem dX5_removeOldest_17 : decode cX5_removeOldest 17 = .ok (.getfield 25, 3) := by decide +kernel
theorem dX5_removeOldest_20 : decode cX5_removeOldest 20 = .ok (.invokestatic 32, 3) := by decide +kernel
theorem dX5_removeOldest_23 : decode cX5_removeOldest 23 = .ok (.aload_n 0, 1) := by decide +kernel
theorem dX5_removeOldest_24 : decode cX5_removeOldest 24 = .ok (.getfield 15, 3) := by decide +kernel
theorem dX5_removeOldest_27 : decode cX5_removeOldest 27 = .ok (.iconst 1, 1) := by decide +kernel
theorem dX5_removeOldest_28 : decode cX5_removeOldest 28 = .ok (.aload_n 0, 1) := by decide +kernel
theorem dX5_removeOldest_29 : decode cX5_removeOldest 29 = .ok (.getfield 15, 3) := by decide +kernel
theorem dX5_removeOldest_32 : decode cX5_removeOldest 32 = .ok (.iconst 0, 1) := by decide +kernel
theorem dX5_removeOldest_33 : decode cX5_removeOldest 33 = .ok (.aload_n 0, 1) := by decide +kernel
theorem dX5_removeOldest_34 : decode cX5_removeOldest 34 = .ok (.getfield 25, 3) := by decide +kernel
theorem dX5_removeOldest_37 : decode cX5_removeOldest 37 = .ok (.invokestatic 32, 3) := by decide +kernel
theorem dX5_removeOldest_40 : decode cX5_removeOldest 40 = .ok (.aload_n 0, 1) := by decide +kernel
theorem dX5_removeOldest_41 : decode cX5_removeOldest 41 = .ok (.getfield 18, 3) := by decide +kernel
theorem dX5_removeOldest_44 : decode cX5_removeOldest 44 = .ok (.iconst 1, 1) := by decide +kernel
theorem dX5_removeOldest_45 : decode cX5_removeOldest 45 = .ok (.aload_n 0, 1) := by decide +kernel
theorem dX5_removeOldest_46 : decode cX5_removeOldest 46 = .ok (.getfield 18, 3) := by decide +kernel
theorem dX5_removeOldest_49 : decode cX5_removeOldest 49 = .ok (.iconst 0, 1) := by decide +kernel
theorem dX5_removeOldest_50 : decode cX5_removeOldest 50 = .ok (.aload_n 0, 1) := by decide +kernel
theorem dX5_removeOldest_51 : decode cX5_removeOldest 51 = .ok (.getfield 25, 3) := by decide +kernel
theorem dX5_removeOldest_54 : decode cX5_removeOldest 54 = .ok (.invokestatic 32, 3) := by decide +kernel
theorem dX5_removeOldest_57 : decode cX5_removeOldest 57 = .ok (.return_, 1) := by decide +kernel
theorem dX5_ticksBetween_0 : decode cX5_ticksBetween 0 = .ok (.aload_n 0, 1) := by decide +kernel
theorem dX5_ticksBetween_1 : decode cX5_ticksBetween 1 = .ok (.iload_n 1, 1) := by decide +kernel
theorem dX5_ticksBetween_2 : decode cX5_ticksBetween 2 = .ok (.invokevirtual 38, 3) := by decide +kernel
theorem dX5_ticksBetween_5 : decode cX5_ticksBetween 5 = .ok (.ifCond .eq 27, 3) := by decide +kernel
theorem dX5_ticksBetween_8 : decode cX5_ticksBetween 8 = .ok (.aload_n 0, 1) := by decide +kernel
theorem dX5_ticksBetween_9 : decode cX5_ticksBetween 9 = .ok (.iload_n 2, 1) := by decide +kernel
theorem dX5_ticksBetween_10 : decode cX5_ticksBetween 10 = .ok (.invokevirtual 38, 3) := by decide +kernel
theorem dX5_ticksBetween_13 : decode cX5_ticksBetween 13 = .ok (.ifCond .eq 19, 3) := by decide +kernel
theorem dX5_ticksBetween_16 : decode cX5_ticksBetween 16 = .ok (.aload_n 0, 1) := by decide +kernel
theorem dX5_ticksBetween_17 : decode cX5_ticksBetween 17 = .ok (.getfield 9, 3) := by decide +kernel
theorem dX5_ticksBetween_20 : decode cX5_ticksBetween 20 = .ok (.iload_n 2, 1) := by decide +kernel
theorem dX5_ticksBetween_21 : decode cX5_ticksBetween 21 = .ok (.iaload, 1) := by decide +kernel
theorem dX5_ticksBetween_22 : decode cX5_ticksBetween 22 = .ok (.aload_n 0, 1) := by decide +kernel
theorem dX5_ticksBetween_23 : decode cX5_ticksBetween 23 = .ok (.getfield 9, 3) := by decide +kernel
theorem dX5_ticksBetween_26 : decode cX5_ticksBetween 26 = .ok (.iload_n 1, 1) := by decide +kernel
theorem dX5_ticksBetween_27 : decode cX5_ticksBetween 27 = .ok (.iaload, 1) := by decide +kernel
theorem dX5_ticksBetween_28 : decode cX5_ticksBetween 28 = .ok (.isub, 1) := by decide +kernel
theorem dX5_ticksBetween_29 : decode cX5_ticksBetween 29 = .ok (.goto 4, 3) := by decide +kernel
theorem dX5_ticksBetween_32 : decode cX5_ticksBetween 32 = .ok (.iconst 0, 1) := by decide +kernel
theorem dX5_ticksBetween_33 : decode cX5_ticksBetween 33 = .ok (.ireturn, 1) := by decide +kernel
theorem dX5_widestGap_0 : decode cX5_widestGap 0 = .ok (.iconst 0, 1) := by decide +kernel
theorem dX5_widestGap_1 : decode cX5_widestGap 1 = .ok (.istore_n 1, 1) := by decide +kernel
theorem dX5_widestGap_2 : decode cX5_widestGap 2 = .ok (.iconst 1, 1) := by decide +kernel
theorem dX5_widestGap_3 : decode cX5_widestGap 3 = .ok (.istore_n 2, 1) := by decide +kernel
theorem dX5_widestGap_4 : decode cX5_widestGap 4 = .ok (.iload_n 2, 1) := by decide +kernel
theorem dX5_widestGap_5 : decode cX5_widestGap 5 = .ok (.aload_n 0, 1) := by decide +kernel
theorem dX5_widestGap_6 : decode cX5_widestGap 6 = .ok (.getfield 25, 3) := by decide +kernel
theorem dX5_widestGap_9 : decode cX5_widestGap 9 = .ok (.if_icmp .ge 22, 3) := by decide +kernel
theorem dX5_widestGap_12 : decode cX5_widestGap 12 = .ok (.iload_n 1, 1) := by decide +kernel
theorem dX5_widestGap_13 : decode cX5_widestGap 13 = .ok (.aload_n 0, 1) := by decide +kernel
theorem dX5_widestGap_14 : decode cX5_widestGap 14 = .ok (.iload_n 2, 1) := by decide +kernel
theorem dX5_widestGap_15 : decode cX5_widestGap 15 = .ok (.iconst 1, 1) := by decide +kernel
theorem dX5_widestGap_16 : decode cX5_widestGap 16 = .ok (.isub, 1) := by decide +kernel
theorem dX5_widestGap_17 : decode cX5_widestGap 17 = .ok (.iload_n 2, 1) := by decide +kernel
theorem dX5_widestGap_18 : decode cX5_widestGap 18 = .ok (.invokevirtual 42, 3) := by decide +kernel
theorem dX5_widestGap_21 : decode cX5_widestGap 21 = .ok (.invokestatic 46, 3) := by decide +kernel
theorem dX5_widestGap_24 : decode cX5_widestGap 24 = .ok (.istore_n 1, 1) := by decide +kernel
theorem dX5_widestGap_25 : decode cX5_widestGap 25 = .ok (.iinc 2 1, 3) := by decide +kernel
theorem dX5_widestGap_28 : decode cX5_widestGap 28 = .ok (.goto (-24), 3) := by decide +kernel
theorem dX5_widestGap_31 : decode cX5_widestGap 31 = .ok (.iload_n 1, 1) := by decide +kernel
theorem dX5_widestGap_32 : decode cX5_widestGap 32 = .ok (.ireturn, 1) := by decide +kernel
theorem dX5_beginsStorm_0 : decode cX5_beginsStorm 0 = .ok (.iload_n 1, 1) := by decide +kernel
theorem dX5_beginsStorm_1 : decode cX5_beginsStorm 1 = .ok (.ifCond .eq 15, 3) := by decide +kernel
theorem dX5_beginsStorm_4 : decode cX5_beginsStorm 4 = .ok (.aload_n 0, 1) := by decide +kernel
theorem dX5_beginsStorm_5 : decode cX5_beginsStorm 5 = .ok (.iload_n 1, 1) := by decide +kernel
theorem dX5_beginsStorm_6 : decode cX5_beginsStorm 6 = .ok (.iconst 1, 1) := by decide +kernel
theorem dX5_beginsStorm_7 : decode cX5_beginsStorm 7 = .ok (.isub, 1) := by decide +kernel
theorem dX5_beginsStorm_8 : decode cX5_beginsStorm 8 = .ok (.iload_n 1, 1) := by decide +kernel
theorem dX5_beginsStorm_9 : decode cX5_beginsStorm 9 = .ok (.invokevirtual 42, 3) := by decide +kernel
theorem dX5_beginsStorm_12 : decode cX5_beginsStorm 12 = .ok (.iload_n 2, 1) := by decide +kernel
theorem dX5_beginsStorm_13 : decode cX5_beginsStorm 13 = .ok (.if_icmp .le 7, 3) := by decide +kernel
theorem dX5_beginsStorm_16 : decode cX5_beginsStorm 16 = .ok (.iconst 1, 1) := by decide +kernel
theorem dX5_beginsStorm_17 : decode cX5_beginsStorm 17 = .ok (.goto 4, 3) := by decide +kernel
theorem dX5_beginsStorm_20 : decode cX5_beginsStorm 20 = .ok (.iconst 0, 1) := by decide +kernel
theorem dX5_beginsStorm_21 : decode cX5_beginsStorm 21 = .ok (.ireturn, 1) := by decide +kernel
theorem dX5_countStorms_0 : decode cX5_countStorms 0 = .ok (.iconst 0, 1) := by decide +kernel
theorem dX5_countStorms_1 : decode cX5_countStorms 1 = .ok (.istore_n 2, 1) := by decide +kernel
theorem dX5_countStorms_2 : decode cX5_countStorms 2 = .ok (.iconst 0, 1) := by decide +kernel
theorem dX5_countStorms_3 : decode cX5_countStorms 3 = .ok (.istore_n 3, 1) := by decide +kernel
theorem dX5_countStorms_4 : decode cX5_countStorms 4 = .ok (.iload_n 3, 1) := by decide +kernel
theorem dX5_countStorms_5 : decode cX5_countStorms 5 = .ok (.aload_n 0, 1) := by decide +kernel
theorem dX5_countStorms_6 : decode cX5_countStorms 6 = .ok (.getfield 25, 3) := by decide +kernel
theorem dX5_countStorms_9 : decode cX5_countStorms 9 = .ok (.if_icmp .ge 21, 3) := by decide +kernel
theorem dX5_countStorms_12 : decode cX5_countStorms 12 = .ok (.aload_n 0, 1) := by decide +kernel
theorem dX5_countStorms_13 : decode cX5_countStorms 13 = .ok (.iload_n 3, 1) := by decide +kernel
theorem dX5_countStorms_14 : decode cX5_countStorms 14 = .ok (.iload_n 1, 1) := by decide +kernel
theorem dX5_countStorms_15 : decode cX5_countStorms 15 = .ok (.invokevirtual 51, 3) := by decide +kernel
theorem dX5_countStorms_18 : decode cX5_countStorms 18 = .ok (.ifCond .eq 6, 3) := by decide +kernel
theorem dX5_countStorms_21 : decode cX5_countStorms 21 = .ok (.iinc 2 1, 3) := by decide +kernel
theorem dX5_countStorms_24 : decode cX5_countStorms 24 = .ok (.iinc 3 1, 3) := by decide +kernel
theorem dX5_countStorms_27 : decode cX5_countStorms 27 = .ok (.goto (-23), 3) := by decide +kernel
theorem dX5_countStorms_30 : decode cX5_countStorms 30 = .ok (.iload_n 2, 1) := by decide +kernel
theorem dX5_countStorms_31 : decode cX5_countStorms 31 = .ok (.ireturn, 1) := by decide +kernel
theorem dX5_firstOfStorm_0 : decode cX5_firstOfStorm 0 = .ok (.iconst 0, 1) := by decide +kernel
theorem dX5_firstOfStorm_1 : decode cX5_firstOfStorm 1 = .ok (.istore_n 3, 1) := by decide +kernel
theorem dX5_firstOfStorm_2 : decode cX5_firstOfStorm 2 = .ok (.iconst 0, 1) := by decide +kernel
theorem dX5_firstOfStorm_3 : decode cX5_firstOfStorm 3 = .ok (.istore 4, 2) := by decide +kernel
theorem dX5_firstOfStorm_5 : decode cX5_firstOfStorm 5 = .ok (.iload 4, 2) := by decide +kernel
theorem dX5_firstOfStorm_7 : decode cX5_firstOfStorm 7 = .ok (.aload_n 0, 1) := by decide +kernel
theorem dX5_firstOfStorm_8 : decode cX5_firstOfStorm 8 = .ok (.getfield 25, 3) := by decide +kernel
theorem dX5_firstOfStorm_11 : decode cX5_firstOfStorm 11 = .ok (.if_icmp .ge 30, 3) := by decide +kernel
theorem dX5_firstOfStorm_14 : decode cX5_firstOfStorm 14 = .ok (.aload_n 0, 1) := by decide +kernel
theorem dX5_firstOfStorm_15 : decode cX5_firstOfStorm 15 = .ok (.iload 4, 2) := by decide +kernel
theorem dX5_firstOfStorm_17 : decode cX5_firstOfStorm 17 = .ok (.iload_n 2, 1) := by decide +kernel
theorem dX5_firstOfStorm_18 : decode cX5_firstOfStorm 18 = .ok (.invokevirtual 51, 3) := by decide +kernel
theorem dX5_firstOfStorm_21 : decode cX5_firstOfStorm 21 = .ok (.ifCond .eq 14, 3) := by decide +kernel
theorem dX5_firstOfStorm_24 : decode cX5_firstOfStorm 24 = .ok (.iload_n 3, 1) := by decide +kernel
theorem dX5_firstOfStorm_25 : decode cX5_firstOfStorm 25 = .ok (.iload_n 1, 1) := by decide +kernel
theorem dX5_firstOfStorm_26 : decode cX5_firstOfStorm 26 = .ok (.if_icmp .ne 6, 3) := by decide +kernel
theorem dX5_firstOfStorm_29 : decode cX5_firstOfStorm 29 = .ok (.iload 4, 2) := by decide +kernel
theorem dX5_firstOfStorm_31 : decode cX5_firstOfStorm 31 = .ok (.ireturn, 1) := by decide +kernel
theorem dX5_firstOfStorm_32 : decode cX5_firstOfStorm 32 = .ok (.iinc 3 1, 3) := by decide +kernel
theorem dX5_firstOfStorm_35 : decode cX5_firstOfStorm 35 = .ok (.iinc 4 1, 3) := by decide +kernel
theorem dX5_firstOfStorm_38 : decode cX5_firstOfStorm 38 = .ok (.goto (-33), 3) := by decide +kernel
theorem dX5_firstOfStorm_41 : decode cX5_firstOfStorm 41 = .ok (.iconst (-1), 1) := by decide +kernel
theorem dX5_firstOfStorm_42 : decode cX5_firstOfStorm 42 = .ok (.ireturn, 1) := by decide +kernel
theorem dX5_endOfStorm_0 : decode cX5_endOfStorm 0 = .ok (.iload_n 1, 1) := by decide +kernel
theorem dX5_endOfStorm_1 : decode cX5_endOfStorm 1 = .ok (.iconst 1, 1) := by decide +kernel
theorem dX5_endOfStorm_2 : decode cX5_endOfStorm 2 = .ok (.iadd, 1) := by decide +kernel
theorem dX5_endOfStorm_3 : decode cX5_endOfStorm 3 = .ok (.istore_n 3, 1) := by decide +kernel
theorem dX5_endOfStorm_4 : decode cX5_endOfStorm 4 = .ok (.iload_n 3, 1) := by decide +kernel
theorem dX5_endOfStorm_5 : decode cX5_endOfStorm 5 = .ok (.aload_n 0, 1) := by decide +kernel
theorem dX5_endOfStorm_6 : decode cX5_endOfStorm 6 = .ok (.getfield 25, 3) := by decide +kernel
theorem dX5_endOfStorm_9 : decode cX5_endOfStorm 9 = .ok (.if_icmp .ge 20, 3) := by decide +kernel
theorem dX5_endOfStorm_12 : decode cX5_endOfStorm 12 = .ok (.aload_n 0, 1) := by decide +kernel
theorem dX5_endOfStorm_13 : decode cX5_endOfStorm 13 = .ok (.iload_n 3, 1) := by decide +kernel
theorem dX5_endOfStorm_14 : decode cX5_endOfStorm 14 = .ok (.iload_n 2, 1) := by decide +kernel
theorem dX5_endOfStorm_15 : decode cX5_endOfStorm 15 = .ok (.invokevirtual 51, 3) := by decide +kernel
theorem dX5_endOfStorm_18 : decode cX5_endOfStorm 18 = .ok (.ifCond .eq 5, 3) := by decide +kernel
theorem dX5_endOfStorm_21 : decode cX5_endOfStorm 21 = .ok (.iload_n 3, 1) := by decide +kernel
theorem dX5_endOfStorm_22 : decode cX5_endOfStorm 22 = .ok (.ireturn, 1) := by decide +kernel
theorem dX5_endOfStorm_23 : decode cX5_endOfStorm 23 = .ok (.iinc 3 1, 3) := by decide +kernel
theorem dX5_endOfStorm_26 : decode cX5_endOfStorm 26 = .ok (.goto (-22), 3) := by decide +kernel
theorem dX5_endOfStorm_29 : decode cX5_endOfStorm 29 = .ok (.aload_n 0, 1) := by decide +kernel
theorem dX5_endOfStorm_30 : decode cX5_endOfStorm 30 = .ok (.getfield 25, 3) := by decide +kernel
theorem dX5_endOfStorm_33 : decode cX5_endOfStorm 33 = .ok (.ireturn, 1) := by decide +kernel
theorem dX5_lossBetweenTips_0 : decode cX5_lossBetweenTips 0 = .ok (.iconst 0, 1) := by decide +kernel
theorem dX5_lossBetweenTips_1 : decode cX5_lossBetweenTips 1 = .ok (.istore 4, 2) := by decide +kernel
theorem dX5_lossBetweenTips_3 : decode cX5_lossBetweenTips 3 = .ok (.iload_n 1, 1) := by decide +kernel
theorem dX5_lossBetweenTips_4 : decode cX5_lossBetweenTips 4 = .ok (.iconst 1, 1) := by decide +kernel
theorem dX5_lossBetweenTips_5 : decode cX5_lossBetweenTips 5 = .ok (.iadd, 1) := by decide +kernel
theorem dX5_lossBetweenTips_6 : decode cX5_lossBetweenTips 6 = .ok (.istore 5, 2) := by decide +kernel
theorem dX5_lossBetweenTips_8 : decode cX5_lossBetweenTips 8 = .ok (.iload 5, 2) := by decide +kernel
theorem dX5_lossBetweenTips_10 : decode cX5_lossBetweenTips 10 = .ok (.iload_n 2, 1) := by decide +kernel
theorem dX5_lossBetweenTips_11 : decode cX5_lossBetweenTips 11 = .ok (.if_icmp .ge 28, 3) := by decide +kernel
theorem dX5_lossBetweenTips_14 : decode cX5_lossBetweenTips 14 = .ok (.iload 4, 2) := by decide +kernel
theorem dX5_lossBetweenTips_16 : decode cX5_lossBetweenTips 16 = .ok (.iload_n 3, 1) := by decide +kernel
theorem dX5_lossBetweenTips_17 : decode cX5_lossBetweenTips 17 = .ok (.aload_n 0, 1) := by decide +kernel
theorem dX5_lossBetweenTips_18 : decode cX5_lossBetweenTips 18 = .ok (.iload 5, 2) := by decide +kernel
theorem dX5_lossBetweenTips_20 : decode cX5_lossBetweenTips 20 = .ok (.iconst 1, 1) := by decide +kernel
theorem dX5_lossBetweenTips_21 : decode cX5_lossBetweenTips 21 = .ok (.isub, 1) := by decide +kernel
theorem dX5_lossBetweenTips_22 : decode cX5_lossBetweenTips 22 = .ok (.iload 5, 2) := by decide +kernel
theorem dX5_lossBetweenTips_24 : decode cX5_lossBetweenTips 24 = .ok (.invokevirtual 42, 3) := by decide +kernel
theorem dX5_lossBetweenTips_27 : decode cX5_lossBetweenTips 27 = .ok (.invokestatic 55, 3) := by decide +kernel
theorem dX5_lossBetweenTips_30 : decode cX5_lossBetweenTips 30 = .ok (.iadd, 1) := by decide +kernel
theorem dX5_lossBetweenTips_31 : decode cX5_lossBetweenTips 31 = .ok (.istore 4, 2) := by decide +kernel
theorem dX5_lossBetweenTips_33 : decode cX5_lossBetweenTips 33 = .ok (.iinc 5 1, 3) := by decide +kernel
theorem dX5_lossBetweenTips_36 : decode cX5_lossBetweenTips 36 = .ok (.goto (-28), 3) := by decide +kernel
theorem dX5_lossBetweenTips_39 : decode cX5_lossBetweenTips 39 = .ok (.iload 4, 2) := by decide +kernel
theorem dX5_lossBetweenTips_41 : decode cX5_lossBetweenTips 41 = .ok (.ireturn, 1) := by decide +kernel
theorem dX5_peak_0 : decode cX5_peak 0 = .ok (.iconst 0, 1) := by decide +kernel
theorem dX5_peak_1 : decode cX5_peak 1 = .ok (.istore_n 3, 1) := by decide +kernel
theorem dX5_peak_2 : decode cX5_peak 2 = .ok (.iload_n 1, 1) := by decide +kernel
theorem dX5_peak_3 : decode cX5_peak 3 = .ok (.istore 4, 2) := by decide +kernel
theorem dX5_peak_5 : decode cX5_peak 5 = .ok (.iload_n 1, 1) := by decide +kernel
theorem dX5_peak_6 : decode cX5_peak 6 = .ok (.istore 5, 2) := by decide +kernel
theorem dX5_peak_8 : decode cX5_peak 8 = .ok (.iload 5, 2) := by decide +kernel
theorem dX5_peak_10 : decode cX5_peak 10 = .ok (.iload_n 2, 1) := by decide +kernel
theorem dX5_peak_11 : decode cX5_peak 11 = .ok (.if_icmp .ge 47, 3) := by decide +kernel
theorem dX5_peak_14 : decode cX5_peak 14 = .ok (.iload 4, 2) := by decide +kernel
theorem dX5_peak_16 : decode cX5_peak 16 = .ok (.iload 5, 2) := by decide +kernel
theorem dX5_peak_18 : decode cX5_peak 18 = .ok (.if_icmp .ge 22, 3) := by decide +kernel
theorem dX5_peak_21 : decode cX5_peak 21 = .ok (.aload_n 0, 1) := by decide +kernel
theorem dX5_peak_22 : decode cX5_peak 22 = .ok (.iload 4, 2) := by decide +kernel
theorem dX5_peak_24 : decode cX5_peak 24 = .ok (.iload 5, 2) := by decide +kernel
theorem dX5_peak_26 : decode cX5_peak 26 = .ok (.invokevirtual 42, 3) := by decide +kernel
theorem dX5_peak_29 : decode cX5_peak 29 = .ok (.bipush 30, 2) := by decide +kernel
theorem dX5_peak_31 : decode cX5_peak 31 = .ok (.if_icmp .lt 9, 3) := by decide +kernel
theorem dX5_peak_34 : decode cX5_peak 34 = .ok (.iinc 4 1, 3) := by decide +kernel
theorem dX5_peak_37 : decode cX5_peak 37 = .ok (.goto (-23), 3) := by decide +kernel
theorem dX5_peak_40 : decode cX5_peak 40 = .ok (.iload_n 3, 1) := by decide +kernel
theorem dX5_peak_41 : decode cX5_peak 41 = .ok (.iload 5, 2) := by decide +kernel
theorem dX5_peak_43 : decode cX5_peak 43 = .ok (.iload 4, 2) := by decide +kernel
theorem dX5_peak_45 : decode cX5_peak 45 = .ok (.isub, 1) := by decide +kernel
theorem dX5_peak_46 : decode cX5_peak 46 = .ok (.iconst 1, 1) := by decide +kernel
theorem dX5_peak_47 : decode cX5_peak 47 = .ok (.iadd, 1) := by decide +kernel
theorem dX5_peak_48 : decode cX5_peak 48 = .ok (.invokestatic 46, 3) := by decide +kernel
theorem dX5_peak_51 : decode cX5_peak 51 = .ok (.istore_n 3, 1) := by decide +kernel
theorem dX5_peak_52 : decode cX5_peak 52 = .ok (.iinc 5 1, 3) := by decide +kernel
theorem dX5_peak_55 : decode cX5_peak 55 = .ok (.goto (-47), 3) := by decide +kernel
theorem dX5_peak_58 : decode cX5_peak 58 = .ok (.iload_n 3, 1) := by decide +kernel
theorem dX5_peak_59 : decode cX5_peak 59 = .ok (.ireturn, 1) := by decide +kernel
theorem dX6_init_0 : decode cX6_init 0 = .ok (.aload_n 0, 1) := by decide +kernel
theorem dX6_init_1 : decode cX6_init 1 = .ok (.invokespecial 3, 3) := by decide +kernel
theorem dX6_init_4 : decode cX6_init 4 = .ok (.aload_n 0, 1) := by decide +kernel
theorem dX6_init_5 : decode cX6_init 5 = .ok (.sipush 1000, 3) := by decide +kernel
theorem dX6_init_8 : decode cX6_init 8 = .ok (.newarray .int, 2) := by decide +kernel
theorem dX6_init_10 : decode cX6_init 10 = .ok (.putfield 9, 3) := by decide +kernel
theorem dX6_init_13 : decode cX6_init 13 = .ok (.aload_n 0, 1) := by decide +kernel
theorem dX6_init_14 : decode cX6_init 14 = .ok (.sipush 1000, 3) := by decide +kernel
theorem dX6_init_17 : decode cX6_init 17 = .ok (.newarray .boolean, 2) := by decide +kernel
theorem dX6_init_19 : decode cX6_init 19 = .ok (.putfield 15, 3) := by decide +kernel
theorem dX6_init_22 : decode cX6_init 22 = .ok (.return_, 1) := by decide +kernel
theorem dX6_lookAhead_0 : decode cX6_lookAhead 0 = .ok (.aload_n 0, 1) := by decide +kernel
theorem dX6_lookAhead_1 : decode cX6_lookAhead 1 = .ok (.iload_n 2, 1) := by decide +kernel
theorem dX6_lookAhead_2 : decode cX6_lookAhead 2 = .ok (.sipush 1000, 3) := by decide +kernel
theorem dX6_lookAhead_5 : decode cX6_lookAhead 5 = .ok (.invokestatic 19, 3) := by decide +kernel
theorem dX6_lookAhead_8 : decode cX6_lookAhead 8 = .ok (.putfield 25, 3) := by decide +kernel
theorem dX6_lookAhead_11 : decode cX6_lookAhead 11 = .ok (.iconst 0, 1) := by decide +kernel
theorem dX6_lookAhead_12 : decode cX6_lookAhead 12 = .ok (.istore_n 3, 1) := by decide +kernel
theorem dX6_lookAhead_13 : decode cX6_lookAhead 13 = .ok (.iload_n 3, 1) := by decide +kernel
theorem dX6_lookAhead_14 : decode cX6_lookAhead 14 = .ok (.aload_n 0, 1) := by decide +kernel
theorem dX6_lookAhead_15 : decode cX6_lookAhead 15 = .ok (.getfield 25, 3) := by decide +kernel
theorem dX6_lookAhead_18 : decode cX6_lookAhead 18 = .ok (.if_icmp .ge 67, 3) := by decide +kernel
theorem dX6_lookAhead_21 : decode cX6_lookAhead 21 = .ok (.aload_n 1, 1) := by decide +kernel
theorem dX6_lookAhead_22 : decode cX6_lookAhead 22 = .ok (.getfield 29, 3) := by decide +kernel
theorem dX6_lookAhead_25 : decode cX6_lookAhead 25 = .ok (.aload_n 1, 1) := by decide +kernel
theorem dX6_lookAhead_26 : decode cX6_lookAhead 26 = .ok (.getfield 35, 3) := by decide +kernel
theorem dX6_lookAhead_29 : decode cX6_lookAhead 29 = .ok (.iload_n 3, 1) := by decide +kernel
theorem dX6_lookAhead_30 : decode cX6_lookAhead 30 = .ok (.iadd, 1) := by decide +kernel
theorem dX6_lookAhead_31 : decode cX6_lookAhead 31 = .ok (.invokevirtual 38, 3) := by decide +kernel
theorem dX6_lookAhead_34 : decode cX6_lookAhead 34 = .ok (.istore 4, 2) := by decide +kernel
theorem dX6_lookAhead_36 : decode cX6_lookAhead 36 = .ok (.aload_n 0, 1) := by decide +kernel
theorem dX6_lookAhead_37 : decode cX6_lookAhead 37 = .ok (.getfield 9, 3) := by decide +kernel
theorem dX6_lookAhead_40 : decode cX6_lookAhead 40 = .ok (.iload_n 3, 1) := by decide +kernel
theorem dX6_lookAhead_41 : decode cX6_lookAhead 41 = .ok (.aload_n 1, 1) := by decide +kernel
theorem dX6_lookAhead_42 : decode cX6_lookAhead 42 = .ok (.getfield 44, 3) := by decide +kernel
theorem dX6_lookAhead_45 : decode cX6_lookAhead 45 = .ok (.iload 4, 2) := by decide +kernel
theorem dX6_lookAhead_47 : decode cX6_lookAhead 47 = .ok (.aload_n 1, 1) := by decide +kernel
theorem dX6_lookAhead_48 : decode cX6_lookAhead 48 = .ok (.getfield 48, 3) := by decide +kernel
theorem dX6_lookAhead_51 : decode cX6_lookAhead 51 = .ok (.iconst 2, 1) := by decide +kernel
theorem dX6_lookAhead_52 : decode cX6_lookAhead 52 = .ok (.iaload, 1) := by decide +kernel
theorem dX6_lookAhead_53 : decode cX6_lookAhead 53 = .ok (.aload_n 1, 1) := by decide +kernel
theorem dX6_lookAhead_54 : decode cX6_lookAhead 54 = .ok (.getfield 48, 3) := by decide +kernel
theorem dX6_lookAhead_57 : decode cX6_lookAhead 57 = .ok (.iconst 3, 1) := by decide +kernel
theorem dX6_lookAhead_58 : decode cX6_lookAhead 58 = .ok (.iaload, 1) := by decide +kernel
theorem dX6_lookAhead_59 : decode cX6_lookAhead 59 = .ok (.invokevirtual 51, 3) := by decide +kernel
theorem dX6_lookAhead_62 : decode cX6_lookAhead 62 = .ok (.iastore, 1) := by decide +kernel
theorem dX6_lookAhead_63 : decode cX6_lookAhead 63 = .ok (.aload_n 0, 1) := by decide +kernel
theorem dX6_lookAhead_64 : decode cX6_lookAhead 64 = .ok (.getfield 15, 3) := by decide +kernel
theorem dX6_lookAhead_67 : decode cX6_lookAhead 67 = .ok (.iload_n 3, 1) := by decide +kernel
theorem dX6_lookAhead_68 : decode cX6_lookAhead 68 = .ok (.iload 4, 2) := by decide +kernel
theorem dX6_lookAhead_70 : decode cX6_lookAhead 70 = .ok (.ifCond .ne 7, 3) := by decide +kernel
theorem dX6_lookAhead_73 : decode cX6_lookAhead 73 = .ok (.iconst 1, 1) := by decide +kernel
theorem dX6_lookAhead_74 : decode cX6_lookAhead 74 = .ok (.goto 4, 3) := by decide +kernel
theorem dX6_lookAhead_77 : decode cX6_lookAhead 77 = .ok (.iconst 0, 1) := by decide +kernel
theorem dX6_lookAhead_78 : decode cX6_lookAhead 78 = .ok (.bastore, 1) := by decide +kernel
theorem dX6_lookAhead_79 : decode cX6_lookAhead 79 = .ok (.iinc 3 1, 3) := by decide +kernel
theorem dX6_lookAhead_82 : decode cX6_lookAhead 82 = .ok (.goto (-69), 3) := by decide +kernel
theorem dX6_lookAhead_85 : decode cX6_lookAhead 85 = .ok (.return_, 1) := by decide +kernel
theorem dX6_losesAtMost_0 : decode cX6_losesAtMost 0 = .ok (.aload_n 3, 1) := by decide +kernel
theorem dX6_losesAtMost_1 : decode cX6_losesAtMost 1 = .ok (.getfield 57, 3) := by decide +kernel
theorem dX6_losesAtMost_4 : decode cX6_losesAtMost 4 = .ok (.astore 4, 2) := by decide +kernel
theorem dX6_losesAtMost_6 : decode cX6_losesAtMost 6 = .ok (.aload_n 3, 1) := by decide +kernel
theorem dX6_losesAtMost_7 : decode cX6_losesAtMost 7 = .ok (.getfield 48, 3) := by decide +kernel
theorem dX6_losesAtMost_10 : decode cX6_losesAtMost 10 = .ok (.iconst 1, 1) := by decide +kernel
theorem dX6_losesAtMost_11 : decode cX6_losesAtMost 11 = .ok (.iaload, 1) := by decide +kernel
theorem dX6_losesAtMost_12 : decode cX6_losesAtMost 12 = .ok (.istore 5, 2) := by decide +kernel
theorem dX6_losesAtMost_14 : decode cX6_losesAtMost 14 = .ok (.aload_n 3, 1) := by decide +kernel
theorem dX6_losesAtMost_15 : decode cX6_losesAtMost 15 = .ok (.getfield 48, 3) := by decide +kernel
theorem dX6_losesAtMost_18 : decode cX6_losesAtMost 18 = .ok (.iconst 4, 1) := by decide +kernel
theorem dX6_losesAtMost_19 : decode cX6_losesAtMost 19 = .ok (.iaload, 1) := by decide +kernel
theorem dX6_losesAtMost_20 : decode cX6_losesAtMost 20 = .ok (.istore 6, 2) := by decide +kernel
theorem dX6_losesAtMost_22 : decode cX6_losesAtMost 22 = .ok (.aload 4, 2) := by decide +kernel
theorem dX6_losesAtMost_24 : decode cX6_losesAtMost 24 = .ok (.getfield 61, 3) := by decide +kernel
theorem dX6_losesAtMost_27 : decode cX6_losesAtMost 27 = .ok (.aload 4, 2) := by decide +kernel
theorem dX6_losesAtMost_29 : decode cX6_losesAtMost 29 = .ok (.getfield 66, 3) := by decide +kernel
theorem dX6_losesAtMost_32 : decode cX6_losesAtMost 32 = .ok (.iadd, 1) := by decide +kernel
theorem dX6_losesAtMost_33 : decode cX6_losesAtMost 33 = .ok (.iload_n 1, 1) := by decide +kernel
theorem dX6_losesAtMost_34 : decode cX6_losesAtMost 34 = .ok (.iadd, 1) := by decide +kernel
theorem dX6_losesAtMost_35 : decode cX6_losesAtMost 35 = .ok (.istore 7, 2) := by decide +kernel
theorem dX6_losesAtMost_37 : decode cX6_losesAtMost 37 = .ok (.iconst 0, 1) := by decide +kernel
theorem dX6_losesAtMost_38 : decode cX6_losesAtMost 38 = .ok (.istore 8, 2) := by decide +kernel
theorem dX6_losesAtMost_40 : decode cX6_losesAtMost 40 = .ok (.iload 8, 2) := by decide +kernel
theorem dX6_losesAtMost_42 : decode cX6_losesAtMost 42 = .ok (.aload_n 0, 1) := by decide +kernel
theorem dX6_losesAtMost_43 : decode cX6_losesAtMost 43 = .ok (.getfield 25, 3) := by decide +kernel
theorem dX6_losesAtMost_46 : decode cX6_losesAtMost 46 = .ok (.if_icmp .ge 50, 3) := by decide +kernel
theorem dX6_losesAtMost_49 : decode cX6_losesAtMost 49 = .ok (.aload 4, 2) := by decide +kernel
theorem dX6_losesAtMost_51 : decode cX6_losesAtMost 51 = .ok (.getfield 61, 3) := by decide +kernel
theorem dX6_losesAtMost_54 : decode cX6_losesAtMost 54 = .ok (.aload 4, 2) := by decide +kernel
theorem dX6_losesAtMost_56 : decode cX6_losesAtMost 56 = .ok (.getfield 66, 3) := by decide +kernel
theorem dX6_losesAtMost_59 : decode cX6_losesAtMost 59 = .ok (.iadd, 1) := by decide +kernel
theorem dX6_losesAtMost_60 : decode cX6_losesAtMost 60 = .ok (.iload 7, 2) := by decide +kernel
theorem dX6_losesAtMost_62 : decode cX6_losesAtMost 62 = .ok (.if_icmp .gt 34, 3) := by decide +kernel
theorem dX6_losesAtMost_65 : decode cX6_losesAtMost 65 = .ok (.aload 4, 2) := by decide +kernel
theorem dX6_losesAtMost_67 : decode cX6_losesAtMost 67 = .ok (.aload_n 0, 1) := by decide +kernel
theorem dX6_losesAtMost_68 : decode cX6_losesAtMost 68 = .ok (.getfield 9, 3) := by decide +kernel
theorem dX6_losesAtMost_71 : decode cX6_losesAtMost 71 = .ok (.iload 8, 2) := by decide +kernel
theorem dX6_losesAtMost_73 : decode cX6_losesAtMost 73 = .ok (.iaload, 1) := by decide +kernel
theorem dX6_losesAtMost_74 : decode cX6_losesAtMost 74 = .ok (.aload_n 0, 1) := by decide +kernel
theorem dX6_losesAtMost_75 : decode cX6_losesAtMost 75 = .ok (.getfield 15, 3) := by decide +kernel
theorem dX6_losesAtMost_78 : decode cX6_losesAtMost 78 = .ok (.iload 8, 2) := by decide +kernel
theorem dX6_losesAtMost_80 : decode cX6_losesAtMost 80 = .ok (.baload, 1) := by decide +kernel
theorem dX6_losesAtMost_81 : decode cX6_losesAtMost 81 = .ok (.iload_n 2, 1) := by decide +kernel
theorem dX6_losesAtMost_82 : decode cX6_losesAtMost 82 = .ok (.iload 5, 2) := by decide +kernel
theorem dX6_losesAtMost_84 : decode cX6_losesAtMost 84 = .ok (.iload 6, 2) := by decide +kernel
theorem dX6_losesAtMost_86 : decode cX6_losesAtMost 86 = .ok (.invokevirtual 69, 3) := by decide +kernel
theorem dX6_losesAtMost_89 : decode cX6_losesAtMost 89 = .ok (.pop, 1) := by decide +kernel
theorem dX6_losesAtMost_90 : decode cX6_losesAtMost 90 = .ok (.iinc 8 1, 3) := by decide +kernel
theorem dX6_losesAtMost_93 : decode cX6_losesAtMost 93 = .ok (.goto (-53), 3) := by decide +kernel
theorem dX6_losesAtMost_96 : decode cX6_losesAtMost 96 = .ok (.aload 4, 2) := by decide +kernel
theorem dX6_losesAtMost_98 : decode cX6_losesAtMost 98 = .ok (.getfield 61, 3) := by decide +kernel
theorem dX6_losesAtMost_101 : decode cX6_losesAtMost 101 = .ok (.aload 4, 2) := by decide +kernel
theorem dX6_losesAtMost_103 : decode cX6_losesAtMost 103 = .ok (.getfield 66, 3) := by decide +kernel
theorem dX6_losesAtMost_106 : decode cX6_losesAtMost 106 = .ok (.iadd, 1) := by decide +kernel
theorem dX6_losesAtMost_107 : decode cX6_losesAtMost 107 = .ok (.iload 7, 2) := by decide +kernel
theorem dX6_losesAtMost_109 : decode cX6_losesAtMost 109 = .ok (.if_icmp .gt 7, 3) := by decide +kernel
theorem dX6_losesAtMost_112 : decode cX6_losesAtMost 112 = .ok (.iconst 1, 1) := by decide +kernel
theorem dX6_losesAtMost_113 : decode cX6_losesAtMost 113 = .ok (.goto 4, 3) := by decide +kernel
theorem dX6_losesAtMost_116 : decode cX6_losesAtMost 116 = .ok (.iconst 0, 1) := by decide +kernel
theorem dX6_losesAtMost_117 : decode cX6_losesAtMost 117 = .ok (.ireturn, 1) := by decide +kernel
theorem dX7_init_0 : decode cX7_init 0 = .ok (.aload_n 0, 1) := by decide +kernel
theorem dX7_init_1 : decode cX7_init 1 = .ok (.invokespecial 3, 3) := by decide +kernel
theorem dX7_init_4 : decode cX7_init 4 = .ok (.aload_n 0, 1) := by decide +kernel
theorem dX7_init_5 : decode cX7_init 5 = .ok (.bipush 12, 2) := by decide +kernel
theorem dX7_init_7 : decode cX7_init 7 = .ok (.newarray .int, 2) := by decide +kernel
theorem dX7_init_9 : decode cX7_init 9 = .ok (.putfield 9, 3) := by decide +kernel
theorem dX7_init_12 : decode cX7_init 12 = .ok (.aload_n 0, 1) := by decide +kernel
theorem dX7_init_13 : decode cX7_init 13 = .ok (.bipush 12, 2) := by decide +kernel
theorem dX7_init_15 : decode cX7_init 15 = .ok (.newarray .int, 2) := by decide +kernel
theorem dX7_init_17 : decode cX7_init 17 = .ok (.putfield 15, 3) := by decide +kernel
theorem dX7_init_20 : decode cX7_init 20 = .ok (.aload_n 0, 1) := by decide +kernel
theorem dX7_init_21 : decode cX7_init 21 = .ok (.bipush 12, 2) := by decide +kernel
theorem dX7_init_23 : decode cX7_init 23 = .ok (.newarray .int, 2) := by decide +kernel
theorem dX7_init_25 : decode cX7_init 25 = .ok (.putfield 18, 3) := by decide +kernel
theorem dX7_init_28 : decode cX7_init 28 = .ok (.return_, 1) := by decide +kernel
theorem dX8_init_0 : decode cX8_init 0 = .ok (.aload_n 0, 1) := by decide +kernel
theorem dX8_init_1 : decode cX8_init 1 = .ok (.invokespecial 3, 3) := by decide +kernel
theorem dX8_init_4 : decode cX8_init 4 = .ok (.aload_n 0, 1) := by decide +kernel
theorem dX8_init_5 : decode cX8_init 5 = .ok (.bipush 12, 2) := by decide +kernel
theorem dX8_init_7 : decode cX8_init 7 = .ok (.newarray .int, 2) := by decide +kernel
theorem dX8_init_9 : decode cX8_init 9 = .ok (.putfield 9, 3) := by decide +kernel
theorem dX8_init_12 : decode cX8_init 12 = .ok (.aload_n 0, 1) := by decide +kernel
theorem dX8_init_13 : decode cX8_init 13 = .ok (.bipush 12, 2) := by decide +kernel
theorem dX8_init_15 : decode cX8_init 15 = .ok (.newarray .int, 2) := by decide +kernel
theorem dX8_init_17 : decode cX8_init 17 = .ok (.putfield 15, 3) := by decide +kernel
theorem dX8_init_20 : decode cX8_init 20 = .ok (.aload_n 0, 1) := by decide +kernel
theorem dX8_init_21 : decode cX8_init 21 = .ok (.bipush 12, 2) := by decide +kernel
theorem dX8_init_23 : decode cX8_init 23 = .ok (.newarray .int, 2) := by decide +kernel
theorem dX8_init_25 : decode cX8_init 25 = .ok (.putfield 18, 3) := by decide +kernel
theorem dX8_init_28 : decode cX8_init 28 = .ok (.return_, 1) := by decide +kernel
theorem dX8_copyFrom_0 : decode cX8_copyFrom 0 = .ok (.aload_n 1, 1) := by decide +kernel
theorem dX8_copyFrom_1 : decode cX8_copyFrom 1 = .ok (.getfield 9, 3) := by decide +kernel
theorem dX8_copyFrom_4 : decode cX8_copyFrom 4 = .ok (.aload_n 0, 1) := by decide +kernel
theorem dX8_copyFrom_5 : decode cX8_copyFrom 5 = .ok (.getfield 9, 3) := by decide +kernel
theorem dX8_copyFrom_8 : decode cX8_copyFrom 8 = .ok (.invokestatic 21, 3) := by decide +kernel
theorem dX8_copyFrom_11 : decode cX8_copyFrom 11 = .ok (.aload_n 1, 1) := by decide +kernel
theorem dX8_copyFrom_12 : decode cX8_copyFrom 12 = .ok (.getfield 15, 3) := by decide +kernel
theorem dX8_copyFrom_15 : decode cX8_copyFrom 15 = .ok (.aload_n 0, 1) := by decide +kernel
theorem dX8_copyFrom_16 : decode cX8_copyFrom 16 = .ok (.getfield 15, 3) := by decide +kernel
theorem dX8_copyFrom_19 : decode cX8_copyFrom 19 = .ok (.invokestatic 21, 3) := by decide +kernel
theorem dX8_copyFrom_22 : decode cX8_copyFrom 22 = .ok (.aload_n 1, 1) := by decide +kernel
theorem dX8_copyFrom_23 : decode cX8_copyFrom 23 = .ok (.getfield 18, 3) := by decide +kernel
theorem dX8_copyFrom_26 : decode cX8_copyFrom 26 = .ok (.aload_n 0, 1) := by decide +kernel
theorem dX8_copyFrom_27 : decode cX8_copyFrom 27 = .ok (.getfield 18, 3) := by decide +kernel
theorem dX8_copyFrom_30 : decode cX8_copyFrom 30 = .ok (.invokestatic 21, 3) := by decide +kernel
theorem dX8_copyFrom_33 : decode cX8_copyFrom 33 = .ok (.aload_n 0, 1) := by decide +kernel
theorem dX8_copyFrom_34 : decode cX8_copyFrom 34 = .ok (.aload_n 1, 1) := by decide +kernel
theorem dX8_copyFrom_35 : decode cX8_copyFrom 35 = .ok (.getfield 25, 3) := by decide +kernel
theorem dX8_copyFrom_38 : decode cX8_copyFrom 38 = .ok (.putfield 25, 3) := by decide +kernel
theorem dX8_copyFrom_41 : decode cX8_copyFrom 41 = .ok (.return_, 1) := by decide +kernel
theorem dX8_has_0 : decode cX8_has 0 = .ok (.iload_n 1, 1) := by decide +kernel
theorem dX8_has_1 : decode cX8_has 1 = .ok (.ifCond .lt 15, 3) := by decide +kernel
theorem dX8_has_4 : decode cX8_has 4 = .ok (.iload_n 1, 1) := by decide +kernel
theorem dX8_has_5 : decode cX8_has 5 = .ok (.aload_n 0, 1) := by decide +kernel
theorem dX8_has_6 : decode cX8_has 6 = .ok (.getfield 25, 3) := by decide +kernel
theorem dX8_has_9 : decode cX8_has 9 = .ok (.if_icmp .ge 7, 3) := by decide +kernel
theorem dX8_has_12 : decode cX8_has 12 = .ok (.iconst 1, 1) := by decide +kernel
theorem dX8_has_13 : decode cX8_has 13 = .ok (.goto 4, 3) := by decide +kernel
theorem dX8_has_16 : decode cX8_has 16 = .ok (.iconst 0, 1) := by decide +kernel
theorem dX8_has_17 : decode cX8_has 17 = .ok (.ireturn, 1) := by decide +kernel
theorem dX8_insert_0 : decode cX8_insert 0 = .ok (.aload_n 0, 1) := by decide +kernel
theorem dX8_insert_1 : decode cX8_insert 1 = .ok (.getfield 25, 3) := by decide +kernel
theorem dX8_insert_4 : decode cX8_insert 4 = .ok (.bipush 12, 2) := by decide +kernel
theorem dX8_insert_6 : decode cX8_insert 6 = .ok (.if_icmp .lt 6, 3) := by decide +kernel
theorem dX8_insert_9 : decode cX8_insert 9 = .ok (.bipush (-3), 2) := by decide +kernel
theorem dX8_insert_11 : decode cX8_insert 11 = .ok (.ireturn, 1) := by decide +kernel
theorem dX8_insert_12 : decode cX8_insert 12 = .ok (.aload_n 0, 1) := by decide +kernel
theorem dX8_insert_13 : decode cX8_insert 13 = .ok (.getfield 25, 3) := by decide +kernel
theorem dX8_insert_16 : decode cX8_insert 16 = .ok (.istore 4, 2) := by decide +kernel
theorem dX8_insert_18 : decode cX8_insert 18 = .ok (.iload 4, 2) := by decide +kernel
theorem dX8_insert_20 : decode cX8_insert 20 = .ok (.ifCond .le 32, 3) := by decide +kernel
theorem dX8_insert_23 : decode cX8_insert 23 = .ok (.aload_n 0, 1) := by decide +kernel
theorem dX8_insert_24 : decode cX8_insert 24 = .ok (.getfield 9, 3) := by decide +kernel
theorem dX8_insert_27 : decode cX8_insert 27 = .ok (.iload 4, 2) := by decide +kernel
theorem dX8_insert_29 : decode cX8_insert 29 = .ok (.iconst 1, 1) := by decide +kernel
theorem dX8_insert_30 : decode cX8_insert 30 = .ok (.isub, 1) := by decide +kernel
theorem dX8_insert_31 : decode cX8_insert 31 = .ok (.iaload, 1) := by decide +kernel
theorem dX8_insert_32 : decode cX8_insert 32 = .ok (.iload_n 1, 1) := by decide +kernel
theorem dX8_insert_33 : decode cX8_insert 33 = .ok (.if_icmp .le 19, 3) := by decide +kernel
theorem dX8_insert_36 : decode cX8_insert 36 = .ok (.aload_n 0, 1) := by decide +kernel
theorem dX8_insert_37 : decode cX8_insert 37 = .ok (.iload 4, 2) := by decide +kernel
theorem dX8_insert_39 : decode cX8_insert 39 = .ok (.iconst 1, 1) := by decide +kernel
theorem dX8_insert_40 : decode cX8_insert 40 = .ok (.isub, 1) := by decide +kernel
theorem dX8_insert_41 : decode cX8_insert 41 = .ok (.iload 4, 2) := by decide +kernel
theorem dX8_insert_43 : decode cX8_insert 43 = .ok (.invokevirtual 29, 3) := by decide +kernel
theorem dX8_insert_46 : decode cX8_insert 46 = .ok (.iinc 4 (-1), 3) := by decide +kernel
theorem dX8_insert_49 : decode cX8_insert 49 = .ok (.goto (-31), 3) := by decide +kernel
theorem dX8_insert_52 : decode cX8_insert 52 = .ok (.aload_n 0, 1) := by decide +kernel
theorem dX8_insert_53 : decode cX8_insert 53 = .ok (.getfield 9, 3) := by decide +kernel
theorem dX8_insert_56 : decode cX8_insert 56 = .ok (.iload 4, 2) := by decide +kernel
theorem dX8_insert_58 : decode cX8_insert 58 = .ok (.iload_n 1, 1) := by decide +kernel
theorem dX8_insert_59 : decode cX8_insert 59 = .ok (.iastore, 1) := by decide +kernel
theorem dX8_insert_60 : decode cX8_insert 60 = .ok (.aload_n 0, 1) := by decide +kernel
theorem dX8_insert_61 : decode cX8_insert 61 = .ok (.getfield 15, 3) := by decide +kernel
theorem dX8_insert_64 : decode cX8_insert 64 = .ok (.iload 4, 2) := by decide +kernel
theorem dX8_insert_66 : decode cX8_insert 66 = .ok (.iload_n 2, 1) := by decide +kernel
theorem dX8_insert_67 : decode cX8_insert 67 = .ok (.iastore, 1) := by decide +kernel
theorem dX8_insert_68 : decode cX8_insert 68 = .ok (.aload_n 0, 1) := by decide +kernel
theorem dX8_insert_69 : decode cX8_insert 69 = .ok (.getfield 18, 3) := by decide +kernel
theorem dX8_insert_72 : decode cX8_insert 72 = .ok (.iload 4, 2) := by decide +kernel
theorem dX8_insert_74 : decode cX8_insert 74 = .ok (.iload_n 3, 1) := by decide +kernel
theorem dX8_insert_75 : decode cX8_insert 75 = .ok (.iastore, 1) := by decide +kernel
theorem dX8_insert_76 : decode cX8_insert 76 = .ok (.aload_n 0, 1) := by decide +kernel
theorem dX8_insert_77 : decode cX8_insert 77 = .ok (.dup, 1) := by decide +kernel
theorem dX8_insert_78 : decode cX8_insert 78 = .ok (.getfield 25, 3) := by decide +kernel
theorem dX8_insert_81 : decode cX8_insert 81 = .ok (.iconst 1, 1) := by decide +kernel
theorem dX8_insert_82 : decode cX8_insert 82 = .ok (.iadd, 1) := by decide +kernel
theorem dX8_insert_83 : decode cX8_insert 83 = .ok (.putfield 25, 3) := by decide +kernel
theorem dX8_insert_86 : decode cX8_insert 86 = .ok (.iload 4, 2) := by decide +kernel
theorem dX8_insert_88 : decode cX8_insert 88 = .ok (.ireturn, 1) := by decide +kernel
theorem dX8_removeEnded_0 : decode cX8_removeEnded 0 = .ok (.iconst 0, 1) := by decide +kernel
theorem dX8_removeEnded_1 : decode cX8_removeEnded 1 = .ok (.istore_n 2, 1) := by decide +kernel
theorem dX8_removeEnded_2 : decode cX8_removeEnded 2 = .ok (.iconst 0, 1) := by decide +kernel
theorem dX8_removeEnded_3 : decode cX8_removeEnded 3 = .ok (.istore_n 3, 1) := by decide +kernel
theorem dX8_removeEnded_4 : decode cX8_removeEnded 4 = .ok (.iload_n 3, 1) := by decide +kernel
theorem dX8_removeEnded_5 : decode cX8_removeEnded 5 = .ok (.aload_n 0, 1) := by decide +kernel
theorem dX8_removeEnded_6 : decode cX8_removeEnded 6 = .ok (.getfield 25, 3) := by decide +kernel
theorem dX8_removeEnded_9 : decode cX8_removeEnded 9 = .ok (.if_icmp .ge 35, 3) := by decide +kernel
theorem dX8_removeEnded_12 : decode cX8_removeEnded 12 = .ok (.aload_n 0, 1) := by decide +kernel
theorem dX8_removeEnded_13 : decode cX8_removeEnded 13 = .ok (.getfield 9, 3) := by decide +kernel
theorem dX8_removeEnded_16 : decode cX8_removeEnded 16 = .ok (.iload_n 3, 1) := by decide +kernel
theorem dX8_removeEnded_17 : decode cX8_removeEnded 17 = .ok (.iaload, 1) := by decide +kernel
theorem dX8_removeEnded_18 : decode cX8_removeEnded 18 = .ok (.aload_n 0, 1) := by decide +kernel
theorem dX8_removeEnded_19 : decode cX8_removeEnded 19 = .ok (.getfield 15, 3) := by decide +kernel
theorem dX8_removeEnded_22 : decode cX8_removeEnded 22 = .ok (.iload_n 3, 1) := by decide +kernel
theorem dX8_removeEnded_23 : decode cX8_removeEnded 23 = .ok (.iaload, 1) := by decide +kernel
theorem dX8_removeEnded_24 : decode cX8_removeEnded 24 = .ok (.iadd, 1) := by decide +kernel
theorem dX8_removeEnded_25 : decode cX8_removeEnded 25 = .ok (.iload_n 1, 1) := by decide +kernel
theorem dX8_removeEnded_26 : decode cX8_removeEnded 26 = .ok (.if_icmp .le 12, 3) := by decide +kernel
theorem dX8_removeEnded_29 : decode cX8_removeEnded 29 = .ok (.aload_n 0, 1) := by decide +kernel
theorem dX8_removeEnded_30 : decode cX8_removeEnded 30 = .ok (.iload_n 3, 1) := by decide +kernel
theorem dX8_removeEnded_31 : decode cX8_removeEnded 31 = .ok (.iload_n 2, 1) := by decide +kernel
theorem dX8_removeEnded_32 : decode cX8_removeEnded 32 = .ok (.invokevirtual 29, 3) := by decide +kernel
theorem dX8_removeEnded_35 : decode cX8_removeEnded 35 = .ok (.iinc 2 1, 3) := by decide +kernel
theorem dX8_removeEnded_38 : decode cX8_removeEnded 38 = .ok (.iinc 3 1, 3) := by decide +kernel
theorem dX8_removeEnded_41 : decode cX8_removeEnded 41 = .ok (.goto (-37), 3) := by decide +kernel
theorem dX8_removeEnded_44 : decode cX8_removeEnded 44 = .ok (.aload_n 0, 1) := by decide +kernel
theorem dX8_removeEnded_45 : decode cX8_removeEnded 45 = .ok (.iload_n 2, 1) := by decide +kernel
theorem dX8_removeEnded_46 : decode cX8_removeEnded 46 = .ok (.putfield 25, 3) := by decide +kernel
theorem dX8_removeEnded_49 : decode cX8_removeEnded 49 = .ok (.return_, 1) := by decide +kernel
theorem dX8_move_0 : decode cX8_move 0 = .ok (.aload_n 0, 1) := by decide +kernel
theorem dX8_move_1 : decode cX8_move 1 = .ok (.getfield 9, 3) := by decide +kernel
theorem dX8_move_4 : decode cX8_move 4 = .ok (.iload_n 2, 1) := by decide +kernel
theorem dX8_move_5 : decode cX8_move 5 = .ok (.aload_n 0, 1) := by decide +kernel
theorem dX8_move_6 : decode cX8_move 6 = .ok (.getfield 9, 3) := by decide +kernel
theorem dX8_move_9 : decode cX8_move 9 = .ok (.iload_n 1, 1) := by decide +kernel
theorem dX8_move_10 : decode cX8_move 10 = .ok (.iaload, 1) := by decide +kernel
theorem dX8_move_11 : decode cX8_move 11 = .ok (.iastore, 1) := by decide +kernel
theorem dX8_move_12 : decode cX8_move 12 = .ok (.aload_n 0, 1) := by decide +kernel
theorem dX8_move_13 : decode cX8_move 13 = .ok (.getfield 15, 3) := by decide +kernel
theorem dX8_move_16 : decode cX8_move 16 = .ok (.iload_n 2, 1) := by decide +kernel
theorem dX8_move_17 : decode cX8_move 17 = .ok (.aload_n 0, 1) := by decide +kernel
theorem dX8_move_18 : decode cX8_move 18 = .ok (.getfield 15, 3) := by decide +kernel
theorem dX8_move_21 : decode cX8_move 21 = .ok (.iload_n 1, 1) := by decide +kernel
theorem dX8_move_22 : decode cX8_move 22 = .ok (.iaload, 1) := by decide +kernel
theorem dX8_move_23 : decode cX8_move 23 = .ok (.iastore, 1) := by decide +kernel
theorem dX8_move_24 : decode cX8_move 24 = .ok (.aload_n 0, 1) := by decide +kernel
theorem dX8_move_25 : decode cX8_move 25 = .ok (.getfield 18, 3) := by decide +kernel
theorem dX8_move_28 : decode cX8_move 28 = .ok (.iload_n 2, 1) := by decide +kernel
theorem dX8_move_29 : decode cX8_move 29 = .ok (.aload_n 0, 1) := by decide +kernel
theorem dX8_move_30 : decode cX8_move 30 = .ok (.getfield 18, 3) := by decide +kernel
theorem dX8_move_33 : decode cX8_move 33 = .ok (.iload_n 1, 1) := by decide +kernel
theorem dX8_move_34 : decode cX8_move 34 = .ok (.iaload, 1) := by decide +kernel
theorem dX8_move_35 : decode cX8_move 35 = .ok (.iastore, 1) := by decide +kernel
theorem dX8_move_36 : decode cX8_move 36 = .ok (.return_, 1) := by decide +kernel
theorem dX8_rainIn_0 : decode cX8_rainIn 0 = .ok (.iconst 0, 1) := by decide +kernel
theorem dX8_rainIn_1 : decode cX8_rainIn 1 = .ok (.istore_n 2, 1) := by decide +kernel
theorem dX8_rainIn_2 : decode cX8_rainIn 2 = .ok (.iconst 0, 1) := by decide +kernel
theorem dX8_rainIn_3 : decode cX8_rainIn 3 = .ok (.istore_n 3, 1) := by decide +kernel
theorem dX8_rainIn_4 : decode cX8_rainIn 4 = .ok (.iload_n 3, 1) := by decide +kernel
theorem dX8_rainIn_5 : decode cX8_rainIn 5 = .ok (.aload_n 0, 1) := by decide +kernel
theorem dX8_rainIn_6 : decode cX8_rainIn 6 = .ok (.getfield 25, 3) := by decide +kernel
theorem dX8_rainIn_9 : decode cX8_rainIn 9 = .ok (.if_icmp .ge 45, 3) := by decide +kernel
theorem dX8_rainIn_12 : decode cX8_rainIn 12 = .ok (.aload_n 0, 1) := by decide +kernel
theorem dX8_rainIn_13 : decode cX8_rainIn 13 = .ok (.getfield 9, 3) := by decide +kernel
theorem dX8_rainIn_16 : decode cX8_rainIn 16 = .ok (.iload_n 3, 1) := by decide +kernel
theorem dX8_rainIn_17 : decode cX8_rainIn 17 = .ok (.iaload, 1) := by decide +kernel
theorem dX8_rainIn_18 : decode cX8_rainIn 18 = .ok (.iload_n 1, 1) := by decide +kernel
theorem dX8_rainIn_19 : decode cX8_rainIn 19 = .ok (.if_icmp .gt 29, 3) := by decide +kernel
theorem dX8_rainIn_22 : decode cX8_rainIn 22 = .ok (.iload_n 1, 1) := by decide +kernel
theorem dX8_rainIn_23 : decode cX8_rainIn 23 = .ok (.aload_n 0, 1) := by decide +kernel
theorem dX8_rainIn_24 : decode cX8_rainIn 24 = .ok (.getfield 9, 3) := by decide +kernel
theorem dX8_rainIn_27 : decode cX8_rainIn 27 = .ok (.iload_n 3, 1) := by decide +kernel
theorem dX8_rainIn_28 : decode cX8_rainIn 28 = .ok (.iaload, 1) := by decide +kernel
theorem dX8_rainIn_29 : decode cX8_rainIn 29 = .ok (.aload_n 0, 1) := by decide +kernel
theorem dX8_rainIn_30 : decode cX8_rainIn 30 = .ok (.getfield 15, 3) := by decide +kernel
theorem dX8_rainIn_33 : decode cX8_rainIn 33 = .ok (.iload_n 3, 1) := by decide +kernel
theorem dX8_rainIn_34 : decode cX8_rainIn 34 = .ok (.iaload, 1) := by decide +kernel
theorem dX8_rainIn_35 : decode cX8_rainIn 35 = .ok (.iadd, 1) := by decide +kernel
theorem dX8_rainIn_36 : decode cX8_rainIn 36 = .ok (.if_icmp .ge 12, 3) := by decide +kernel
theorem dX8_rainIn_39 : decode cX8_rainIn 39 = .ok (.iload_n 2, 1) := by decide +kernel
theorem dX8_rainIn_40 : decode cX8_rainIn 40 = .ok (.aload_n 0, 1) := by decide +kernel
theorem dX8_rainIn_41 : decode cX8_rainIn 41 = .ok (.getfield 18, 3) := by decide +kernel
theorem dX8_rainIn_44 : decode cX8_rainIn 44 = .ok (.iload_n 3, 1) := by decide +kernel
theorem dX8_rainIn_45 : decode cX8_rainIn 45 = .ok (.iaload, 1) := by decide +kernel
theorem dX8_rainIn_46 : decode cX8_rainIn 46 = .ok (.iadd, 1) := by decide +kernel
theorem dX8_rainIn_47 : decode cX8_rainIn 47 = .ok (.istore_n 2, 1) := by decide +kernel
theorem dX8_rainIn_48 : decode cX8_rainIn 48 = .ok (.iinc 3 1, 3) := by decide +kernel
theorem dX8_rainIn_51 : decode cX8_rainIn 51 = .ok (.goto (-47), 3) := by decide +kernel
theorem dX8_rainIn_54 : decode cX8_rainIn 54 = .ok (.iload_n 2, 1) := by decide +kernel
theorem dX8_rainIn_55 : decode cX8_rainIn 55 = .ok (.ireturn, 1) := by decide +kernel
theorem dX8_ticksToCome_0 : decode cX8_ticksToCome 0 = .ok (.aload_n 0, 1) := by decide +kernel
theorem dX8_ticksToCome_1 : decode cX8_ticksToCome 1 = .ok (.iload_n 1, 1) := by decide +kernel
theorem dX8_ticksToCome_2 : decode cX8_ticksToCome 2 = .ok (.invokevirtual 33, 3) := by decide +kernel
theorem dX8_ticksToCome_5 : decode cX8_ticksToCome 5 = .ok (.ifCond .ne 5, 3) := by decide +kernel
theorem dX8_ticksToCome_8 : decode cX8_ticksToCome 8 = .ok (.iconst 0, 1) := by decide +kernel
theorem dX8_ticksToCome_9 : decode cX8_ticksToCome 9 = .ok (.ireturn, 1) := by decide +kernel
theorem dX8_ticksToCome_10 : decode cX8_ticksToCome 10 = .ok (.aload_n 0, 1) := by decide +kernel
theorem dX8_ticksToCome_11 : decode cX8_ticksToCome 11 = .ok (.getfield 9, 3) := by decide +kernel
theorem dX8_ticksToCome_14 : decode cX8_ticksToCome 14 = .ok (.iload_n 1, 1) := by decide +kernel
theorem dX8_ticksToCome_15 : decode cX8_ticksToCome 15 = .ok (.iaload, 1) := by decide +kernel
theorem dX8_ticksToCome_16 : decode cX8_ticksToCome 16 = .ok (.aload_n 0, 1) := by decide +kernel
theorem dX8_ticksToCome_17 : decode cX8_ticksToCome 17 = .ok (.getfield 15, 3) := by decide +kernel
theorem dX8_ticksToCome_20 : decode cX8_ticksToCome 20 = .ok (.iload_n 1, 1) := by decide +kernel
theorem dX8_ticksToCome_21 : decode cX8_ticksToCome 21 = .ok (.iaload, 1) := by decide +kernel
theorem dX8_ticksToCome_22 : decode cX8_ticksToCome 22 = .ok (.iadd, 1) := by decide +kernel
theorem dX8_ticksToCome_23 : decode cX8_ticksToCome 23 = .ok (.aload_n 0, 1) := by decide +kernel
theorem dX8_ticksToCome_24 : decode cX8_ticksToCome 24 = .ok (.getfield 9, 3) := by decide +kernel
theorem dX8_ticksToCome_27 : decode cX8_ticksToCome 27 = .ok (.iload_n 1, 1) := by decide +kernel
theorem dX8_ticksToCome_28 : decode cX8_ticksToCome 28 = .ok (.iaload, 1) := by decide +kernel
theorem dX8_ticksToCome_29 : decode cX8_ticksToCome 29 = .ok (.iload_n 2, 1) := by decide +kernel
theorem dX8_ticksToCome_30 : decode cX8_ticksToCome 30 = .ok (.invokestatic 37, 3) := by decide +kernel
theorem dX8_ticksToCome_33 : decode cX8_ticksToCome 33 = .ok (.isub, 1) := by decide +kernel
theorem dX8_ticksToCome_34 : decode cX8_ticksToCome 34 = .ok (.ireturn, 1) := by decide +kernel
theorem dX9_init_0 : decode cX9_init 0 = .ok (.aload_n 0, 1) := by decide +kernel
theorem dX9_init_1 : decode cX9_init 1 = .ok (.invokespecial 3, 3) := by decide +kernel
theorem dX9_init_4 : decode cX9_init 4 = .ok (.aload_n 0, 1) := by decide +kernel
theorem dX9_init_5 : decode cX9_init 5 = .ok (.bipush 8, 2) := by decide +kernel
theorem dX9_init_7 : decode cX9_init 7 = .ok (.newarray .int, 2) := by decide +kernel
theorem dX9_init_9 : decode cX9_init 9 = .ok (.putfield 9, 3) := by decide +kernel
theorem dX9_init_12 : decode cX9_init 12 = .ok (.aload_n 0, 1) := by decide +kernel
theorem dX9_init_13 : decode cX9_init 13 = .ok (.new 15, 3) := by decide +kernel
theorem dX9_init_16 : decode cX9_init 16 = .ok (.dup, 1) := by decide +kernel
theorem dX9_init_17 : decode cX9_init 17 = .ok (.invokespecial 17, 3) := by decide +kernel
theorem dX9_init_20 : decode cX9_init 20 = .ok (.putfield 18, 3) := by decide +kernel
theorem dX9_init_23 : decode cX9_init 23 = .ok (.aload_n 0, 1) := by decide +kernel
theorem dX9_init_24 : decode cX9_init 24 = .ok (.new 22, 3) := by decide +kernel
theorem dX9_init_27 : decode cX9_init 27 = .ok (.dup, 1) := by decide +kernel
theorem dX9_init_28 : decode cX9_init 28 = .ok (.invokespecial 24, 3) := by decide +kernel
theorem dX9_init_31 : decode cX9_init 31 = .ok (.putfield 25, 3) := by decide +kernel
theorem dX9_init_34 : decode cX9_init 34 = .ok (.aload_n 0, 1) := by decide +kernel
theorem dX9_init_35 : decode cX9_init 35 = .ok (.new 29, 3) := by decide +kernel
theorem dX9_init_38 : decode cX9_init 38 = .ok (.dup, 1) := by decide +kernel
theorem dX9_init_39 : decode cX9_init 39 = .ok (.invokespecial 31, 3) := by decide +kernel
theorem dX9_init_42 : decode cX9_init 42 = .ok (.putfield 32, 3) := by decide +kernel
theorem dX9_init_45 : decode cX9_init 45 = .ok (.aload_n 0, 1) := by decide +kernel
theorem dX9_init_46 : decode cX9_init 46 = .ok (.new 36, 3) := by decide +kernel
theorem dX9_init_49 : decode cX9_init 49 = .ok (.dup, 1) := by decide +kernel
theorem dX9_init_50 : decode cX9_init 50 = .ok (.invokespecial 38, 3) := by decide +kernel
theorem dX9_init_53 : decode cX9_init 53 = .ok (.putfield 39, 3) := by decide +kernel
theorem dX9_init_56 : decode cX9_init 56 = .ok (.aload_n 0, 1) := by decide +kernel
theorem dX9_init_57 : decode cX9_init 57 = .ok (.new 43, 3) := by decide +kernel
theorem dX9_init_60 : decode cX9_init 60 = .ok (.dup, 1) := by decide +kernel
theorem dX9_init_61 : decode cX9_init 61 = .ok (.invokespecial 45, 3) := by decide +kernel
theorem dX9_init_64 : decode cX9_init 64 = .ok (.putfield 46, 3) := by decide +kernel
theorem dX9_init_67 : decode cX9_init 67 = .ok (.aload_n 0, 1) := by decide +kernel
theorem dX9_init_68 : decode cX9_init 68 = .ok (.new 50, 3) := by decide +kernel
theorem dX9_init_71 : decode cX9_init 71 = .ok (.dup, 1) := by decide +kernel
theorem dX9_init_72 : decode cX9_init 72 = .ok (.invokespecial 52, 3) := by decide +kernel
theorem dX9_init_75 : decode cX9_init 75 = .ok (.putfield 53, 3) := by decide +kernel
theorem dX9_init_78 : decode cX9_init 78 = .ok (.getstatic 57, 3) := by decide +kernel
theorem dX9_init_81 : decode cX9_init 81 = .ok (.aload_n 0, 1) := by decide +kernel
theorem dX9_init_82 : decode cX9_init 82 = .ok (.getfield 9, 3) := by decide +kernel
theorem dX9_init_85 : decode cX9_init 85 = .ok (.invokestatic 60, 3) := by decide +kernel
theorem dX9_init_88 : decode cX9_init 88 = .ok (.return_, 1) := by decide +kernel
theorem dX9_copyFrom_0 : decode cX9_copyFrom 0 = .ok (.aload_n 1, 1) := by decide +kernel
theorem dX9_copyFrom_1 : decode cX9_copyFrom 1 = .ok (.getfield 9, 3) := by decide +kernel
theorem dX9_copyFrom_4 : decode cX9_copyFrom 4 = .ok (.aload_n 0, 1) := by decide +kernel
theorem dX9_copyFrom_5 : decode cX9_copyFrom 5 = .ok (.getfield 9, 3) := by decide +kernel
theorem dX9_copyFrom_8 : decode cX9_copyFrom 8 = .ok (.invokestatic 60, 3) := by decide +kernel
theorem dX9_copyFrom_11 : decode cX9_copyFrom 11 = .ok (.aload_n 0, 1) := by decide +kernel
theorem dX9_copyFrom_12 : decode cX9_copyFrom 12 = .ok (.getfield 18, 3) := by decide +kernel
theorem dX9_copyFrom_15 : decode cX9_copyFrom 15 = .ok (.aload_n 1, 1) := by decide +kernel
theorem dX9_copyFrom_16 : decode cX9_copyFrom 16 = .ok (.getfield 18, 3) := by decide +kernel
theorem dX9_copyFrom_19 : decode cX9_copyFrom 19 = .ok (.invokevirtual 64, 3) := by decide +kernel
theorem dX9_copyFrom_22 : decode cX9_copyFrom 22 = .ok (.aload_n 0, 1) := by decide +kernel
theorem dX9_copyFrom_23 : decode cX9_copyFrom 23 = .ok (.getfield 25, 3) := by decide +kernel
theorem dX9_copyFrom_26 : decode cX9_copyFrom 26 = .ok (.aload_n 1, 1) := by decide +kernel
theorem dX9_copyFrom_27 : decode cX9_copyFrom 27 = .ok (.getfield 25, 3) := by decide +kernel
theorem dX9_copyFrom_30 : decode cX9_copyFrom 30 = .ok (.invokevirtual 68, 3) := by decide +kernel
theorem dX9_copyFrom_33 : decode cX9_copyFrom 33 = .ok (.aload_n 0, 1) := by decide +kernel
theorem dX9_copyFrom_34 : decode cX9_copyFrom 34 = .ok (.getfield 32, 3) := by decide +kernel
theorem dX9_copyFrom_37 : decode cX9_copyFrom 37 = .ok (.aload_n 1, 1) := by decide +kernel
theorem dX9_copyFrom_38 : decode cX9_copyFrom 38 = .ok (.getfield 32, 3) := by decide +kernel
theorem dX9_copyFrom_41 : decode cX9_copyFrom 41 = .ok (.invokevirtual 71, 3) := by decide +kernel
theorem dX9_copyFrom_44 : decode cX9_copyFrom 44 = .ok (.aload_n 0, 1) := by decide +kernel
theorem dX9_copyFrom_45 : decode cX9_copyFrom 45 = .ok (.getfield 39, 3) := by decide +kernel
theorem dX9_copyFrom_48 : decode cX9_copyFrom 48 = .ok (.aload_n 1, 1) := by decide +kernel
theorem dX9_copyFrom_49 : decode cX9_copyFrom 49 = .ok (.getfield 39, 3) := by decide +kernel
theorem dX9_copyFrom_52 : decode cX9_copyFrom 52 = .ok (.invokevirtual 74, 3) := by decide +kernel
theorem dX9_copyFrom_55 : decode cX9_copyFrom 55 = .ok (.aload_n 0, 1) := by decide +kernel
theorem dX9_copyFrom_56 : decode cX9_copyFrom 56 = .ok (.getfield 46, 3) := by decide +kernel
theorem dX9_copyFrom_59 : decode cX9_copyFrom 59 = .ok (.aload_n 1, 1) := by decide +kernel
theorem dX9_copyFrom_60 : decode cX9_copyFrom 60 = .ok (.getfield 46, 3) := by decide +kernel
theorem dX9_copyFrom_63 : decode cX9_copyFrom 63 = .ok (.invokevirtual 77, 3) := by decide +kernel
theorem dX9_copyFrom_66 : decode cX9_copyFrom 66 = .ok (.aload_n 0, 1) := by decide +kernel
theorem dX9_copyFrom_67 : decode cX9_copyFrom 67 = .ok (.getfield 53, 3) := by decide +kernel
theorem dX9_copyFrom_70 : decode cX9_copyFrom 70 = .ok (.aload_n 1, 1) := by decide +kernel
theorem dX9_copyFrom_71 : decode cX9_copyFrom 71 = .ok (.getfield 53, 3) := by decide +kernel
theorem dX9_copyFrom_74 : decode cX9_copyFrom 74 = .ok (.invokevirtual 80, 3) := by decide +kernel
theorem dX9_copyFrom_77 : decode cX9_copyFrom 77 = .ok (.aload_n 0, 1) := by decide +kernel
theorem dX9_copyFrom_78 : decode cX9_copyFrom 78 = .ok (.aload_n 1, 1) := by decide +kernel
theorem dX9_copyFrom_79 : decode cX9_copyFrom 79 = .ok (.getfield 83, 3) := by decide +kernel
theorem dX9_copyFrom_82 : decode cX9_copyFrom 82 = .ok (.putfield 83, 3) := by decide +kernel
theorem dX9_copyFrom_85 : decode cX9_copyFrom 85 = .ok (.aload_n 0, 1) := by decide +kernel
theorem dX9_copyFrom_86 : decode cX9_copyFrom 86 = .ok (.aload_n 1, 1) := by decide +kernel
theorem dX9_copyFrom_87 : decode cX9_copyFrom 87 = .ok (.getfield 87, 3) := by decide +kernel
theorem dX9_copyFrom_90 : decode cX9_copyFrom 90 = .ok (.putfield 87, 3) := by decide +kernel
theorem dX9_copyFrom_93 : decode cX9_copyFrom 93 = .ok (.return_, 1) := by decide +kernel
theorem dX9_passTicks_0 : decode cX9_passTicks 0 = .ok (.iconst 0, 1) := by decide +kernel
theorem dX9_passTicks_1 : decode cX9_passTicks 1 = .ok (.istore_n 2, 1) := by decide +kernel
theorem dX9_passTicks_2 : decode cX9_passTicks 2 = .ok (.iconst 0, 1) := by decide +kernel
theorem dX9_passTicks_3 : decode cX9_passTicks 3 = .ok (.istore_n 3, 1) := by decide +kernel
theorem dX9_passTicks_4 : decode cX9_passTicks 4 = .ok (.iload_n 3, 1) := by decide +kernel
theorem dX9_passTicks_5 : decode cX9_passTicks 5 = .ok (.iload_n 1, 1) := by decide +kernel
theorem dX9_passTicks_6 : decode cX9_passTicks 6 = .ok (.if_icmp .ge 19, 3) := by decide +kernel
theorem dX9_passTicks_9 : decode cX9_passTicks 9 = .ok (.aload_n 0, 1) := by decide +kernel
theorem dX9_passTicks_10 : decode cX9_passTicks 10 = .ok (.invokevirtual 90, 3) := by decide +kernel
theorem dX9_passTicks_13 : decode cX9_passTicks 13 = .ok (.ifCond .eq 6, 3) := by decide +kernel
theorem dX9_passTicks_16 : decode cX9_passTicks 16 = .ok (.iinc 2 1, 3) := by decide +kernel
theorem dX9_passTicks_19 : decode cX9_passTicks 19 = .ok (.iinc 3 1, 3) := by decide +kernel
theorem dX9_passTicks_22 : decode cX9_passTicks 22 = .ok (.goto (-18), 3) := by decide +kernel
theorem dX9_passTicks_25 : decode cX9_passTicks 25 = .ok (.iload_n 2, 1) := by decide +kernel
theorem dX9_passTicks_26 : decode cX9_passTicks 26 = .ok (.ireturn, 1) := by decide +kernel
theorem dX9_passTick_0 : decode cX9_passTick 0 = .ok (.aload_n 0, 1) := by decide +kernel
theorem dX9_passTick_1 : decode cX9_passTick 1 = .ok (.getfield 18, 3) := by decide +kernel
theorem dX9_passTick_4 : decode cX9_passTick 4 = .ok (.aload_n 0, 1) := by decide +kernel
theorem dX9_passTick_5 : decode cX9_passTick 5 = .ok (.getfield 83, 3) := by decide +kernel
theorem dX9_passTick_8 : decode cX9_passTick 8 = .ok (.invokevirtual 94, 3) := by decide +kernel
theorem dX9_passTick_11 : decode cX9_passTick 11 = .ok (.istore_n 1, 1) := by decide +kernel
theorem dX9_passTick_12 : decode cX9_passTick 12 = .ok (.aload_n 0, 1) := by decide +kernel
theorem dX9_passTick_13 : decode cX9_passTick 13 = .ok (.dup, 1) := by decide +kernel
theorem dX9_passTick_14 : decode cX9_passTick 14 = .ok (.getfield 87, 3) := by decide +kernel
theorem dX9_passTick_17 : decode cX9_passTick 17 = .ok (.iload_n 1, 1) := by decide +kernel
theorem dX9_passTick_18 : decode cX9_passTick 18 = .ok (.iadd, 1) := by decide +kernel
theorem dX9_passTick_19 : decode cX9_passTick 19 = .ok (.putfield 87, 3) := by decide +kernel
theorem dX9_passTick_22 : decode cX9_passTick 22 = .ok (.aload_n 0, 1) := by decide +kernel
theorem dX9_passTick_23 : decode cX9_passTick 23 = .ok (.getfield 25, 3) := by decide +kernel
theorem dX9_passTick_26 : decode cX9_passTick 26 = .ok (.iload_n 1, 1) := by decide +kernel
theorem dX9_passTick_27 : decode cX9_passTick 27 = .ok (.aload_n 0, 1) := by decide +kernel
theorem dX9_passTick_28 : decode cX9_passTick 28 = .ok (.getfield 9, 3) := by decide +kernel
theorem dX9_passTick_31 : decode cX9_passTick 31 = .ok (.iconst 2, 1) := by decide +kernel
theorem dX9_passTick_32 : decode cX9_passTick 32 = .ok (.iaload, 1) := by decide +kernel
theorem dX9_passTick_33 : decode cX9_passTick 33 = .ok (.aload_n 0, 1) := by decide +kernel
theorem dX9_passTick_34 : decode cX9_passTick 34 = .ok (.getfield 9, 3) := by decide +kernel
theorem dX9_passTick_37 : decode cX9_passTick 37 = .ok (.iconst 3, 1) := by decide +kernel
theorem dX9_passTick_38 : decode cX9_passTick 38 = .ok (.iaload, 1) := by decide +kernel
theorem dX9_passTick_39 : decode cX9_passTick 39 = .ok (.invokevirtual 98, 3) := by decide +kernel
theorem dX9_passTick_42 : decode cX9_passTick 42 = .ok (.istore_n 2, 1) := by decide +kernel
theorem dX9_passTick_43 : decode cX9_passTick 43 = .ok (.aload_n 0, 1) := by decide +kernel
theorem dX9_passTick_44 : decode cX9_passTick 44 = .ok (.getfield 32, 3) := by decide +kernel
theorem dX9_passTick_47 : decode cX9_passTick 47 = .ok (.iload_n 2, 1) := by decide +kernel
theorem dX9_passTick_48 : decode cX9_passTick 48 = .ok (.iload_n 1, 1) := by decide +kernel
theorem dX9_passTick_49 : decode cX9_passTick 49 = .ok (.ifCond .ne 7, 3) := by decide +kernel
theorem dX9_passTick_52 : decode cX9_passTick 52 = .ok (.iconst 1, 1) := by decide +kernel
theorem dX9_passTick_53 : decode cX9_passTick 53 = .ok (.goto 4, 3) := by decide +kernel
theorem dX9_passTick_56 : decode cX9_passTick 56 = .ok (.iconst 0, 1) := by decide +kernel
theorem dX9_passTick_57 : decode cX9_passTick 57 = .ok (.aload_n 0, 1) := by decide +kernel
theorem dX9_passTick_58 : decode cX9_passTick 58 = .ok (.getfield 9, 3) := by decide +kernel
theorem dX9_passTick_61 : decode cX9_passTick 61 = .ok (.iconst 0, 1) := by decide +kernel
theorem dX9_passTick_62 : decode cX9_passTick 62 = .ok (.iaload, 1) := by decide +kernel
theorem dX9_passTick_63 : decode cX9_passTick 63 = .ok (.aload_n 0, 1) := by decide +kernel
theorem dX9_passTick_64 : decode cX9_passTick 64 = .ok (.getfield 9, 3) := by decide +kernel
theorem dX9_passTick_67 : decode cX9_passTick 67 = .ok (.iconst 1, 1) := by decide +kernel
theorem dX9_passTick_68 : decode cX9_passTick 68 = .ok (.iaload, 1) := by decide +kernel
theorem dX9_passTick_69 : decode cX9_passTick 69 = .ok (.aload_n 0, 1) := by decide +kernel
theorem dX9_passTick_70 : decode cX9_passTick 70 = .ok (.getfield 9, 3) := by decide +kernel
theorem dX9_passTick_73 : decode cX9_passTick 73 = .ok (.iconst 4, 1) := by decide +kernel
theorem dX9_passTick_74 : decode cX9_passTick 74 = .ok (.iaload, 1) := by decide +kernel
theorem dX9_passTick_75 : decode cX9_passTick 75 = .ok (.invokevirtual 101, 3) := by decide +kernel
theorem dX9_passTick_78 : decode cX9_passTick 78 = .ok (.istore_n 3, 1) := by decide +kernel
theorem dX9_passTick_79 : decode cX9_passTick 79 = .ok (.iload_n 3, 1) := by decide +kernel
theorem dX9_passTick_80 : decode cX9_passTick 80 = .ok (.iconst (-1), 1) := by decide +kernel
theorem dX9_passTick_81 : decode cX9_passTick 81 = .ok (.if_icmp .eq 19, 3) := by decide +kernel
theorem dX9_passTick_84 : decode cX9_passTick 84 = .ok (.aload_n 0, 1) := by decide +kernel
theorem dX9_passTick_85 : decode cX9_passTick 85 = .ok (.getfield 53, 3) := by decide +kernel
theorem dX9_passTick_88 : decode cX9_passTick 88 = .ok (.aload_n 0, 1) := by decide +kernel
theorem dX9_passTick_89 : decode cX9_passTick 89 = .ok (.getfield 83, 3) := by decide +kernel
theorem dX9_passTick_92 : decode cX9_passTick 92 = .ok (.aload_n 0, 1) := by decide +kernel
theorem dX9_passTick_93 : decode cX9_passTick 93 = .ok (.invokevirtual 104, 3) := by decide +kernel
theorem dX9_passTick_96 : decode cX9_passTick 96 = .ok (.iload_n 3, 1) := by decide +kernel
theorem dX9_passTick_97 : decode cX9_passTick 97 = .ok (.invokevirtual 108, 3) := by decide +kernel
theorem dX9_passTick_100 : decode cX9_passTick 100 = .ok (.aload_n 0, 1) := by decide +kernel
theorem dX9_passTick_101 : decode cX9_passTick 101 = .ok (.getfield 39, 3) := by decide +kernel
theorem dX9_passTick_104 : decode cX9_passTick 104 = .ok (.invokevirtual 112, 3) := by decide +kernel
theorem dX9_passTick_107 : decode cX9_passTick 107 = .ok (.aload_n 0, 1) := by decide +kernel
theorem dX9_passTick_108 : decode cX9_passTick 108 = .ok (.dup, 1) := by decide +kernel
theorem dX9_passTick_109 : decode cX9_passTick 109 = .ok (.getfield 83, 3) := by decide +kernel
theorem dX9_passTick_112 : decode cX9_passTick 112 = .ok (.iconst 1, 1) := by decide +kernel
theorem dX9_passTick_113 : decode cX9_passTick 113 = .ok (.iadd, 1) := by decide +kernel
theorem dX9_passTick_114 : decode cX9_passTick 114 = .ok (.putfield 83, 3) := by decide +kernel
theorem dX9_passTick_117 : decode cX9_passTick 117 = .ok (.aload_n 0, 1) := by decide +kernel
theorem dX9_passTick_118 : decode cX9_passTick 118 = .ok (.getfield 18, 3) := by decide +kernel
theorem dX9_passTick_121 : decode cX9_passTick 121 = .ok (.aload_n 0, 1) := by decide +kernel
theorem dX9_passTick_122 : decode cX9_passTick 122 = .ok (.getfield 83, 3) := by decide +kernel
theorem dX9_passTick_125 : decode cX9_passTick 125 = .ok (.invokevirtual 114, 3) := by decide +kernel
theorem dX9_passTick_128 : decode cX9_passTick 128 = .ok (.iload_n 3, 1) := by decide +kernel
theorem dX9_passTick_129 : decode cX9_passTick 129 = .ok (.iconst (-1), 1) := by decide +kernel
theorem dX9_passTick_130 : decode cX9_passTick 130 = .ok (.if_icmp .eq 7, 3) := by decide +kernel
theorem dX9_passTick_133 : decode cX9_passTick 133 = .ok (.iconst 1, 1) := by decide +kernel
theorem dX9_passTick_134 : decode cX9_passTick 134 = .ok (.goto 4, 3) := by decide +kernel
theorem dX9_passTick_137 : decode cX9_passTick 137 = .ok (.iconst 0, 1) := by decide +kernel
theorem dX9_passTick_138 : decode cX9_passTick 138 = .ok (.ireturn, 1) := by decide +kernel
theorem dX9_drumPlace_0 : decode cX9_drumPlace 0 = .ok (.aload_n 0, 1) := by decide +kernel
theorem dX9_drumPlace_1 : decode cX9_drumPlace 1 = .ok (.getfield 46, 3) := by decide +kernel
theorem dX9_drumPlace_4 : decode cX9_drumPlace 4 = .ok (.aload_n 0, 1) := by decide +kernel
theorem dX9_drumPlace_5 : decode cX9_drumPlace 5 = .ok (.getfield 39, 3) := by decide +kernel
theorem dX9_drumPlace_8 : decode cX9_drumPlace 8 = .ok (.getfield 118, 3) := by decide +kernel
theorem dX9_drumPlace_11 : decode cX9_drumPlace 11 = .ok (.aload_n 0, 1) := by decide +kernel
theorem dX9_drumPlace_12 : decode cX9_drumPlace 12 = .ok (.getfield 9, 3) := by decide +kernel
theorem dX9_drumPlace_15 : decode cX9_drumPlace 15 = .ok (.iconst 5, 1) := by decide +kernel
theorem dX9_drumPlace_16 : decode cX9_drumPlace 16 = .ok (.iaload, 1) := by decide +kernel
theorem dX9_drumPlace_17 : decode cX9_drumPlace 17 = .ok (.invokevirtual 121, 3) := by decide +kernel
theorem dX9_drumPlace_20 : decode cX9_drumPlace 20 = .ok (.ireturn, 1) := by decide +kernel
theorem dX9_accountOf_0 : decode cX9_accountOf 0 = .ok (.iload_n 1, 1) := by decide +kernel
theorem dX9_accountOf_1 : decode cX9_accountOf 1 = .ok (.tableswitch 60 0 3 #[31, 36, 44, 52], 31) := by decide +kernel
theorem dX9_accountOf_32 : decode cX9_accountOf 32 = .ok (.aload_n 0, 1) := by decide +kernel
theorem dX9_accountOf_33 : decode cX9_accountOf 33 = .ok (.getfield 87, 3) := by decide +kernel
theorem dX9_accountOf_36 : decode cX9_accountOf 36 = .ok (.ireturn, 1) := by decide +kernel
theorem dX9_accountOf_37 : decode cX9_accountOf 37 = .ok (.aload_n 0, 1) := by decide +kernel
theorem dX9_accountOf_38 : decode cX9_accountOf 38 = .ok (.getfield 32, 3) := by decide +kernel
theorem dX9_accountOf_41 : decode cX9_accountOf 41 = .ok (.getfield 125, 3) := by decide +kernel
theorem dX9_accountOf_44 : decode cX9_accountOf 44 = .ok (.ireturn, 1) := by decide +kernel
theorem dX9_accountOf_45 : decode cX9_accountOf 45 = .ok (.aload_n 0, 1) := by decide +kernel
theorem dX9_accountOf_46 : decode cX9_accountOf 46 = .ok (.getfield 32, 3) := by decide +kernel
theorem dX9_accountOf_49 : decode cX9_accountOf 49 = .ok (.getfield 128, 3) := by decide +kernel
theorem dX9_accountOf_52 : decode cX9_accountOf 52 = .ok (.ireturn, 1) := by decide +kernel
theorem dX9_accountOf_53 : decode cX9_accountOf 53 = .ok (.aload_n 0, 1) := by decide +kernel
theorem dX9_accountOf_54 : decode cX9_accountOf 54 = .ok (.getfield 32, 3) := by decide +kernel
theorem dX9_accountOf_57 : decode cX9_accountOf 57 = .ok (.getfield 131, 3) := by decide +kernel
theorem dX9_accountOf_60 : decode cX9_accountOf 60 = .ok (.ireturn, 1) := by decide +kernel
theorem dX9_accountOf_61 : decode cX9_accountOf 61 = .ok (.aload_n 0, 1) := by decide +kernel
theorem dX9_accountOf_62 : decode cX9_accountOf 62 = .ok (.getfield 25, 3) := by decide +kernel
theorem dX9_accountOf_65 : decode cX9_accountOf 65 = .ok (.getfield 134, 3) := by decide +kernel
theorem dX9_accountOf_68 : decode cX9_accountOf 68 = .ok (.aload_n 0, 1) := by decide +kernel
theorem dX9_accountOf_69 : decode cX9_accountOf 69 = .ok (.getfield 32, 3) := by decide +kernel
theorem dX9_accountOf_72 : decode cX9_accountOf 72 = .ok (.getfield 137, 3) := by decide +kernel
theorem dX9_accountOf_75 : decode cX9_accountOf 75 = .ok (.iadd, 1) := by decide +kernel
theorem dX9_accountOf_76 : decode cX9_accountOf 76 = .ok (.ireturn, 1) := by decide +kernel
theorem dX10_init_0 : decode cX10_init 0 = .ok (.aload_n 0, 1) := by decide +kernel
theorem dX10_init_1 : decode cX10_init 1 = .ok (.invokespecial 3, 3) := by decide +kernel
theorem dX10_init_4 : decode cX10_init 4 = .ok (.aload_n 0, 1) := by decide +kernel
theorem dX10_init_5 : decode cX10_init 5 = .ok (.bipush 100, 2) := by decide +kernel
theorem dX10_init_7 : decode cX10_init 7 = .ok (.newarray .char, 2) := by decide +kernel
theorem dX10_init_9 : decode cX10_init 9 = .ok (.putfield 9, 3) := by decide +kernel
theorem dX10_init_12 : decode cX10_init 12 = .ok (.return_, 1) := by decide +kernel
theorem dX11_init_0 : decode cX11_init 0 = .ok (.aload_n 0, 1) := by decide +kernel
theorem dX11_init_1 : decode cX11_init 1 = .ok (.invokespecial 1, 3) := by decide +kernel
theorem dX11_init_4 : decode cX11_init 4 = .ok (.aload_n 0, 1) := by decide +kernel
theorem dX11_init_5 : decode cX11_init 5 = .ok (.new 7, 3) := by decide +kernel
theorem dX11_init_8 : decode cX11_init 8 = .ok (.dup, 1) := by decide +kernel
theorem dX11_init_9 : decode cX11_init 9 = .ok (.invokespecial 9, 3) := by decide +kernel
theorem dX11_init_12 : decode cX11_init 12 = .ok (.putfield 10, 3) := by decide +kernel
theorem dX11_init_15 : decode cX11_init 15 = .ok (.aload_n 0, 1) := by decide +kernel
theorem dX11_init_16 : decode cX11_init 16 = .ok (.new 7, 3) := by decide +kernel
theorem dX11_init_19 : decode cX11_init 19 = .ok (.dup, 1) := by decide +kernel
theorem dX11_init_20 : decode cX11_init 20 = .ok (.invokespecial 9, 3) := by decide +kernel
theorem dX11_init_23 : decode cX11_init 23 = .ok (.putfield 16, 3) := by decide +kernel
theorem dX11_init_26 : decode cX11_init 26 = .ok (.aload_n 0, 1) := by decide +kernel
theorem dX11_init_27 : decode cX11_init 27 = .ok (.new 19, 3) := by decide +kernel
theorem dX11_init_30 : decode cX11_init 30 = .ok (.dup, 1) := by decide +kernel
theorem dX11_init_31 : decode cX11_init 31 = .ok (.invokespecial 21, 3) := by decide +kernel
theorem dX11_init_34 : decode cX11_init 34 = .ok (.putfield 22, 3) := by decide +kernel
theorem dX11_init_37 : decode cX11_init 37 = .ok (.aload_n 0, 1) := by decide +kernel
theorem dX11_init_38 : decode cX11_init 38 = .ok (.new 26, 3) := by decide +kernel
theorem dX11_init_41 : decode cX11_init 41 = .ok (.dup, 1) := by decide +kernel
theorem dX11_init_42 : decode cX11_init 42 = .ok (.invokespecial 28, 3) := by decide +kernel
theorem dX11_init_45 : decode cX11_init 45 = .ok (.putfield 29, 3) := by decide +kernel
theorem dX11_init_48 : decode cX11_init 48 = .ok (.aload_n 0, 1) := by decide +kernel
theorem dX11_init_49 : decode cX11_init 49 = .ok (.new 33, 3) := by decide +kernel
theorem dX11_init_52 : decode cX11_init 52 = .ok (.dup, 1) := by decide +kernel
theorem dX11_init_53 : decode cX11_init 53 = .ok (.invokespecial 35, 3) := by decide +kernel
theorem dX11_init_56 : decode cX11_init 56 = .ok (.putfield 36, 3) := by decide +kernel
theorem dX11_init_59 : decode cX11_init 59 = .ok (.aload_n 0, 1) := by decide +kernel
theorem dX11_init_60 : decode cX11_init 60 = .ok (.new 40, 3) := by decide +kernel
theorem dX11_init_63 : decode cX11_init 63 = .ok (.dup, 1) := by decide +kernel
theorem dX11_init_64 : decode cX11_init 64 = .ok (.invokespecial 42, 3) := by decide +kernel
theorem dX11_init_67 : decode cX11_init 67 = .ok (.putfield 43, 3) := by decide +kernel
theorem dX11_init_70 : decode cX11_init 70 = .ok (.return_, 1) := by decide +kernel
theorem dX11_addShower_0 : decode cX11_addShower 0 = .ok (.iload_n 1, 1) := by decide +kernel
theorem dX11_addShower_1 : decode cX11_addShower 1 = .ok (.aload_n 0, 1) := by decide +kernel
theorem dX11_addShower_2 : decode cX11_addShower 2 = .ok (.getfield 10, 3) := by decide +kernel
theorem dX11_addShower_5 : decode cX11_addShower 5 = .ok (.getfield 47, 3) := by decide +kernel
theorem dX11_addShower_8 : decode cX11_addShower 8 = .ok (.sipush 5000, 3) := by decide +kernel
theorem dX11_addShower_11 : decode cX11_addShower 11 = .ok (.invokestatic 51, 3) := by decide +kernel
theorem dX11_addShower_14 : decode cX11_addShower 14 = .ok (.ifCond .eq 25, 3) := by decide +kernel
theorem dX11_addShower_17 : decode cX11_addShower 17 = .ok (.iload_n 2, 1) := by decide +kernel
theorem dX11_addShower_18 : decode cX11_addShower 18 = .ok (.iconst 1, 1) := by decide +kernel
theorem dX11_addShower_19 : decode cX11_addShower 19 = .ok (.sipush 500, 3) := by decide +kernel
theorem dX11_addShower_22 : decode cX11_addShower 22 = .ok (.invokestatic 51, 3) := by decide +kernel
theorem dX11_addShower_25 : decode cX11_addShower 25 = .ok (.ifCond .eq 14, 3) := by decide +kernel
theorem dX11_addShower_28 : decode cX11_addShower 28 = .ok (.iload_n 3, 1) := by decide +kernel
theorem dX11_addShower_29 : decode cX11_addShower 29 = .ok (.iconst 1, 1) := by decide +kernel
theorem dX11_addShower_30 : decode cX11_addShower 30 = .ok (.sipush 200, 3) := by decide +kernel
theorem dX11_addShower_33 : decode cX11_addShower 33 = .ok (.invokestatic 51, 3) := by decide +kernel
theorem dX11_addShower_36 : decode cX11_addShower 36 = .ok (.ifCond .ne 5, 3) := by decide +kernel
theorem dX11_addShower_39 : decode cX11_addShower 39 = .ok (.iconst (-1), 1) := by decide +kernel
theorem dX11_addShower_40 : decode cX11_addShower 40 = .ok (.ireturn, 1) := by decide +kernel
theorem dX11_addShower_41 : decode cX11_addShower 41 = .ok (.aload_n 0, 1) := by decide +kernel
theorem dX11_addShower_42 : decode cX11_addShower 42 = .ok (.getfield 10, 3) := by decide +kernel
theorem dX11_addShower_45 : decode cX11_addShower 45 = .ok (.getfield 55, 3) := by decide +kernel
theorem dX11_addShower_48 : decode cX11_addShower 48 = .ok (.getfield 59, 3) := by decide +kernel
theorem dX11_addShower_51 : decode cX11_addShower 51 = .ok (.bipush 12, 2) := by decide +kernel
theorem dX11_addShower_53 : decode cX11_addShower 53 = .ok (.if_icmp .lt 6, 3) := by decide +kernel
theorem dX11_addShower_56 : decode cX11_addShower 56 = .ok (.bipush (-3), 2) := by decide +kernel
theorem dX11_addShower_58 : decode cX11_addShower 58 = .ok (.ireturn, 1) := by decide +kernel
theorem dX11_addShower_59 : decode cX11_addShower 59 = .ok (.aload_n 0, 1) := by decide +kernel
theorem dX11_addShower_60 : decode cX11_addShower 60 = .ok (.getfield 22, 3) := by decide +kernel
theorem dX11_addShower_63 : decode cX11_addShower 63 = .ok (.aload_n 0, 1) := by decide +kernel
theorem dX11_addShower_64 : decode cX11_addShower 64 = .ok (.getfield 10, 3) := by decide +kernel
theorem dX11_addShower_67 : decode cX11_addShower 67 = .ok (.invokevirtual 64, 3) := by decide +kernel
theorem dX11_addShower_70 : decode cX11_addShower 70 = .ok (.aload_n 0, 1) := by decide +kernel
theorem dX11_addShower_71 : decode cX11_addShower 71 = .ok (.getfield 10, 3) := by decide +kernel
theorem dX11_addShower_74 : decode cX11_addShower 74 = .ok (.getfield 55, 3) := by decide +kernel
theorem dX11_addShower_77 : decode cX11_addShower 77 = .ok (.iload_n 1, 1) := by decide +kernel
theorem dX11_addShower_78 : decode cX11_addShower 78 = .ok (.iload_n 2, 1) := by decide +kernel
theorem dX11_addShower_79 : decode cX11_addShower 79 = .ok (.iload_n 3, 1) := by decide +kernel
theorem dX11_addShower_80 : decode cX11_addShower 80 = .ok (.invokevirtual 68, 3) := by decide +kernel
theorem dX11_addShower_83 : decode cX11_addShower 83 = .ok (.ireturn, 1) := by decide +kernel
theorem dX11_shower_0 : decode cX11_shower 0 = .ok (.aload_n 0, 1) := by decide +kernel
theorem dX11_shower_1 : decode cX11_shower 1 = .ok (.getfield 10, 3) := by decide +kernel
theorem dX11_shower_4 : decode cX11_shower 4 = .ok (.getfield 55, 3) := by decide +kernel
theorem dX11_shower_7 : decode cX11_shower 7 = .ok (.iload_n 1, 1) := by decide +kernel
theorem dX11_shower_8 : decode cX11_shower 8 = .ok (.invokevirtual 72, 3) := by decide +kernel
theorem dX11_shower_11 : decode cX11_shower 11 = .ok (.ifCond .ne 5, 3) := by decide +kernel
theorem dX11_shower_14 : decode cX11_shower 14 = .ok (.iconst (-1), 1) := by decide +kernel
theorem dX11_shower_15 : decode cX11_shower 15 = .ok (.ireturn, 1) := by decide +kernel
theorem dX11_shower_16 : decode cX11_shower 16 = .ok (.iload_n 2, 1) := by decide +kernel
theorem dX11_shower_17 : decode cX11_shower 17 = .ok (.tableswitch 89 0 3 #[31, 44, 57, 70], 31) := by decide +kernel
theorem dX11_shower_48 : decode cX11_shower 48 = .ok (.aload_n 0, 1) := by decide +kernel
theorem dX11_shower_49 : decode cX11_shower 49 = .ok (.getfield 10, 3) := by decide +kernel
theorem dX11_shower_52 : decode cX11_shower 52 = .ok (.getfield 55, 3) := by decide +kernel
theorem dX11_shower_55 : decode cX11_shower 55 = .ok (.getfield 76, 3) := by decide +kernel
theorem dX11_shower_58 : decode cX11_shower 58 = .ok (.iload_n 1, 1) := by decide +kernel
theorem dX11_shower_59 : decode cX11_shower 59 = .ok (.iaload, 1) := by decide +kernel
theorem dX11_shower_60 : decode cX11_shower 60 = .ok (.ireturn, 1) := by decide +kernel
theorem dX11_shower_61 : decode cX11_shower 61 = .ok (.aload_n 0, 1) := by decide +kernel
theorem dX11_shower_62 : decode cX11_shower 62 = .ok (.getfield 10, 3) := by decide +kernel
theorem dX11_shower_65 : decode cX11_shower 65 = .ok (.getfield 55, 3) := by decide +kernel
theorem dX11_shower_68 : decode cX11_shower 68 = .ok (.getfield 84, 3) := by decide +kernel
theorem dX11_shower_71 : decode cX11_shower 71 = .ok (.iload_n 1, 1) := by decide +kernel
theorem dX11_shower_72 : decode cX11_shower 72 = .ok (.iaload, 1) := by decide +kernel
theorem dX11_shower_73 : decode cX11_shower 73 = .ok (.ireturn, 1) := by decide +kernel
theorem dX11_shower_74 : decode cX11_shower 74 = .ok (.aload_n 0, 1) := by decide +kernel
theorem dX11_shower_75 : decode cX11_shower 75 = .ok (.getfield 10, 3) := by decide +kernel
theorem dX11_shower_78 : decode cX11_shower 78 = .ok (.getfield 55, 3) := by decide +kernel
theorem dX11_shower_81 : decode cX11_shower 81 = .ok (.getfield 87, 3) := by decide +kernel
theorem dX11_shower_84 : decode cX11_shower 84 = .ok (.iload_n 1, 1) := by decide +kernel
theorem dX11_shower_85 : decode cX11_shower 85 = .ok (.iaload, 1) := by decide +kernel
theorem dX11_shower_86 : decode cX11_shower 86 = .ok (.ireturn, 1) := by decide +kernel
theorem dX11_shower_87 : decode cX11_shower 87 = .ok (.aload_n 0, 1) := by decide +kernel
theorem dX11_shower_88 : decode cX11_shower 88 = .ok (.getfield 10, 3) := by decide +kernel
theorem dX11_shower_91 : decode cX11_shower 91 = .ok (.getfield 55, 3) := by decide +kernel
