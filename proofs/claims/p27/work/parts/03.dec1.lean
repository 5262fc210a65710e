theorem dX11_shower_94 : decode cX11_shower 94 = .ok (.iload_n 1, 1) := by decide +kernel
theorem dX11_shower_95 : decode cX11_shower 95 = .ok (.aload_n 0, 1) := by decide +kernel
theorem dX11_shower_96 : decode cX11_shower 96 = .ok (.getfield 10, 3) := by decide +kernel
theorem dX11_shower_99 : decode cX11_shower 99 = .ok (.getfield 47, 3) := by decide +kernel
theorem dX11_shower_102 : decode cX11_shower 102 = .ok (.invokevirtual 90, 3) := by decide +kernel
theorem dX11_shower_105 : decode cX11_shower 105 = .ok (.ireturn, 1) := by decide +kernel
theorem dX11_shower_106 : decode cX11_shower 106 = .ok (.iconst (-1), 1) := by decide +kernel
theorem dX11_shower_107 : decode cX11_shower 107 = .ok (.ireturn, 1) := by decide +kernel
theorem dX11_run_0 : decode cX11_run 0 = .ok (.aload_n 0, 1) := by decide +kernel
theorem dX11_run_1 : decode cX11_run 1 = .ok (.iload_n 1, 1) := by decide +kernel
theorem dX11_run_2 : decode cX11_run 2 = .ok (.invokevirtual 94, 3) := by decide +kernel
theorem dX11_run_5 : decode cX11_run 5 = .ok (.istore_n 2, 1) := by decide +kernel
theorem dX11_run_6 : decode cX11_run 6 = .ok (.iload_n 2, 1) := by decide +kernel
theorem dX11_run_7 : decode cX11_run 7 = .ok (.ifCond .eq 5, 3) := by decide +kernel
theorem dX11_run_10 : decode cX11_run 10 = .ok (.iload_n 2, 1) := by decide +kernel
theorem dX11_run_11 : decode cX11_run 11 = .ok (.ireturn, 1) := by decide +kernel
theorem dX11_run_12 : decode cX11_run 12 = .ok (.aload_n 0, 1) := by decide +kernel
theorem dX11_run_13 : decode cX11_run 13 = .ok (.getfield 22, 3) := by decide +kernel
theorem dX11_run_16 : decode cX11_run 16 = .ok (.aload_n 0, 1) := by decide +kernel
theorem dX11_run_17 : decode cX11_run 17 = .ok (.getfield 10, 3) := by decide +kernel
theorem dX11_run_20 : decode cX11_run 20 = .ok (.invokevirtual 64, 3) := by decide +kernel
theorem dX11_run_23 : decode cX11_run 23 = .ok (.aload_n 0, 1) := by decide +kernel
theorem dX11_run_24 : decode cX11_run 24 = .ok (.getfield 10, 3) := by decide +kernel
theorem dX11_run_27 : decode cX11_run 27 = .ok (.iload_n 1, 1) := by decide +kernel
theorem dX11_run_28 : decode cX11_run 28 = .ok (.invokevirtual 98, 3) := by decide +kernel
theorem dX11_run_31 : decode cX11_run 31 = .ok (.ireturn, 1) := by decide +kernel
theorem dX11_undo_0 : decode cX11_undo 0 = .ok (.aload_n 0, 1) := by decide +kernel
theorem dX11_undo_1 : decode cX11_undo 1 = .ok (.getfield 22, 3) := by decide +kernel
theorem dX11_undo_4 : decode cX11_undo 4 = .ok (.getfield 101, 3) := by decide +kernel
theorem dX11_undo_7 : decode cX11_undo 7 = .ok (.ifCond .ne 6, 3) := by decide +kernel
theorem dX11_undo_10 : decode cX11_undo 10 = .ok (.bipush (-2), 2) := by decide +kernel
theorem dX11_undo_12 : decode cX11_undo 12 = .ok (.ireturn, 1) := by decide +kernel
theorem dX11_undo_13 : decode cX11_undo 13 = .ok (.aload_n 0, 1) := by decide +kernel
theorem dX11_undo_14 : decode cX11_undo 14 = .ok (.getfield 22, 3) := by decide +kernel
theorem dX11_undo_17 : decode cX11_undo 17 = .ok (.aload_n 0, 1) := by decide +kernel
theorem dX11_undo_18 : decode cX11_undo 18 = .ok (.getfield 10, 3) := by decide +kernel
theorem dX11_undo_21 : decode cX11_undo 21 = .ok (.invokevirtual 102, 3) := by decide +kernel
theorem dX11_undo_24 : decode cX11_undo 24 = .ok (.aload_n 0, 1) := by decide +kernel
theorem dX11_undo_25 : decode cX11_undo 25 = .ok (.getfield 22, 3) := by decide +kernel
theorem dX11_undo_28 : decode cX11_undo 28 = .ok (.getfield 101, 3) := by decide +kernel
theorem dX11_undo_31 : decode cX11_undo 31 = .ok (.ireturn, 1) := by decide +kernel
theorem dX11_set_0 : decode cX11_set 0 = .ok (.iload_n 1, 1) := by decide +kernel
theorem dX11_set_1 : decode cX11_set 1 = .ok (.iconst 0, 1) := by decide +kernel
theorem dX11_set_2 : decode cX11_set 2 = .ok (.bipush 7, 2) := by decide +kernel
theorem dX11_set_4 : decode cX11_set 4 = .ok (.invokestatic 51, 3) := by decide +kernel
theorem dX11_set_7 : decode cX11_set 7 = .ok (.ifCond .eq 20, 3) := by decide +kernel
theorem dX11_set_10 : decode cX11_set 10 = .ok (.iload_n 2, 1) := by decide +kernel
theorem dX11_set_11 : decode cX11_set 11 = .ok (.getstatic 105, 3) := by decide +kernel
theorem dX11_set_14 : decode cX11_set 14 = .ok (.iload_n 1, 1) := by decide +kernel
theorem dX11_set_15 : decode cX11_set 15 = .ok (.iaload, 1) := by decide +kernel
theorem dX11_set_16 : decode cX11_set 16 = .ok (.getstatic 108, 3) := by decide +kernel
theorem dX11_set_19 : decode cX11_set 19 = .ok (.iload_n 1, 1) := by decide +kernel
theorem dX11_set_20 : decode cX11_set 20 = .ok (.iaload, 1) := by decide +kernel
theorem dX11_set_21 : decode cX11_set 21 = .ok (.invokestatic 51, 3) := by decide +kernel
theorem dX11_set_24 : decode cX11_set 24 = .ok (.ifCond .ne 5, 3) := by decide +kernel
theorem dX11_set_27 : decode cX11_set 27 = .ok (.iconst (-1), 1) := by decide +kernel
theorem dX11_set_28 : decode cX11_set 28 = .ok (.ireturn, 1) := by decide +kernel
theorem dX11_set_29 : decode cX11_set 29 = .ok (.aload_n 0, 1) := by decide +kernel
theorem dX11_set_30 : decode cX11_set 30 = .ok (.getfield 22, 3) := by decide +kernel
theorem dX11_set_33 : decode cX11_set 33 = .ok (.aload_n 0, 1) := by decide +kernel
theorem dX11_set_34 : decode cX11_set 34 = .ok (.getfield 10, 3) := by decide +kernel
theorem dX11_set_37 : decode cX11_set 37 = .ok (.invokevirtual 64, 3) := by decide +kernel
theorem dX11_set_40 : decode cX11_set 40 = .ok (.aload_n 0, 1) := by decide +kernel
theorem dX11_set_41 : decode cX11_set 41 = .ok (.getfield 10, 3) := by decide +kernel
theorem dX11_set_44 : decode cX11_set 44 = .ok (.getfield 111, 3) := by decide +kernel
theorem dX11_set_47 : decode cX11_set 47 = .ok (.iload_n 1, 1) := by decide +kernel
theorem dX11_set_48 : decode cX11_set 48 = .ok (.iaload, 1) := by decide +kernel
theorem dX11_set_49 : decode cX11_set 49 = .ok (.istore_n 3, 1) := by decide +kernel
theorem dX11_set_50 : decode cX11_set 50 = .ok (.aload_n 0, 1) := by decide +kernel
theorem dX11_set_51 : decode cX11_set 51 = .ok (.getfield 10, 3) := by decide +kernel
theorem dX11_set_54 : decode cX11_set 54 = .ok (.getfield 111, 3) := by decide +kernel
theorem dX11_set_57 : decode cX11_set 57 = .ok (.iload_n 1, 1) := by decide +kernel
theorem dX11_set_58 : decode cX11_set 58 = .ok (.iload_n 2, 1) := by decide +kernel
theorem dX11_set_59 : decode cX11_set 59 = .ok (.iastore, 1) := by decide +kernel
theorem dX11_set_60 : decode cX11_set 60 = .ok (.iload_n 3, 1) := by decide +kernel
theorem dX11_set_61 : decode cX11_set 61 = .ok (.ireturn, 1) := by decide +kernel
theorem dX11_wind_0 : decode cX11_wind 0 = .ok (.aload_n 0, 1) := by decide +kernel
theorem dX11_wind_1 : decode cX11_wind 1 = .ok (.getfield 22, 3) := by decide +kernel
theorem dX11_wind_4 : decode cX11_wind 4 = .ok (.aload_n 0, 1) := by decide +kernel
theorem dX11_wind_5 : decode cX11_wind 5 = .ok (.getfield 10, 3) := by decide +kernel
theorem dX11_wind_8 : decode cX11_wind 8 = .ok (.invokevirtual 64, 3) := by decide +kernel
theorem dX11_wind_11 : decode cX11_wind 11 = .ok (.aload_n 0, 1) := by decide +kernel
theorem dX11_wind_12 : decode cX11_wind 12 = .ok (.getfield 10, 3) := by decide +kernel
theorem dX11_wind_15 : decode cX11_wind 15 = .ok (.getfield 114, 3) := by decide +kernel
theorem dX11_wind_18 : decode cX11_wind 18 = .ok (.getfield 118, 3) := by decide +kernel
theorem dX11_wind_21 : decode cX11_wind 21 = .ok (.istore_n 1, 1) := by decide +kernel
theorem dX11_wind_22 : decode cX11_wind 22 = .ok (.aload_n 0, 1) := by decide +kernel
theorem dX11_wind_23 : decode cX11_wind 23 = .ok (.getfield 10, 3) := by decide +kernel
theorem dX11_wind_26 : decode cX11_wind 26 = .ok (.getfield 114, 3) := by decide +kernel
theorem dX11_wind_29 : decode cX11_wind 29 = .ok (.aload_n 0, 1) := by decide +kernel
theorem dX11_wind_30 : decode cX11_wind 30 = .ok (.getfield 10, 3) := by decide +kernel
theorem dX11_wind_33 : decode cX11_wind 33 = .ok (.getfield 111, 3) := by decide +kernel
theorem dX11_wind_36 : decode cX11_wind 36 = .ok (.bipush 6, 2) := by decide +kernel
theorem dX11_wind_38 : decode cX11_wind 38 = .ok (.iaload, 1) := by decide +kernel
theorem dX11_wind_39 : decode cX11_wind 39 = .ok (.putfield 118, 3) := by decide +kernel
theorem dX11_wind_42 : decode cX11_wind 42 = .ok (.iload_n 1, 1) := by decide +kernel
theorem dX11_wind_43 : decode cX11_wind 43 = .ok (.ireturn, 1) := by decide +kernel
theorem dX11_count_0 : decode cX11_count 0 = .ok (.iload_n 1, 1) := by decide +kernel
theorem dX11_count_1 : decode cX11_count 1 = .ok (.bipush 20, 2) := by decide +kernel
theorem dX11_count_3 : decode cX11_count 3 = .ok (.bipush 27, 2) := by decide +kernel
theorem dX11_count_5 : decode cX11_count 5 = .ok (.invokestatic 51, 3) := by decide +kernel
theorem dX11_count_8 : decode cX11_count 8 = .ok (.ifCond .eq 16, 3) := by decide +kernel
theorem dX11_count_11 : decode cX11_count 11 = .ok (.aload_n 0, 1) := by decide +kernel
theorem dX11_count_12 : decode cX11_count 12 = .ok (.getfield 10, 3) := by decide +kernel
theorem dX11_count_15 : decode cX11_count 15 = .ok (.getfield 111, 3) := by decide +kernel
theorem dX11_count_18 : decode cX11_count 18 = .ok (.iload_n 1, 1) := by decide +kernel
theorem dX11_count_19 : decode cX11_count 19 = .ok (.bipush 20, 2) := by decide +kernel
theorem dX11_count_21 : decode cX11_count 21 = .ok (.isub, 1) := by decide +kernel
theorem dX11_count_22 : decode cX11_count 22 = .ok (.iaload, 1) := by decide +kernel
theorem dX11_count_23 : decode cX11_count 23 = .ok (.ireturn, 1) := by decide +kernel
theorem dX11_count_24 : decode cX11_count 24 = .ok (.iload_n 1, 1) := by decide +kernel
theorem dX11_count_25 : decode cX11_count 25 = .ok (.tableswitch 230 0 13 #[71, 79, 90, 101, 122, 133, 144, 155, 166, 177, 185, 196, 204, 212], 71) := by decide +kernel
theorem dX11_count_96 : decode cX11_count 96 = .ok (.aload_n 0, 1) := by decide +kernel
theorem dX11_count_97 : decode cX11_count 97 = .ok (.getfield 10, 3) := by decide +kernel
theorem dX11_count_100 : decode cX11_count 100 = .ok (.getfield 47, 3) := by decide +kernel
theorem dX11_count_103 : decode cX11_count 103 = .ok (.ireturn, 1) := by decide +kernel
theorem dX11_count_104 : decode cX11_count 104 = .ok (.aload_n 0, 1) := by decide +kernel
theorem dX11_count_105 : decode cX11_count 105 = .ok (.getfield 10, 3) := by decide +kernel
theorem dX11_count_108 : decode cX11_count 108 = .ok (.getfield 55, 3) := by decide +kernel
theorem dX11_count_111 : decode cX11_count 111 = .ok (.getfield 59, 3) := by decide +kernel
theorem dX11_count_114 : decode cX11_count 114 = .ok (.ireturn, 1) := by decide +kernel
theorem dX11_count_115 : decode cX11_count 115 = .ok (.aload_n 0, 1) := by decide +kernel
theorem dX11_count_116 : decode cX11_count 116 = .ok (.getfield 10, 3) := by decide +kernel
theorem dX11_count_119 : decode cX11_count 119 = .ok (.getfield 142, 3) := by decide +kernel
theorem dX11_count_122 : decode cX11_count 122 = .ok (.getfield 146, 3) := by decide +kernel
theorem dX11_count_125 : decode cX11_count 125 = .ok (.ireturn, 1) := by decide +kernel
theorem dX11_count_126 : decode cX11_count 126 = .ok (.aload_n 0, 1) := by decide +kernel
theorem dX11_count_127 : decode cX11_count 127 = .ok (.getfield 10, 3) := by decide +kernel
theorem dX11_count_130 : decode cX11_count 130 = .ok (.getfield 142, 3) := by decide +kernel
theorem dX11_count_133 : decode cX11_count 133 = .ok (.aload_n 0, 1) := by decide +kernel
theorem dX11_count_134 : decode cX11_count 134 = .ok (.getfield 10, 3) := by decide +kernel
theorem dX11_count_137 : decode cX11_count 137 = .ok (.getfield 111, 3) := by decide +kernel
theorem dX11_count_140 : decode cX11_count 140 = .ok (.bipush 7, 2) := by decide +kernel
theorem dX11_count_142 : decode cX11_count 142 = .ok (.iaload, 1) := by decide +kernel
theorem dX11_count_143 : decode cX11_count 143 = .ok (.invokevirtual 149, 3) := by decide +kernel
theorem dX11_count_146 : decode cX11_count 146 = .ok (.ireturn, 1) := by decide +kernel
theorem dX11_count_147 : decode cX11_count 147 = .ok (.aload_n 0, 1) := by decide +kernel
theorem dX11_count_148 : decode cX11_count 148 = .ok (.getfield 10, 3) := by decide +kernel
theorem dX11_count_151 : decode cX11_count 151 = .ok (.getfield 152, 3) := by decide +kernel
theorem dX11_count_154 : decode cX11_count 154 = .ok (.getfield 156, 3) := by decide +kernel
theorem dX11_count_157 : decode cX11_count 157 = .ok (.ireturn, 1) := by decide +kernel
theorem dX11_count_158 : decode cX11_count 158 = .ok (.aload_n 0, 1) := by decide +kernel
theorem dX11_count_159 : decode cX11_count 159 = .ok (.getfield 10, 3) := by decide +kernel
theorem dX11_count_162 : decode cX11_count 162 = .ok (.getfield 161, 3) := by decide +kernel
theorem dX11_count_165 : decode cX11_count 165 = .ok (.getfield 165, 3) := by decide +kernel
theorem dX11_count_168 : decode cX11_count 168 = .ok (.ireturn, 1) := by decide +kernel
theorem dX11_count_169 : decode cX11_count 169 = .ok (.aload_n 0, 1) := by decide +kernel
theorem dX11_count_170 : decode cX11_count 170 = .ok (.getfield 10, 3) := by decide +kernel
theorem dX11_count_173 : decode cX11_count 173 = .ok (.getfield 161, 3) := by decide +kernel
theorem dX11_count_176 : decode cX11_count 176 = .ok (.getfield 168, 3) := by decide +kernel
theorem dX11_count_179 : decode cX11_count 179 = .ok (.ireturn, 1) := by decide +kernel
theorem dX11_count_180 : decode cX11_count 180 = .ok (.aload_n 0, 1) := by decide +kernel
theorem dX11_count_181 : decode cX11_count 181 = .ok (.getfield 10, 3) := by decide +kernel
theorem dX11_count_184 : decode cX11_count 184 = .ok (.getfield 114, 3) := by decide +kernel
theorem dX11_count_187 : decode cX11_count 187 = .ok (.getfield 118, 3) := by decide +kernel
theorem dX11_count_190 : decode cX11_count 190 = .ok (.ireturn, 1) := by decide +kernel
theorem dX11_count_191 : decode cX11_count 191 = .ok (.aload_n 0, 1) := by decide +kernel
theorem dX11_count_192 : decode cX11_count 192 = .ok (.getfield 10, 3) := by decide +kernel
theorem dX11_count_195 : decode cX11_count 195 = .ok (.getfield 114, 3) := by decide +kernel
theorem dX11_count_198 : decode cX11_count 198 = .ok (.getfield 171, 3) := by decide +kernel
theorem dX11_count_201 : decode cX11_count 201 = .ok (.ireturn, 1) := by decide +kernel
theorem dX11_count_202 : decode cX11_count 202 = .ok (.aload_n 0, 1) := by decide +kernel
theorem dX11_count_203 : decode cX11_count 203 = .ok (.getfield 10, 3) := by decide +kernel
theorem dX11_count_206 : decode cX11_count 206 = .ok (.invokevirtual 174, 3) := by decide +kernel
theorem dX11_count_209 : decode cX11_count 209 = .ok (.ireturn, 1) := by decide +kernel
theorem dX11_count_210 : decode cX11_count 210 = .ok (.aload_n 0, 1) := by decide +kernel
theorem dX11_count_211 : decode cX11_count 211 = .ok (.getfield 10, 3) := by decide +kernel
theorem dX11_count_214 : decode cX11_count 214 = .ok (.getfield 123, 3) := by decide +kernel
theorem dX11_count_217 : decode cX11_count 217 = .ok (.getfield 127, 3) := by decide +kernel
theorem dX11_count_220 : decode cX11_count 220 = .ok (.ireturn, 1) := by decide +kernel
theorem dX11_count_221 : decode cX11_count 221 = .ok (.aload_n 0, 1) := by decide +kernel
theorem dX11_count_222 : decode cX11_count 222 = .ok (.getfield 22, 3) := by decide +kernel
theorem dX11_count_225 : decode cX11_count 225 = .ok (.getfield 101, 3) := by decide +kernel
theorem dX11_count_228 : decode cX11_count 228 = .ok (.ireturn, 1) := by decide +kernel
theorem dX11_count_229 : decode cX11_count 229 = .ok (.aload_n 0, 1) := by decide +kernel
theorem dX11_count_230 : decode cX11_count 230 = .ok (.getfield 36, 3) := by decide +kernel
theorem dX11_count_233 : decode cX11_count 233 = .ok (.getfield 178, 3) := by decide +kernel
theorem dX11_count_236 : decode cX11_count 236 = .ok (.ireturn, 1) := by decide +kernel
theorem dX11_count_237 : decode cX11_count 237 = .ok (.aload_n 0, 1) := by decide +kernel
theorem dX11_count_238 : decode cX11_count 238 = .ok (.getfield 10, 3) := by decide +kernel
theorem dX11_count_241 : decode cX11_count 241 = .ok (.getfield 55, 3) := by decide +kernel
theorem dX11_count_244 : decode cX11_count 244 = .ok (.aload_n 0, 1) := by decide +kernel
theorem dX11_count_245 : decode cX11_count 245 = .ok (.getfield 10, 3) := by decide +kernel
theorem dX11_count_248 : decode cX11_count 248 = .ok (.getfield 47, 3) := by decide +kernel
theorem dX11_count_251 : decode cX11_count 251 = .ok (.invokevirtual 181, 3) := by decide +kernel
theorem dX11_count_254 : decode cX11_count 254 = .ok (.ireturn, 1) := by decide +kernel
theorem dX11_count_255 : decode cX11_count 255 = .ok (.iconst (-1), 1) := by decide +kernel
theorem dX11_count_256 : decode cX11_count 256 = .ok (.ireturn, 1) := by decide +kernel
theorem dX11_account_0 : decode cX11_account 0 = .ok (.iload_n 1, 1) := by decide +kernel
theorem dX11_account_1 : decode cX11_account 1 = .ok (.iconst 0, 1) := by decide +kernel
theorem dX11_account_2 : decode cX11_account 2 = .ok (.iconst 4, 1) := by decide +kernel
theorem dX11_account_3 : decode cX11_account 3 = .ok (.invokestatic 51, 3) := by decide +kernel
theorem dX11_account_6 : decode cX11_account 6 = .ok (.ifCond .eq 14, 3) := by decide +kernel
theorem dX11_account_9 : decode cX11_account 9 = .ok (.aload_n 0, 1) := by decide +kernel
theorem dX11_account_10 : decode cX11_account 10 = .ok (.getfield 10, 3) := by decide +kernel
theorem dX11_account_13 : decode cX11_account 13 = .ok (.iload_n 1, 1) := by decide +kernel
theorem dX11_account_14 : decode cX11_account 14 = .ok (.invokevirtual 184, 3) := by decide +kernel
theorem dX11_account_17 : decode cX11_account 17 = .ok (.goto 4, 3) := by decide +kernel
theorem dX11_account_20 : decode cX11_account 20 = .ok (.iconst (-1), 1) := by decide +kernel
theorem dX11_account_21 : decode cX11_account 21 = .ok (.ireturn, 1) := by decide +kernel
theorem dX11_mark_0 : decode cX11_mark 0 = .ok (.aload_n 0, 1) := by decide +kernel
theorem dX11_mark_1 : decode cX11_mark 1 = .ok (.getfield 10, 3) := by decide +kernel
theorem dX11_mark_4 : decode cX11_mark 4 = .ok (.getfield 142, 3) := by decide +kernel
theorem dX11_mark_7 : decode cX11_mark 7 = .ok (.iload_n 1, 1) := by decide +kernel
theorem dX11_mark_8 : decode cX11_mark 8 = .ok (.invokevirtual 187, 3) := by decide +kernel
theorem dX11_mark_11 : decode cX11_mark 11 = .ok (.ifCond .ne 5, 3) := by decide +kernel
theorem dX11_mark_14 : decode cX11_mark 14 = .ok (.iconst (-1), 1) := by decide +kernel
theorem dX11_mark_15 : decode cX11_mark 15 = .ok (.ireturn, 1) := by decide +kernel
theorem dX11_mark_16 : decode cX11_mark 16 = .ok (.iload_n 2, 1) := by decide +kernel
theorem dX11_mark_17 : decode cX11_mark 17 = .ok (.tableswitch 66 0 2 #[27, 40, 53], 27) := by decide +kernel
theorem dX11_mark_44 : decode cX11_mark 44 = .ok (.aload_n 0, 1) := by decide +kernel
theorem dX11_mark_45 : decode cX11_mark 45 = .ok (.getfield 10, 3) := by decide +kernel
theorem dX11_mark_48 : decode cX11_mark 48 = .ok (.getfield 142, 3) := by decide +kernel
theorem dX11_mark_51 : decode cX11_mark 51 = .ok (.getfield 188, 3) := by decide +kernel
theorem dX11_mark_54 : decode cX11_mark 54 = .ok (.iload_n 1, 1) := by decide +kernel
theorem dX11_mark_55 : decode cX11_mark 55 = .ok (.iaload, 1) := by decide +kernel
theorem dX11_mark_56 : decode cX11_mark 56 = .ok (.ireturn, 1) := by decide +kernel
theorem dX11_mark_57 : decode cX11_mark 57 = .ok (.aload_n 0, 1) := by decide +kernel
theorem dX11_mark_58 : decode cX11_mark 58 = .ok (.getfield 10, 3) := by decide +kernel
theorem dX11_mark_61 : decode cX11_mark 61 = .ok (.getfield 142, 3) := by decide +kernel
theorem dX11_mark_64 : decode cX11_mark 64 = .ok (.getfield 191, 3) := by decide +kernel
theorem dX11_mark_67 : decode cX11_mark 67 = .ok (.iload_n 1, 1) := by decide +kernel
theorem dX11_mark_68 : decode cX11_mark 68 = .ok (.iaload, 1) := by decide +kernel
theorem dX11_mark_69 : decode cX11_mark 69 = .ok (.ireturn, 1) := by decide +kernel
theorem dX11_mark_70 : decode cX11_mark 70 = .ok (.aload_n 0, 1) := by decide +kernel
theorem dX11_mark_71 : decode cX11_mark 71 = .ok (.getfield 10, 3) := by decide +kernel
theorem dX11_mark_74 : decode cX11_mark 74 = .ok (.getfield 142, 3) := by decide +kernel
theorem dX11_mark_77 : decode cX11_mark 77 = .ok (.getfield 194, 3) := by decide +kernel
theorem dX11_mark_80 : decode cX11_mark 80 = .ok (.iload_n 1, 1) := by decide +kernel
theorem dX11_mark_81 : decode cX11_mark 81 = .ok (.iaload, 1) := by decide +kernel
theorem dX11_mark_82 : decode cX11_mark 82 = .ok (.ireturn, 1) := by decide +kernel
theorem dX11_mark_83 : decode cX11_mark 83 = .ok (.iconst (-1), 1) := by decide +kernel
theorem dX11_mark_84 : decode cX11_mark 84 = .ok (.ireturn, 1) := by decide +kernel
theorem dX11_storm_0 : decode cX11_storm 0 = .ok (.aload_n 0, 1) := by decide +kernel
theorem dX11_storm_1 : decode cX11_storm 1 = .ok (.getfield 10, 3) := by decide +kernel
theorem dX11_storm_4 : decode cX11_storm 4 = .ok (.getfield 111, 3) := by decide +kernel
theorem dX11_storm_7 : decode cX11_storm 7 = .ok (.bipush 7, 2) := by decide +kernel
theorem dX11_storm_9 : decode cX11_storm 9 = .ok (.iaload, 1) := by decide +kernel
theorem dX11_storm_10 : decode cX11_storm 10 = .ok (.istore_n 3, 1) := by decide +kernel
theorem dX11_storm_11 : decode cX11_storm 11 = .ok (.aload_n 0, 1) := by decide +kernel
theorem dX11_storm_12 : decode cX11_storm 12 = .ok (.getfield 10, 3) := by decide +kernel
theorem dX11_storm_15 : decode cX11_storm 15 = .ok (.getfield 142, 3) := by decide +kernel
theorem dX11_storm_18 : decode cX11_storm 18 = .ok (.iload_n 1, 1) := by decide +kernel
theorem dX11_storm_19 : decode cX11_storm 19 = .ok (.iload_n 3, 1) := by decide +kernel
theorem dX11_storm_20 : decode cX11_storm 20 = .ok (.invokevirtual 197, 3) := by decide +kernel
theorem dX11_storm_23 : decode cX11_storm 23 = .ok (.istore 4, 2) := by decide +kernel
theorem dX11_storm_25 : decode cX11_storm 25 = .ok (.iload 4, 2) := by decide +kernel
theorem dX11_storm_27 : decode cX11_storm 27 = .ok (.iconst (-1), 1) := by decide +kernel
theorem dX11_storm_28 : decode cX11_storm 28 = .ok (.if_icmp .ne 5, 3) := by decide +kernel
theorem dX11_storm_31 : decode cX11_storm 31 = .ok (.iconst (-1), 1) := by decide +kernel
theorem dX11_storm_32 : decode cX11_storm 32 = .ok (.ireturn, 1) := by decide +kernel
theorem dX11_storm_33 : decode cX11_storm 33 = .ok (.aload_n 0, 1) := by decide +kernel
theorem dX11_storm_34 : decode cX11_storm 34 = .ok (.getfield 10, 3) := by decide +kernel
theorem dX11_storm_37 : decode cX11_storm 37 = .ok (.getfield 142, 3) := by decide +kernel
theorem dX11_storm_40 : decode cX11_storm 40 = .ok (.iload 4, 2) := by decide +kernel
theorem dX11_storm_42 : decode cX11_storm 42 = .ok (.iload_n 3, 1) := by decide +kernel
theorem dX11_storm_43 : decode cX11_storm 43 = .ok (.invokevirtual 200, 3) := by decide +kernel
theorem dX11_storm_46 : decode cX11_storm 46 = .ok (.istore 5, 2) := by decide +kernel
theorem dX11_storm_48 : decode cX11_storm 48 = .ok (.iload_n 2, 1) := by decide +kernel
theorem dX11_storm_49 : decode cX11_storm 49 = .ok (.tableswitch 98 0 5 #[39, 42, 48, 65, 74, 83], 39) := by decide +kernel
theorem dX11_storm_88 : decode cX11_storm 88 = .ok (.iload 4, 2) := by decide +kernel
theorem dX11_storm_90 : decode cX11_storm 90 = .ok (.ireturn, 1) := by decide +kernel
theorem dX11_storm_91 : decode cX11_storm 91 = .ok (.iload 5, 2) := by decide +kernel
theorem dX11_storm_93 : decode cX11_storm 93 = .ok (.iload 4, 2) := by decide +kernel
theorem dX11_storm_95 : decode cX11_storm 95 = .ok (.isub, 1) := by decide +kernel
theorem dX11_storm_96 : decode cX11_storm 96 = .ok (.ireturn, 1) := by decide +kernel
theorem dX11_storm_97 : decode cX11_storm 97 = .ok (.aload_n 0, 1) := by decide +kernel
theorem dX11_storm_98 : decode cX11_storm 98 = .ok (.getfield 10, 3) := by decide +kernel
theorem dX11_storm_101 : decode cX11_storm 101 = .ok (.getfield 142, 3) := by decide +kernel
theorem dX11_storm_104 : decode cX11_storm 104 = .ok (.iload 4, 2) := by decide +kernel
theorem dX11_storm_106 : decode cX11_storm 106 = .ok (.iload 5, 2) := by decide +kernel
theorem dX11_storm_108 : decode cX11_storm 108 = .ok (.iconst 1, 1) := by decide +kernel
theorem dX11_storm_109 : decode cX11_storm 109 = .ok (.isub, 1) := by decide +kernel
theorem dX11_storm_110 : decode cX11_storm 110 = .ok (.invokevirtual 203, 3) := by decide +kernel
theorem dX11_storm_113 : decode cX11_storm 113 = .ok (.ireturn, 1) := by decide +kernel
theorem dX11_storm_114 : decode cX11_storm 114 = .ok (.aload_n 0, 1) := by decide +kernel
theorem dX11_storm_115 : decode cX11_storm 115 = .ok (.iload 4, 2) := by decide +kernel
theorem dX11_storm_117 : decode cX11_storm 117 = .ok (.iload 5, 2) := by decide +kernel
theorem dX11_storm_119 : decode cX11_storm 119 = .ok (.invokevirtual 206, 3) := by decide +kernel
theorem dX11_storm_122 : decode cX11_storm 122 = .ok (.ireturn, 1) := by decide +kernel
theorem dX11_storm_123 : decode cX11_storm 123 = .ok (.aload_n 0, 1) := by decide +kernel
theorem dX11_storm_124 : decode cX11_storm 124 = .ok (.iload 4, 2) := by decide +kernel
theorem dX11_storm_126 : decode cX11_storm 126 = .ok (.iload 5, 2) := by decide +kernel
theorem dX11_storm_128 : decode cX11_storm 128 = .ok (.invokevirtual 209, 3) := by decide +kernel
theorem dX11_storm_131 : decode cX11_storm 131 = .ok (.ireturn, 1) := by decide +kernel
theorem dX11_storm_132 : decode cX11_storm 132 = .ok (.aload_n 0, 1) := by decide +kernel
theorem dX11_storm_133 : decode cX11_storm 133 = .ok (.getfield 10, 3) := by decide +kernel
theorem dX11_storm_136 : decode cX11_storm 136 = .ok (.getfield 142, 3) := by decide +kernel
theorem dX11_storm_139 : decode cX11_storm 139 = .ok (.iload 4, 2) := by decide +kernel
theorem dX11_storm_141 : decode cX11_storm 141 = .ok (.iload 5, 2) := by decide +kernel
theorem dX11_storm_143 : decode cX11_storm 143 = .ok (.invokevirtual 212, 3) := by decide +kernel
theorem dX11_storm_146 : decode cX11_storm 146 = .ok (.ireturn, 1) := by decide +kernel
theorem dX11_storm_147 : decode cX11_storm 147 = .ok (.iconst (-1), 1) := by decide +kernel
theorem dX11_storm_148 : decode cX11_storm 148 = .ok (.ireturn, 1) := by decide +kernel
theorem dX11_greatestStorm_0 : decode cX11_greatestStorm 0 = .ok (.aload_n 0, 1) := by decide +kernel
theorem dX11_greatestStorm_1 : decode cX11_greatestStorm 1 = .ok (.getfield 10, 3) := by decide +kernel
theorem dX11_greatestStorm_4 : decode cX11_greatestStorm 4 = .ok (.getfield 111, 3) := by decide +kernel
theorem dX11_greatestStorm_7 : decode cX11_greatestStorm 7 = .ok (.bipush 7, 2) := by decide +kernel
theorem dX11_greatestStorm_9 : decode cX11_greatestStorm 9 = .ok (.iaload, 1) := by decide +kernel
theorem dX11_greatestStorm_10 : decode cX11_greatestStorm 10 = .ok (.istore_n 1, 1) := by decide +kernel
theorem dX11_greatestStorm_11 : decode cX11_greatestStorm 11 = .ok (.aload_n 0, 1) := by decide +kernel
theorem dX11_greatestStorm_12 : decode cX11_greatestStorm 12 = .ok (.getfield 10, 3) := by decide +kernel
theorem dX11_greatestStorm_15 : decode cX11_greatestStorm 15 = .ok (.getfield 142, 3) := by decide +kernel
theorem dX11_greatestStorm_18 : decode cX11_greatestStorm 18 = .ok (.iload_n 1, 1) := by decide +kernel
theorem dX11_greatestStorm_19 : decode cX11_greatestStorm 19 = .ok (.invokevirtual 149, 3) := by decide +kernel
theorem dX11_greatestStorm_22 : decode cX11_greatestStorm 22 = .ok (.istore_n 2, 1) := by decide +kernel
theorem dX11_greatestStorm_23 : decode cX11_greatestStorm 23 = .ok (.bipush (-4), 2) := by decide +kernel
theorem dX11_greatestStorm_25 : decode cX11_greatestStorm 25 = .ok (.istore_n 3, 1) := by decide +kernel
theorem dX11_greatestStorm_26 : decode cX11_greatestStorm 26 = .ok (.iconst (-1), 1) := by decide +kernel
theorem dX11_greatestStorm_27 : decode cX11_greatestStorm 27 = .ok (.istore 4, 2) := by decide +kernel
theorem dX11_greatestStorm_29 : decode cX11_greatestStorm 29 = .ok (.iconst 0, 1) := by decide +kernel
theorem dX11_greatestStorm_30 : decode cX11_greatestStorm 30 = .ok (.istore 5, 2) := by decide +kernel
theorem dX11_greatestStorm_32 : decode cX11_greatestStorm 32 = .ok (.iload 5, 2) := by decide +kernel
theorem dX11_greatestStorm_34 : decode cX11_greatestStorm 34 = .ok (.iload_n 2, 1) := by decide +kernel
theorem dX11_greatestStorm_35 : decode cX11_greatestStorm 35 = .ok (.if_icmp .ge 72, 3) := by decide +kernel
theorem dX11_greatestStorm_38 : decode cX11_greatestStorm 38 = .ok (.aload_n 0, 1) := by decide +kernel
theorem dX11_greatestStorm_39 : decode cX11_greatestStorm 39 = .ok (.getfield 10, 3) := by decide +kernel
theorem dX11_greatestStorm_42 : decode cX11_greatestStorm 42 = .ok (.getfield 142, 3) := by decide +kernel
theorem dX11_greatestStorm_45 : decode cX11_greatestStorm 45 = .ok (.iload 5, 2) := by decide +kernel
theorem dX11_greatestStorm_47 : decode cX11_greatestStorm 47 = .ok (.iload_n 1, 1) := by decide +kernel
theorem dX11_greatestStorm_48 : decode cX11_greatestStorm 48 = .ok (.invokevirtual 197, 3) := by decide +kernel
theorem dX11_greatestStorm_51 : decode cX11_greatestStorm 51 = .ok (.istore 6, 2) := by decide +kernel
theorem dX11_greatestStorm_53 : decode cX11_greatestStorm 53 = .ok (.aload_n 0, 1) := by decide +kernel
theorem dX11_greatestStorm_54 : decode cX11_greatestStorm 54 = .ok (.getfield 10, 3) := by decide +kernel
theorem dX11_greatestStorm_57 : decode cX11_greatestStorm 57 = .ok (.getfield 142, 3) := by decide +kernel
theorem dX11_greatestStorm_60 : decode cX11_greatestStorm 60 = .ok (.iload 6, 2) := by decide +kernel
theorem dX11_greatestStorm_62 : decode cX11_greatestStorm 62 = .ok (.iload_n 1, 1) := by decide +kernel
theorem dX11_greatestStorm_63 : decode cX11_greatestStorm 63 = .ok (.invokevirtual 200, 3) := by decide +kernel
theorem dX11_greatestStorm_66 : decode cX11_greatestStorm 66 = .ok (.istore 7, 2) := by decide +kernel
theorem dX11_greatestStorm_68 : decode cX11_greatestStorm 68 = .ok (.aload_n 0, 1) := by decide +kernel
theorem dX11_greatestStorm_69 : decode cX11_greatestStorm 69 = .ok (.iload 6, 2) := by decide +kernel
theorem dX11_greatestStorm_71 : decode cX11_greatestStorm 71 = .ok (.iload 7, 2) := by decide +kernel
theorem dX11_greatestStorm_73 : decode cX11_greatestStorm 73 = .ok (.invokevirtual 206, 3) := by decide +kernel
theorem dX11_greatestStorm_76 : decode cX11_greatestStorm 76 = .ok (.aload_n 0, 1) := by decide +kernel
theorem dX11_greatestStorm_77 : decode cX11_greatestStorm 77 = .ok (.iload 6, 2) := by decide +kernel
theorem dX11_greatestStorm_79 : decode cX11_greatestStorm 79 = .ok (.iload 7, 2) := by decide +kernel
theorem dX11_greatestStorm_81 : decode cX11_greatestStorm 81 = .ok (.invokevirtual 209, 3) := by decide +kernel
theorem dX11_greatestStorm_84 : decode cX11_greatestStorm 84 = .ok (.iadd, 1) := by decide +kernel
theorem dX11_greatestStorm_85 : decode cX11_greatestStorm 85 = .ok (.istore 8, 2) := by decide +kernel
theorem dX11_greatestStorm_87 : decode cX11_greatestStorm 87 = .ok (.iload 8, 2) := by decide +kernel
theorem dX11_greatestStorm_89 : decode cX11_greatestStorm 89 = .ok (.iload 4, 2) := by decide +kernel
theorem dX11_greatestStorm_91 : decode cX11_greatestStorm 91 = .ok (.if_icmp .le 10, 3) := by decide +kernel
theorem dX11_greatestStorm_94 : decode cX11_greatestStorm 94 = .ok (.iload 8, 2) := by decide +kernel
theorem dX11_greatestStorm_96 : decode cX11_greatestStorm 96 = .ok (.istore 4, 2) := by decide +kernel
theorem dX11_greatestStorm_98 : decode cX11_greatestStorm 98 = .ok (.iload 5, 2) := by decide +kernel
theorem dX11_greatestStorm_100 : decode cX11_greatestStorm 100 = .ok (.istore_n 3, 1) := by decide +kernel
theorem dX11_greatestStorm_101 : decode cX11_greatestStorm 101 = .ok (.iinc 5 1, 3) := by decide +kernel
theorem dX11_greatestStorm_104 : decode cX11_greatestStorm 104 = .ok (.goto (-72), 3) := by decide +kernel
theorem dX11_greatestStorm_107 : decode cX11_greatestStorm 107 = .ok (.iload_n 3, 1) := by decide +kernel
theorem dX11_greatestStorm_108 : decode cX11_greatestStorm 108 = .ok (.ireturn, 1) := by decide +kernel
theorem dX11_gapForOne_0 : decode cX11_gapForOne 0 = .ok (.aload_n 0, 1) := by decide +kernel
theorem dX11_gapForOne_1 : decode cX11_gapForOne 1 = .ok (.getfield 10, 3) := by decide +kernel
theorem dX11_gapForOne_4 : decode cX11_gapForOne 4 = .ok (.getfield 142, 3) := by decide +kernel
theorem dX11_gapForOne_7 : decode cX11_gapForOne 7 = .ok (.getfield 146, 3) := by decide +kernel
theorem dX11_gapForOne_10 : decode cX11_gapForOne 10 = .ok (.ifCond .ne 6, 3) := by decide +kernel
theorem dX11_gapForOne_13 : decode cX11_gapForOne 13 = .ok (.bipush (-4), 2) := by decide +kernel
theorem dX11_gapForOne_15 : decode cX11_gapForOne 15 = .ok (.ireturn, 1) := by decide +kernel
theorem dX11_gapForOne_16 : decode cX11_gapForOne 16 = .ok (.iconst 1, 1) := by decide +kernel
theorem dX11_gapForOne_17 : decode cX11_gapForOne 17 = .ok (.aload_n 0, 1) := by decide +kernel
theorem dX11_gapForOne_18 : decode cX11_gapForOne 18 = .ok (.getfield 10, 3) := by decide +kernel
theorem dX11_gapForOne_21 : decode cX11_gapForOne 21 = .ok (.getfield 142, 3) := by decide +kernel
theorem dX11_gapForOne_24 : decode cX11_gapForOne 24 = .ok (.invokevirtual 215, 3) := by decide +kernel
theorem dX11_gapForOne_27 : decode cX11_gapForOne 27 = .ok (.invokestatic 218, 3) := by decide +kernel
theorem dX11_gapForOne_30 : decode cX11_gapForOne 30 = .ok (.istore_n 1, 1) := by decide +kernel
theorem dX11_gapForOne_31 : decode cX11_gapForOne 31 = .ok (.iload_n 1, 1) := by decide +kernel
theorem dX11_gapForOne_32 : decode cX11_gapForOne 32 = .ok (.sipush 1000, 3) := by decide +kernel
theorem dX11_gapForOne_35 : decode cX11_gapForOne 35 = .ok (.if_icmp .gt 7, 3) := by decide +kernel
theorem dX11_gapForOne_38 : decode cX11_gapForOne 38 = .ok (.iload_n 1, 1) := by decide +kernel
theorem dX11_gapForOne_39 : decode cX11_gapForOne 39 = .ok (.goto 5, 3) := by decide +kernel
theorem dX11_gapForOne_42 : decode cX11_gapForOne 42 = .ok (.bipush (-4), 2) := by decide +kernel
theorem dX11_gapForOne_44 : decode cX11_gapForOne 44 = .ok (.ireturn, 1) := by decide +kernel
theorem dX11_ifRun_0 : decode cX11_ifRun 0 = .ok (.iload_n 2, 1) := by decide +kernel
theorem dX11_ifRun_1 : decode cX11_ifRun 1 = .ok (.iconst 0, 1) := by decide +kernel
theorem dX11_ifRun_2 : decode cX11_ifRun 2 = .ok (.bipush 7, 2) := by decide +kernel
theorem dX11_ifRun_4 : decode cX11_ifRun 4 = .ok (.invokestatic 51, 3) := by decide +kernel
theorem dX11_ifRun_7 : decode cX11_ifRun 7 = .ok (.ifCond .ne 5, 3) := by decide +kernel
theorem dX11_ifRun_10 : decode cX11_ifRun 10 = .ok (.iconst (-1), 1) := by decide +kernel
theorem dX11_ifRun_11 : decode cX11_ifRun 11 = .ok (.ireturn, 1) := by decide +kernel
theorem dX11_ifRun_12 : decode cX11_ifRun 12 = .ok (.aload_n 0, 1) := by decide +kernel
theorem dX11_ifRun_13 : decode cX11_ifRun 13 = .ok (.iload_n 1, 1) := by decide +kernel
theorem dX11_ifRun_14 : decode cX11_ifRun 14 = .ok (.invokevirtual 94, 3) := by decide +kernel
theorem dX11_ifRun_17 : decode cX11_ifRun 17 = .ok (.istore_n 3, 1) := by decide +kernel
theorem dX11_ifRun_18 : decode cX11_ifRun 18 = .ok (.iload_n 3, 1) := by decide +kernel
theorem dX11_ifRun_19 : decode cX11_ifRun 19 = .ok (.ifCond .eq 5, 3) := by decide +kernel
theorem dX11_ifRun_22 : decode cX11_ifRun 22 = .ok (.iload_n 3, 1) := by decide +kernel
theorem dX11_ifRun_23 : decode cX11_ifRun 23 = .ok (.ireturn, 1) := by decide +kernel
theorem dX11_ifRun_24 : decode cX11_ifRun 24 = .ok (.aload_n 0, 1) := by decide +kernel
theorem dX11_ifRun_25 : decode cX11_ifRun 25 = .ok (.getfield 16, 3) := by decide +kernel
theorem dX11_ifRun_28 : decode cX11_ifRun 28 = .ok (.aload_n 0, 1) := by decide +kernel
theorem dX11_ifRun_29 : decode cX11_ifRun 29 = .ok (.getfield 10, 3) := by decide +kernel
theorem dX11_ifRun_32 : decode cX11_ifRun 32 = .ok (.invokevirtual 223, 3) := by decide +kernel
theorem dX11_ifRun_35 : decode cX11_ifRun 35 = .ok (.aload_n 0, 1) := by decide +kernel
theorem dX11_ifRun_36 : decode cX11_ifRun 36 = .ok (.getfield 16, 3) := by decide +kernel
theorem dX11_ifRun_39 : decode cX11_ifRun 39 = .ok (.iload_n 1, 1) := by decide +kernel
theorem dX11_ifRun_40 : decode cX11_ifRun 40 = .ok (.invokevirtual 98, 3) := by decide +kernel
theorem dX11_ifRun_43 : decode cX11_ifRun 43 = .ok (.istore 4, 2) := by decide +kernel
theorem dX11_ifRun_45 : decode cX11_ifRun 45 = .ok (.iload_n 2, 1) := by decide +kernel
theorem dX11_ifRun_46 : decode cX11_ifRun 46 = .ok (.tableswitch 79 0 7 #[46, 79, 79, 79, 79, 49, 60, 71], 46) := by decide +kernel
theorem dX11_ifRun_92 : decode cX11_ifRun 92 = .ok (.iload 4, 2) := by decide +kernel
theorem dX11_ifRun_94 : decode cX11_ifRun 94 = .ok (.ireturn, 1) := by decide +kernel
theorem dX11_ifRun_95 : decode cX11_ifRun 95 = .ok (.aload_n 0, 1) := by decide +kernel
theorem dX11_ifRun_96 : decode cX11_ifRun 96 = .ok (.getfield 16, 3) := by decide +kernel
theorem dX11_ifRun_99 : decode cX11_ifRun 99 = .ok (.getfield 152, 3) := by decide +kernel
theorem dX11_ifRun_102 : decode cX11_ifRun 102 = .ok (.getfield 156, 3) := by decide +kernel
theorem dX11_ifRun_105 : decode cX11_ifRun 105 = .ok (.ireturn, 1) := by decide +kernel
theorem dX11_ifRun_106 : decode cX11_ifRun 106 = .ok (.aload_n 0, 1) := by decide +kernel
theorem dX11_ifRun_107 : decode cX11_ifRun 107 = .ok (.getfield 16, 3) := by decide +kernel
theorem dX11_ifRun_110 : decode cX11_ifRun 110 = .ok (.getfield 161, 3) := by decide +kernel
theorem dX11_ifRun_113 : decode cX11_ifRun 113 = .ok (.getfield 165, 3) := by decide +kernel
theorem dX11_ifRun_116 : decode cX11_ifRun 116 = .ok (.ireturn, 1) := by decide +kernel
theorem dX11_ifRun_117 : decode cX11_ifRun 117 = .ok (.aload_n 0, 1) := by decide +kernel
theorem dX11_ifRun_118 : decode cX11_ifRun 118 = .ok (.getfield 16, 3) := by decide +kernel
theorem dX11_ifRun_121 : decode cX11_ifRun 121 = .ok (.invokevirtual 174, 3) := by decide +kernel
theorem dX11_ifRun_124 : decode cX11_ifRun 124 = .ok (.ireturn, 1) := by decide +kernel
theorem dX11_ifRun_125 : decode cX11_ifRun 125 = .ok (.aload_n 0, 1) := by decide +kernel
theorem dX11_ifRun_126 : decode cX11_ifRun 126 = .ok (.getfield 16, 3) := by decide +kernel
theorem dX11_ifRun_129 : decode cX11_ifRun 129 = .ok (.iload_n 2, 1) := by decide +kernel
theorem dX11_ifRun_130 : decode cX11_ifRun 130 = .ok (.invokevirtual 184, 3) := by decide +kernel
theorem dX11_ifRun_133 : decode cX11_ifRun 133 = .ok (.aload_n 0, 1) := by decide +kernel
theorem dX11_ifRun_134 : decode cX11_ifRun 134 = .ok (.getfield 10, 3) := by decide +kernel
theorem dX11_ifRun_137 : decode cX11_ifRun 137 = .ok (.iload_n 2, 1) := by decide +kernel
theorem dX11_ifRun_138 : decode cX11_ifRun 138 = .ok (.invokevirtual 184, 3) := by decide +kernel
theorem dX11_ifRun_141 : decode cX11_ifRun 141 = .ok (.isub, 1) := by decide +kernel
theorem dX11_ifRun_142 : decode cX11_ifRun 142 = .ok (.ireturn, 1) := by decide +kernel
theorem dX11_capacityFor_0 : decode cX11_capacityFor 0 = .ok (.iload_n 2, 1) := by decide +kernel
theorem dX11_capacityFor_1 : decode cX11_capacityFor 1 = .ok (.iconst 0, 1) := by decide +kernel
theorem dX11_capacityFor_2 : decode cX11_capacityFor 2 = .ok (.ldc 226, 2) := by decide +kernel
theorem dX11_capacityFor_4 : decode cX11_capacityFor 4 = .ok (.invokestatic 51, 3) := by decide +kernel
theorem dX11_capacityFor_7 : decode cX11_capacityFor 7 = .ok (.ifCond .ne 5, 3) := by decide +kernel
theorem dX11_capacityFor_10 : decode cX11_capacityFor 10 = .ok (.iconst (-1), 1) := by decide +kernel
theorem dX11_capacityFor_11 : decode cX11_capacityFor 11 = .ok (.ireturn, 1) := by decide +kernel
theorem dX11_capacityFor_12 : decode cX11_capacityFor 12 = .ok (.aload_n 0, 1) := by decide +kernel
theorem dX11_capacityFor_13 : decode cX11_capacityFor 13 = .ok (.iload_n 1, 1) := by decide +kernel
theorem dX11_capacityFor_14 : decode cX11_capacityFor 14 = .ok (.invokevirtual 94, 3) := by decide +kernel
theorem dX11_capacityFor_17 : decode cX11_capacityFor 17 = .ok (.istore_n 3, 1) := by decide +kernel
theorem dX11_capacityFor_18 : decode cX11_capacityFor 18 = .ok (.iload_n 3, 1) := by decide +kernel
theorem dX11_capacityFor_19 : decode cX11_capacityFor 19 = .ok (.ifCond .eq 5, 3) := by decide +kernel
theorem dX11_capacityFor_22 : decode cX11_capacityFor 22 = .ok (.iload_n 3, 1) := by decide +kernel
theorem dX11_capacityFor_23 : decode cX11_capacityFor 23 = .ok (.ireturn, 1) := by decide +kernel
theorem dX11_capacityFor_24 : decode cX11_capacityFor 24 = .ok (.aload_n 0, 1) := by decide +kernel
theorem dX11_capacityFor_25 : decode cX11_capacityFor 25 = .ok (.getfield 16, 3) := by decide +kernel
theorem dX11_capacityFor_28 : decode cX11_capacityFor 28 = .ok (.aload_n 0, 1) := by decide +kernel
theorem dX11_capacityFor_29 : decode cX11_capacityFor 29 = .ok (.getfield 10, 3) := by decide +kernel
theorem dX11_capacityFor_32 : decode cX11_capacityFor 32 = .ok (.invokevirtual 223, 3) := by decide +kernel
theorem dX11_capacityFor_35 : decode cX11_capacityFor 35 = .ok (.aload_n 0, 1) := by decide +kernel
theorem dX11_capacityFor_36 : decode cX11_capacityFor 36 = .ok (.getfield 29, 3) := by decide +kernel
theorem dX11_capacityFor_39 : decode cX11_capacityFor 39 = .ok (.aload_n 0, 1) := by decide +kernel
theorem dX11_capacityFor_40 : decode cX11_capacityFor 40 = .ok (.getfield 16, 3) := by decide +kernel
theorem dX11_capacityFor_43 : decode cX11_capacityFor 43 = .ok (.iload_n 1, 1) := by decide +kernel
theorem dX11_capacityFor_44 : decode cX11_capacityFor 44 = .ok (.invokevirtual 227, 3) := by decide +kernel
theorem dX11_capacityFor_47 : decode cX11_capacityFor 47 = .ok (.getstatic 105, 3) := by decide +kernel
theorem dX11_capacityFor_50 : decode cX11_capacityFor 50 = .ok (.iconst 0, 1) := by decide +kernel
theorem dX11_capacityFor_51 : decode cX11_capacityFor 51 = .ok (.iaload, 1) := by decide +kernel
theorem dX11_capacityFor_52 : decode cX11_capacityFor 52 = .ok (.istore 4, 2) := by decide +kernel
theorem dX11_capacityFor_54 : decode cX11_capacityFor 54 = .ok (.iload 4, 2) := by decide +kernel
theorem dX11_capacityFor_56 : decode cX11_capacityFor 56 = .ok (.getstatic 108, 3) := by decide +kernel
theorem dX11_capacityFor_59 : decode cX11_capacityFor 59 = .ok (.iconst 0, 1) := by decide +kernel
theorem dX11_capacityFor_60 : decode cX11_capacityFor 60 = .ok (.iaload, 1) := by decide +kernel
theorem dX11_capacityFor_61 : decode cX11_capacityFor 61 = .ok (.if_icmp .gt 46, 3) := by decide +kernel
theorem dX11_capacityFor_64 : decode cX11_capacityFor 64 = .ok (.aload_n 0, 1) := by decide +kernel
theorem dX11_capacityFor_65 : decode cX11_capacityFor 65 = .ok (.getfield 16, 3) := by decide +kernel
theorem dX11_capacityFor_68 : decode cX11_capacityFor 68 = .ok (.getfield 161, 3) := by decide +kernel
theorem dX11_capacityFor_71 : decode cX11_capacityFor 71 = .ok (.aload_n 0, 1) := by decide +kernel
theorem dX11_capacityFor_72 : decode cX11_capacityFor 72 = .ok (.getfield 10, 3) := by decide +kernel
theorem dX11_capacityFor_75 : decode cX11_capacityFor 75 = .ok (.getfield 161, 3) := by decide +kernel
theorem dX11_capacityFor_78 : decode cX11_capacityFor 78 = .ok (.invokevirtual 231, 3) := by decide +kernel
theorem dX11_capacityFor_81 : decode cX11_capacityFor 81 = .ok (.aload_n 0, 1) := by decide +kernel
theorem dX11_capacityFor_82 : decode cX11_capacityFor 82 = .ok (.getfield 29, 3) := by decide +kernel
theorem dX11_capacityFor_85 : decode cX11_capacityFor 85 = .ok (.iload_n 2, 1) := by decide +kernel
theorem dX11_capacityFor_86 : decode cX11_capacityFor 86 = .ok (.iload 4, 2) := by decide +kernel
theorem dX11_capacityFor_88 : decode cX11_capacityFor 88 = .ok (.aload_n 0, 1) := by decide +kernel
theorem dX11_capacityFor_89 : decode cX11_capacityFor 89 = .ok (.getfield 16, 3) := by decide +kernel
theorem dX11_capacityFor_92 : decode cX11_capacityFor 92 = .ok (.invokevirtual 234, 3) := by decide +kernel
theorem dX11_capacityFor_95 : decode cX11_capacityFor 95 = .ok (.ifCond .eq 6, 3) := by decide +kernel
theorem dX11_capacityFor_98 : decode cX11_capacityFor 98 = .ok (.iload 4, 2) := by decide +kernel
theorem dX11_capacityFor_100 : decode cX11_capacityFor 100 = .ok (.ireturn, 1) := by decide +kernel
theorem dX11_capacityFor_101 : decode cX11_capacityFor 101 = .ok (.iinc 4 1, 3) := by decide +kernel
theorem dX11_capacityFor_104 : decode cX11_capacityFor 104 = .ok (.goto (-50), 3) := by decide +kernel
theorem dX11_capacityFor_107 : decode cX11_capacityFor 107 = .ok (.bipush (-4), 2) := by decide +kernel
theorem dX11_capacityFor_109 : decode cX11_capacityFor 109 = .ok (.ireturn, 1) := by decide +kernel
theorem dX11_untilStop_0 : decode cX11_untilStop 0 = .ok (.aload_n 0, 1) := by decide +kernel
theorem dX11_untilStop_1 : decode cX11_untilStop 1 = .ok (.getfield 10, 3) := by decide +kernel
theorem dX11_untilStop_4 : decode cX11_untilStop 4 = .ok (.getfield 114, 3) := by decide +kernel
theorem dX11_untilStop_7 : decode cX11_untilStop 7 = .ok (.getfield 118, 3) := by decide +kernel
theorem dX11_untilStop_10 : decode cX11_untilStop 10 = .ok (.ireturn, 1) := by decide +kernel
theorem dX11_errorOfTicks_0 : decode cX11_errorOfTicks 0 = .ok (.iload_n 1, 1) := by decide +kernel
theorem dX11_errorOfTicks_1 : decode cX11_errorOfTicks 1 = .ok (.iconst 1, 1) := by decide +kernel
theorem dX11_errorOfTicks_2 : decode cX11_errorOfTicks 2 = .ok (.sipush 1000, 3) := by decide +kernel
theorem dX11_errorOfTicks_5 : decode cX11_errorOfTicks 5 = .ok (.invokestatic 51, 3) := by decide +kernel
theorem dX11_errorOfTicks_8 : decode cX11_errorOfTicks 8 = .ok (.ifCond .ne 5, 3) := by decide +kernel
theorem dX11_errorOfTicks_11 : decode cX11_errorOfTicks 11 = .ok (.iconst (-1), 1) := by decide +kernel
theorem dX11_errorOfTicks_12 : decode cX11_errorOfTicks 12 = .ok (.ireturn, 1) := by decide +kernel
theorem dX11_errorOfTicks_13 : decode cX11_errorOfTicks 13 = .ok (.aload_n 0, 1) := by decide +kernel
theorem dX11_errorOfTicks_14 : decode cX11_errorOfTicks 14 = .ok (.getfield 10, 3) := by decide +kernel
theorem dX11_errorOfTicks_17 : decode cX11_errorOfTicks 17 = .ok (.getfield 47, 3) := by decide +kernel
theorem dX11_errorOfTicks_20 : decode cX11_errorOfTicks 20 = .ok (.iload_n 1, 1) := by decide +kernel
theorem dX11_errorOfTicks_21 : decode cX11_errorOfTicks 21 = .ok (.iadd, 1) := by decide +kernel
theorem dX11_errorOfTicks_22 : decode cX11_errorOfTicks 22 = .ok (.sipush 5000, 3) := by decide +kernel
theorem dX11_errorOfTicks_25 : decode cX11_errorOfTicks 25 = .ok (.if_icmp .le 8, 3) := by decide +kernel
theorem dX11_errorOfTicks_28 : decode cX11_errorOfTicks 28 = .ok (.bipush (-3), 2) := by decide +kernel
theorem dX11_errorOfTicks_30 : decode cX11_errorOfTicks 30 = .ok (.goto 4, 3) := by decide +kernel
theorem dX11_errorOfTicks_33 : decode cX11_errorOfTicks 33 = .ok (.iconst 0, 1) := by decide +kernel
theorem dX11_errorOfTicks_34 : decode cX11_errorOfTicks 34 = .ok (.ireturn, 1) := by decide +kernel
theorem dX11_amountOf_0 : decode cX11_amountOf 0 = .ok (.iload_n 2, 1) := by decide +kernel
theorem dX11_amountOf_1 : decode cX11_amountOf 1 = .ok (.iload_n 1, 1) := by decide +kernel
theorem dX11_amountOf_2 : decode cX11_amountOf 2 = .ok (.isub, 1) := by decide +kernel
theorem dX11_amountOf_3 : decode cX11_amountOf 3 = .ok (.aload_n 0, 1) := by decide +kernel
theorem dX11_amountOf_4 : decode cX11_amountOf 4 = .ok (.getfield 10, 3) := by decide +kernel
theorem dX11_amountOf_7 : decode cX11_amountOf 7 = .ok (.getfield 111, 3) := by decide +kernel
theorem dX11_amountOf_10 : decode cX11_amountOf 10 = .ok (.iconst 0, 1) := by decide +kernel
theorem dX11_amountOf_11 : decode cX11_amountOf 11 = .ok (.iaload, 1) := by decide +kernel
theorem dX11_amountOf_12 : decode cX11_amountOf 12 = .ok (.imul, 1) := by decide +kernel
theorem dX11_amountOf_13 : decode cX11_amountOf 13 = .ok (.ireturn, 1) := by decide +kernel
theorem dX11_lossOf_0 : decode cX11_lossOf 0 = .ok (.aload_n 0, 1) := by decide +kernel
theorem dX11_lossOf_1 : decode cX11_lossOf 1 = .ok (.getfield 10, 3) := by decide +kernel
theorem dX11_lossOf_4 : decode cX11_lossOf 4 = .ok (.getfield 142, 3) := by decide +kernel
theorem dX11_lossOf_7 : decode cX11_lossOf 7 = .ok (.iload_n 1, 1) := by decide +kernel
theorem dX11_lossOf_8 : decode cX11_lossOf 8 = .ok (.iload_n 2, 1) := by decide +kernel
theorem dX11_lossOf_9 : decode cX11_lossOf 9 = .ok (.aload_n 0, 1) := by decide +kernel
theorem dX11_lossOf_10 : decode cX11_lossOf 10 = .ok (.getfield 10, 3) := by decide +kernel
theorem dX11_lossOf_13 : decode cX11_lossOf 13 = .ok (.getfield 111, 3) := by decide +kernel
theorem dX11_lossOf_16 : decode cX11_lossOf 16 = .ok (.iconst 0, 1) := by decide +kernel
theorem dX11_lossOf_17 : decode cX11_lossOf 17 = .ok (.iaload, 1) := by decide +kernel
theorem dX11_lossOf_18 : decode cX11_lossOf 18 = .ok (.aload_n 0, 1) := by decide +kernel
theorem dX11_lossOf_19 : decode cX11_lossOf 19 = .ok (.getfield 10, 3) := by decide +kernel
theorem dX11_lossOf_22 : decode cX11_lossOf 22 = .ok (.getfield 111, 3) := by decide +kernel
theorem dX11_lossOf_25 : decode cX11_lossOf 25 = .ok (.iconst 1, 1) := by decide +kernel
theorem dX11_lossOf_26 : decode cX11_lossOf 26 = .ok (.iaload, 1) := by decide +kernel
theorem dX11_lossOf_27 : decode cX11_lossOf 27 = .ok (.imul, 1) := by decide +kernel
theorem dX11_lossOf_28 : decode cX11_lossOf 28 = .ok (.invokevirtual 258, 3) := by decide +kernel
theorem dX11_lossOf_31 : decode cX11_lossOf 31 = .ok (.ireturn, 1) := by decide +kernel
theorem dX11_isWithin_0 : decode cX11_isWithin 0 = .ok (.iload_n 0, 1) := by decide +kernel
theorem dX11_isWithin_1 : decode cX11_isWithin 1 = .ok (.iload_n 1, 1) := by decide +kernel
theorem dX11_isWithin_2 : decode cX11_isWithin 2 = .ok (.if_icmp .lt 12, 3) := by decide +kernel
theorem dX11_isWithin_5 : decode cX11_isWithin 5 = .ok (.iload_n 0, 1) := by decide +kernel
theorem dX11_isWithin_6 : decode cX11_isWithin 6 = .ok (.iload_n 2, 1) := by decide +kernel
theorem dX11_isWithin_7 : decode cX11_isWithin 7 = .ok (.if_icmp .gt 7, 3) := by decide +kernel
theorem dX11_isWithin_10 : decode cX11_isWithin 10 = .ok (.iconst 1, 1) := by decide +kernel
theorem dX11_isWithin_11 : decode cX11_isWithin 11 = .ok (.goto 4, 3) := by decide +kernel
theorem dX11_isWithin_14 : decode cX11_isWithin 14 = .ok (.iconst 0, 1) := by decide +kernel
theorem dX11_isWithin_15 : decode cX11_isWithin 15 = .ok (.ireturn, 1) := by decide +kernel
theorem dX11_quotient_0 : decode cX11_quotient 0 = .ok (.iload_n 1, 1) := by decide +kernel
theorem dX11_quotient_1 : decode cX11_quotient 1 = .ok (.ifCond .ne 7, 3) := by decide +kernel
theorem dX11_quotient_4 : decode cX11_quotient 4 = .ok (.iconst 0, 1) := by decide +kernel
theorem dX11_quotient_5 : decode cX11_quotient 5 = .ok (.goto 8, 3) := by decide +kernel
theorem dX11_quotient_8 : decode cX11_quotient 8 = .ok (.iload_n 0, 1) := by decide +kernel
theorem dX11_quotient_9 : decode cX11_quotient 9 = .ok (.iload_n 1, 1) := by decide +kernel
theorem dX11_quotient_10 : decode cX11_quotient 10 = .ok (.invokestatic 261, 3) := by decide +kernel
theorem dX11_quotient_13 : decode cX11_quotient 13 = .ok (.ireturn, 1) := by decide +kernel
theorem dX11_copyRow_0 : decode cX11_copyRow 0 = .ok (.aload_n 0, 1) := by decide +kernel
theorem dX11_copyRow_1 : decode cX11_copyRow 1 = .ok (.iconst 0, 1) := by decide +kernel
theorem dX11_copyRow_2 : decode cX11_copyRow 2 = .ok (.aload_n 1, 1) := by decide +kernel
theorem dX11_copyRow_3 : decode cX11_copyRow 3 = .ok (.iconst 0, 1) := by decide +kernel
theorem dX11_copyRow_4 : decode cX11_copyRow 4 = .ok (.aload_n 0, 1) := by decide +kernel
theorem dX11_copyRow_5 : decode cX11_copyRow 5 = .ok (.arraylength, 1) := by decide +kernel
theorem dX11_copyRow_6 : decode cX11_copyRow 6 = .ok (.aload_n 1, 1) := by decide +kernel
theorem dX11_copyRow_7 : decode cX11_copyRow 7 = .ok (.arraylength, 1) := by decide +kernel
theorem dX11_copyRow_8 : decode cX11_copyRow 8 = .ok (.invokestatic 264, 3) := by decide +kernel
theorem dX11_copyRow_11 : decode cX11_copyRow 11 = .ok (.invokestatic 267, 3) := by decide +kernel
theorem dX11_copyRow_14 : decode cX11_copyRow 14 = .ok (.return_, 1) := by decide +kernel
theorem dJ9_floorDiv_7cf53_0 : decode cJ9_floorDiv_7cf53 0 = .ok (.iload_n 0, 1) := by decide +kernel
theorem dJ9_floorDiv_7cf53_1 : decode cJ9_floorDiv_7cf53 1 = .ok (.iload_n 1, 1) := by decide +kernel
theorem dJ9_floorDiv_7cf53_2 : decode cJ9_floorDiv_7cf53 2 = .ok (.idiv, 1) := by decide +kernel
theorem dJ9_floorDiv_7cf53_3 : decode cJ9_floorDiv_7cf53 3 = .ok (.istore_n 2, 1) := by decide +kernel
theorem dJ9_floorDiv_7cf53_4 : decode cJ9_floorDiv_7cf53 4 = .ok (.iload_n 0, 1) := by decide +kernel
theorem dJ9_floorDiv_7cf53_5 : decode cJ9_floorDiv_7cf53 5 = .ok (.iload_n 1, 1) := by decide +kernel
theorem dJ9_floorDiv_7cf53_6 : decode cJ9_floorDiv_7cf53 6 = .ok (.ixor, 1) := by decide +kernel
theorem dJ9_floorDiv_7cf53_7 : decode cJ9_floorDiv_7cf53 7 = .ok (.ifCond .ge 14, 3) := by decide +kernel
theorem dJ9_floorDiv_7cf53_10 : decode cJ9_floorDiv_7cf53 10 = .ok (.iload_n 2, 1) := by decide +kernel
theorem dJ9_floorDiv_7cf53_11 : decode cJ9_floorDiv_7cf53 11 = .ok (.iload_n 1, 1) := by decide +kernel
theorem dJ9_floorDiv_7cf53_12 : decode cJ9_floorDiv_7cf53 12 = .ok (.imul, 1) := by decide +kernel
theorem dJ9_floorDiv_7cf53_13 : decode cJ9_floorDiv_7cf53 13 = .ok (.iload_n 0, 1) := by decide +kernel
theorem dJ9_floorDiv_7cf53_14 : decode cJ9_floorDiv_7cf53 14 = .ok (.if_icmp .eq 7, 3) := by decide +kernel
theorem dJ9_floorDiv_7cf53_17 : decode cJ9_floorDiv_7cf53 17 = .ok (.iload_n 2, 1) := by decide +kernel
theorem dJ9_floorDiv_7cf53_18 : decode cJ9_floorDiv_7cf53 18 = .ok (.iconst 1, 1) := by decide +kernel
theorem dJ9_floorDiv_7cf53_19 : decode cJ9_floorDiv_7cf53 19 = .ok (.isub, 1) := by decide +kernel
theorem dJ9_floorDiv_7cf53_20 : decode cJ9_floorDiv_7cf53 20 = .ok (.ireturn, 1) := by decide +kernel
theorem dJ9_floorDiv_7cf53_21 : decode cJ9_floorDiv_7cf53 21 = .ok (.iload_n 2, 1) := by decide +kernel
theorem dJ9_floorDiv_7cf53_22 : decode cJ9_floorDiv_7cf53 22 = .ok (.ireturn, 1) := by decide +kernel
theorem dJ9_max_7cf53_0 : decode cJ9_max_7cf53 0 = .ok (.iload_n 0, 1) := by decide +kernel
theorem dJ9_max_7cf53_1 : decode cJ9_max_7cf53 1 = .ok (.iload_n 1, 1) := by decide +kernel
theorem dJ9_max_7cf53_2 : decode cJ9_max_7cf53 2 = .ok (.if_icmp .lt 7, 3) := by decide +kernel
theorem dJ9_max_7cf53_5 : decode cJ9_max_7cf53 5 = .ok (.iload_n 0, 1) := by decide +kernel
theorem dJ9_max_7cf53_6 : decode cJ9_max_7cf53 6 = .ok (.goto 4, 3) := by decide +kernel
theorem dJ9_max_7cf53_9 : decode cJ9_max_7cf53 9 = .ok (.iload_n 1, 1) := by decide +kernel
theorem dJ9_max_7cf53_10 : decode cJ9_max_7cf53 10 = .ok (.ireturn, 1) := by decide +kernel
theorem dJ9_min_7cf53_0 : decode cJ9_min_7cf53 0 = .ok (.iload_n 0, 1) := by decide +kernel
theorem dJ9_min_7cf53_1 : decode cJ9_min_7cf53 1 = .ok (.iload_n 1, 1) := by decide +kernel
theorem dJ9_min_7cf53_2 : decode cJ9_min_7cf53 2 = .ok (.if_icmp .gt 7, 3) := by decide +kernel
theorem dJ9_min_7cf53_5 : decode cJ9_min_7cf53 5 = .ok (.iload_n 0, 1) := by decide +kernel
theorem dJ9_min_7cf53_6 : decode cJ9_min_7cf53 6 = .ok (.goto 4, 3) := by decide +kernel
theorem dJ9_min_7cf53_9 : decode cJ9_min_7cf53 9 = .ok (.iload_n 1, 1) := by decide +kernel
theorem dJ9_min_7cf53_10 : decode cJ9_min_7cf53 10 = .ok (.ireturn, 1) := by decide +kernel
theorem dL_cell_0 : decode cL_cell 0 = .ok (.iload_n 1, 1) := by decide +kernel
theorem dL_cell_1 : decode cL_cell 1 = .ok (.aload_n 0, 1) := by decide +kernel
theorem dL_cell_2 : decode cL_cell 2 = .ok (.arraylength, 1) := by decide +kernel
theorem dL_cell_3 : decode cL_cell 3 = .ok (.if_icmp .ge 9, 3) := by decide +kernel
theorem dL_cell_6 : decode cL_cell 6 = .ok (.aload_n 0, 1) := by decide +kernel
theorem dL_cell_7 : decode cL_cell 7 = .ok (.iload_n 1, 1) := by decide +kernel
theorem dL_cell_8 : decode cL_cell 8 = .ok (.iaload, 1) := by decide +kernel
theorem dL_cell_9 : decode cL_cell 9 = .ok (.goto 10, 3) := by decide +kernel
theorem dL_cell_12 : decode cL_cell 12 = .ok (.ldc 7, 2) := by decide +kernel
theorem dL_cell_14 : decode cL_cell 14 = .ok (.iload_n 1, 1) := by decide +kernel
theorem dL_cell_15 : decode cL_cell 15 = .ok (.imul, 1) := by decide +kernel
theorem dL_cell_16 : decode cL_cell 16 = .ok (.bipush 109, 2) := by decide +kernel
theorem dL_cell_18 : decode cL_cell 18 = .ok (.iadd, 1) := by decide +kernel
theorem dL_cell_19 : decode cL_cell 19 = .ok (.ldc 8, 2) := by decide +kernel
theorem dL_cell_21 : decode cL_cell 21 = .ok (.iand, 1) := by decide +kernel
theorem dL_cell_22 : decode cL_cell 22 = .ok (.ireturn, 1) := by decide +kernel
theorem dL_holds_0 : decode cL_holds 0 = .ok (.aload_n 0, 1) := by decide +kernel
theorem dL_holds_1 : decode cL_holds 1 = .ok (.iconst 0, 1) := by decide +kernel
theorem dL_holds_2 : decode cL_holds 2 = .ok (.invokevirtual 9, 3) := by decide +kernel
theorem dL_holds_5 : decode cL_holds 5 = .ok (.aload_n 0, 1) := by decide +kernel
theorem dL_holds_6 : decode cL_holds 6 = .ok (.iconst 1, 1) := by decide +kernel
theorem dL_holds_7 : decode cL_holds 7 = .ok (.invokevirtual 9, 3) := by decide +kernel
theorem dL_holds_10 : decode cL_holds 10 = .ok (.aload_n 0, 1) := by decide +kernel
theorem dL_holds_11 : decode cL_holds 11 = .ok (.iconst 2, 1) := by decide +kernel
theorem dL_holds_12 : decode cL_holds 12 = .ok (.invokevirtual 9, 3) := by decide +kernel
theorem dL_holds_15 : decode cL_holds 15 = .ok (.iadd, 1) := by decide +kernel
theorem dL_holds_16 : decode cL_holds 16 = .ok (.aload_n 0, 1) := by decide +kernel
theorem dL_holds_17 : decode cL_holds 17 = .ok (.iconst 3, 1) := by decide +kernel
theorem dL_holds_18 : decode cL_holds 18 = .ok (.invokevirtual 9, 3) := by decide +kernel
theorem dL_holds_21 : decode cL_holds 21 = .ok (.iadd, 1) := by decide +kernel
theorem dL_holds_22 : decode cL_holds 22 = .ok (.aload_n 0, 1) := by decide +kernel
theorem dL_holds_23 : decode cL_holds 23 = .ok (.iconst 4, 1) := by decide +kernel
theorem dL_holds_24 : decode cL_holds 24 = .ok (.invokevirtual 9, 3) := by decide +kernel
theorem dL_holds_27 : decode cL_holds 27 = .ok (.iadd, 1) := by decide +kernel
theorem dL_holds_28 : decode cL_holds 28 = .ok (.aload_n 0, 1) := by decide +kernel
theorem dL_holds_29 : decode cL_holds 29 = .ok (.iconst 4, 1) := by decide +kernel
theorem dL_holds_30 : decode cL_holds 30 = .ok (.invokevirtual 15, 3) := by decide +kernel
theorem dL_holds_33 : decode cL_holds 33 = .ok (.iadd, 1) := by decide +kernel
theorem dL_holds_34 : decode cL_holds 34 = .ok (.aload_n 0, 1) := by decide +kernel
theorem dL_holds_35 : decode cL_holds 35 = .ok (.iconst 5, 1) := by decide +kernel
theorem dL_holds_36 : decode cL_holds 36 = .ok (.invokevirtual 15, 3) := by decide +kernel
theorem dL_holds_39 : decode cL_holds 39 = .ok (.iadd, 1) := by decide +kernel
theorem dL_holds_40 : decode cL_holds 40 = .ok (.if_icmp .ne 7, 3) := by decide +kernel
theorem dL_holds_43 : decode cL_holds 43 = .ok (.iconst 1, 1) := by decide +kernel
theorem dL_holds_44 : decode cL_holds 44 = .ok (.goto 4, 3) := by decide +kernel
theorem dL_holds_47 : decode cL_holds 47 = .ok (.iconst 0, 1) := by decide +kernel
theorem dL_holds_48 : decode cL_holds 48 = .ok (.istore_n 1, 1) := by decide +kernel
theorem dL_holds_49 : decode cL_holds 49 = .ok (.iload_n 1, 1) := by decide +kernel
theorem dL_holds_50 : decode cL_holds 50 = .ok (.ifCond .eq 65, 3) := by decide +kernel
theorem dL_holds_53 : decode cL_holds 53 = .ok (.aload_n 0, 1) := by decide +kernel
theorem dL_holds_54 : decode cL_holds 54 = .ok (.bipush 6, 2) := by decide +kernel
theorem dL_holds_56 : decode cL_holds 56 = .ok (.invokevirtual 15, 3) := by decide +kernel
theorem dL_holds_59 : decode cL_holds 59 = .ok (.ifCond .lt 56, 3) := by decide +kernel
theorem dL_holds_62 : decode cL_holds 62 = .ok (.aload_n 0, 1) := by decide +kernel
theorem dL_holds_63 : decode cL_holds 63 = .ok (.bipush 6, 2) := by decide +kernel
theorem dL_holds_65 : decode cL_holds 65 = .ok (.invokevirtual 15, 3) := by decide +kernel
theorem dL_holds_68 : decode cL_holds 68 = .ok (.bipush 20, 2) := by decide +kernel
theorem dL_holds_70 : decode cL_holds 70 = .ok (.if_icmp .gt 45, 3) := by decide +kernel
theorem dL_holds_73 : decode cL_holds 73 = .ok (.aload_n 0, 1) := by decide +kernel
theorem dL_holds_74 : decode cL_holds 74 = .ok (.bipush 9, 2) := by decide +kernel
theorem dL_holds_76 : decode cL_holds 76 = .ok (.invokevirtual 15, 3) := by decide +kernel
theorem dL_holds_79 : decode cL_holds 79 = .ok (.ifCond .lt 36, 3) := by decide +kernel
theorem dL_holds_82 : decode cL_holds 82 = .ok (.aload_n 0, 1) := by decide +kernel
theorem dL_holds_83 : decode cL_holds 83 = .ok (.bipush 9, 2) := by decide +kernel
theorem dL_holds_85 : decode cL_holds 85 = .ok (.invokevirtual 15, 3) := by decide +kernel
theorem dL_holds_88 : decode cL_holds 88 = .ok (.aload_n 0, 1) := by decide +kernel
theorem dL_holds_89 : decode cL_holds 89 = .ok (.bipush 25, 2) := by decide +kernel
theorem dL_holds_91 : decode cL_holds 91 = .ok (.invokevirtual 15, 3) := by decide +kernel
theorem dL_holds_94 : decode cL_holds 94 = .ok (.if_icmp .ge 21, 3) := by decide +kernel
theorem dL_holds_97 : decode cL_holds 97 = .ok (.aload_n 0, 1) := by decide +kernel
theorem dL_holds_98 : decode cL_holds 98 = .ok (.bipush 8, 2) := by decide +kernel
theorem dL_holds_100 : decode cL_holds 100 = .ok (.invokevirtual 15, 3) := by decide +kernel
theorem dL_holds_103 : decode cL_holds 103 = .ok (.aload_n 0, 1) := by decide +kernel
theorem dL_holds_104 : decode cL_holds 104 = .ok (.iconst 0, 1) := by decide +kernel
theorem dL_holds_105 : decode cL_holds 105 = .ok (.invokevirtual 15, 3) := by decide +kernel
theorem dL_holds_108 : decode cL_holds 108 = .ok (.if_icmp .gt 7, 3) := by decide +kernel
theorem dL_holds_111 : decode cL_holds 111 = .ok (.iconst 1, 1) := by decide +kernel
theorem dL_holds_112 : decode cL_holds 112 = .ok (.goto 4, 3) := by decide +kernel
theorem dL_holds_115 : decode cL_holds 115 = .ok (.iconst 0, 1) := by decide +kernel
theorem dL_holds_116 : decode cL_holds 116 = .ok (.istore_n 1, 1) := by decide +kernel
theorem dL_holds_117 : decode cL_holds 117 = .ok (.aload_n 0, 1) := by decide +kernel
theorem dL_holds_118 : decode cL_holds 118 = .ok (.iconst 2, 1) := by decide +kernel
theorem dL_holds_119 : decode cL_holds 119 = .ok (.invokevirtual 15, 3) := by decide +kernel
theorem dL_holds_122 : decode cL_holds 122 = .ok (.istore_n 2, 1) := by decide +kernel
theorem dL_holds_123 : decode cL_holds 123 = .ok (.iconst 0, 1) := by decide +kernel
theorem dL_holds_124 : decode cL_holds 124 = .ok (.istore_n 3, 1) := by decide +kernel
theorem dL_holds_125 : decode cL_holds 125 = .ok (.iconst 1, 1) := by decide +kernel
theorem dL_holds_126 : decode cL_holds 126 = .ok (.istore 4, 2) := by decide +kernel
theorem dL_holds_128 : decode cL_holds 128 = .ok (.iload 4, 2) := by decide +kernel
theorem dL_holds_130 : decode cL_holds 130 = .ok (.iload_n 2, 1) := by decide +kernel
theorem dL_holds_131 : decode cL_holds 131 = .ok (.if_icmp .ge 63, 3) := by decide +kernel
theorem dL_holds_134 : decode cL_holds 134 = .ok (.iload_n 1, 1) := by decide +kernel
theorem dL_holds_135 : decode cL_holds 135 = .ok (.ifCond .eq 59, 3) := by decide +kernel
theorem dL_holds_138 : decode cL_holds 138 = .ok (.aload_n 0, 1) := by decide +kernel
theorem dL_holds_139 : decode cL_holds 139 = .ok (.iload 4, 2) := by decide +kernel
theorem dL_holds_141 : decode cL_holds 141 = .ok (.iconst 0, 1) := by decide +kernel
theorem dL_holds_142 : decode cL_holds 142 = .ok (.invokevirtual 18, 3) := by decide +kernel
theorem dL_holds_145 : decode cL_holds 145 = .ok (.aload_n 0, 1) := by decide +kernel
theorem dL_holds_146 : decode cL_holds 146 = .ok (.iload 4, 2) := by decide +kernel
theorem dL_holds_148 : decode cL_holds 148 = .ok (.iconst 1, 1) := by decide +kernel
theorem dL_holds_149 : decode cL_holds 149 = .ok (.isub, 1) := by decide +kernel
theorem dL_holds_150 : decode cL_holds 150 = .ok (.iconst 0, 1) := by decide +kernel
theorem dL_holds_151 : decode cL_holds 151 = .ok (.invokevirtual 18, 3) := by decide +kernel
theorem dL_holds_154 : decode cL_holds 154 = .ok (.if_icmp .le 32, 3) := by decide +kernel
theorem dL_holds_157 : decode cL_holds 157 = .ok (.aload_n 0, 1) := by decide +kernel
theorem dL_holds_158 : decode cL_holds 158 = .ok (.iload 4, 2) := by decide +kernel
theorem dL_holds_160 : decode cL_holds 160 = .ok (.iconst 0, 1) := by decide +kernel
theorem dL_holds_161 : decode cL_holds 161 = .ok (.invokevirtual 18, 3) := by decide +kernel
theorem dL_holds_164 : decode cL_holds 164 = .ok (.aload_n 0, 1) := by decide +kernel
theorem dL_holds_165 : decode cL_holds 165 = .ok (.iconst 0, 1) := by decide +kernel
theorem dL_holds_166 : decode cL_holds 166 = .ok (.invokevirtual 15, 3) := by decide +kernel
theorem dL_holds_169 : decode cL_holds 169 = .ok (.if_icmp .ge 17, 3) := by decide +kernel
theorem dL_holds_172 : decode cL_holds 172 = .ok (.aload_n 0, 1) := by decide +kernel
theorem dL_holds_173 : decode cL_holds 173 = .ok (.iload 4, 2) := by decide +kernel
theorem dL_holds_175 : decode cL_holds 175 = .ok (.iconst 2, 1) := by decide +kernel
theorem dL_holds_176 : decode cL_holds 176 = .ok (.invokevirtual 18, 3) := by decide +kernel
theorem dL_holds_179 : decode cL_holds 179 = .ok (.ifCond .lt 7, 3) := by decide +kernel
theorem dL_holds_182 : decode cL_holds 182 = .ok (.iconst 1, 1) := by decide +kernel
theorem dL_holds_183 : decode cL_holds 183 = .ok (.goto 4, 3) := by decide +kernel
theorem dL_holds_186 : decode cL_holds 186 = .ok (.iconst 0, 1) := by decide +kernel
theorem dL_holds_187 : decode cL_holds 187 = .ok (.istore_n 1, 1) := by decide +kernel
theorem dL_holds_188 : decode cL_holds 188 = .ok (.iinc 4 1, 3) := by decide +kernel
theorem dL_holds_191 : decode cL_holds 191 = .ok (.goto (-63), 3) := by decide +kernel
theorem dL_holds_194 : decode cL_holds 194 = .ok (.iconst 0, 1) := by decide +kernel
theorem dL_holds_195 : decode cL_holds 195 = .ok (.istore 4, 2) := by decide +kernel
theorem dL_holds_197 : decode cL_holds 197 = .ok (.iload 4, 2) := by decide +kernel
theorem dL_holds_199 : decode cL_holds 199 = .ok (.aload_n 0, 1) := by decide +kernel
theorem dL_holds_200 : decode cL_holds 200 = .ok (.iconst 3, 1) := by decide +kernel
theorem dL_holds_201 : decode cL_holds 201 = .ok (.invokevirtual 15, 3) := by decide +kernel
theorem dL_holds_204 : decode cL_holds 204 = .ok (.if_icmp .ge 92, 3) := by decide +kernel
theorem dL_holds_207 : decode cL_holds 207 = .ok (.iload_n 1, 1) := by decide +kernel
theorem dL_holds_208 : decode cL_holds 208 = .ok (.ifCond .eq 88, 3) := by decide +kernel
theorem dL_holds_211 : decode cL_holds 211 = .ok (.aload_n 0, 1) := by decide +kernel
theorem dL_holds_212 : decode cL_holds 212 = .ok (.iload 4, 2) := by decide +kernel
theorem dL_holds_214 : decode cL_holds 214 = .ok (.iconst 0, 1) := by decide +kernel
theorem dL_holds_215 : decode cL_holds 215 = .ok (.invokevirtual 22, 3) := by decide +kernel
theorem dL_holds_218 : decode cL_holds 218 = .ok (.iload_n 3, 1) := by decide +kernel
theorem dL_holds_219 : decode cL_holds 219 = .ok (.if_icmp .ne 59, 3) := by decide +kernel
theorem dL_holds_222 : decode cL_holds 222 = .ok (.aload_n 0, 1) := by decide +kernel
theorem dL_holds_223 : decode cL_holds 223 = .ok (.iload 4, 2) := by decide +kernel
theorem dL_holds_225 : decode cL_holds 225 = .ok (.iconst 5, 1) := by decide +kernel
theorem dL_holds_226 : decode cL_holds 226 = .ok (.invokevirtual 22, 3) := by decide +kernel
theorem dL_holds_229 : decode cL_holds 229 = .ok (.iconst 1, 1) := by decide +kernel
theorem dL_holds_230 : decode cL_holds 230 = .ok (.if_icmp .lt 48, 3) := by decide +kernel
theorem dL_holds_233 : decode cL_holds 233 = .ok (.aload_n 0, 1) := by decide +kernel
theorem dL_holds_234 : decode cL_holds 234 = .ok (.iload 4, 2) := by decide +kernel
theorem dL_holds_236 : decode cL_holds 236 = .ok (.iconst 5, 1) := by decide +kernel
theorem dL_holds_237 : decode cL_holds 237 = .ok (.invokevirtual 22, 3) := by decide +kernel
theorem dL_holds_240 : decode cL_holds 240 = .ok (.aload_n 0, 1) := by decide +kernel
theorem dL_holds_241 : decode cL_holds 241 = .ok (.iload 4, 2) := by decide +kernel
theorem dL_holds_243 : decode cL_holds 243 = .ok (.iconst 1, 1) := by decide +kernel
theorem dL_holds_244 : decode cL_holds 244 = .ok (.invokevirtual 22, 3) := by decide +kernel
theorem dL_holds_247 : decode cL_holds 247 = .ok (.if_icmp .gt 31, 3) := by decide +kernel
theorem dL_holds_250 : decode cL_holds 250 = .ok (.aload_n 0, 1) := by decide +kernel
theorem dL_holds_251 : decode cL_holds 251 = .ok (.iload 4, 2) := by decide +kernel
theorem dL_holds_253 : decode cL_holds 253 = .ok (.iconst 3, 1) := by decide +kernel
theorem dL_holds_254 : decode cL_holds 254 = .ok (.invokevirtual 22, 3) := by decide +kernel
theorem dL_holds_257 : decode cL_holds 257 = .ok (.aload_n 0, 1) := by decide +kernel
theorem dL_holds_258 : decode cL_holds 258 = .ok (.iload 4, 2) := by decide +kernel
theorem dL_holds_260 : decode cL_holds 260 = .ok (.iconst 1, 1) := by decide +kernel
theorem dL_holds_261 : decode cL_holds 261 = .ok (.invokevirtual 22, 3) := by decide +kernel
theorem dL_holds_264 : decode cL_holds 264 = .ok (.aload_n 0, 1) := by decide +kernel
theorem dL_holds_265 : decode cL_holds 265 = .ok (.bipush 20, 2) := by decide +kernel
theorem dL_holds_267 : decode cL_holds 267 = .ok (.invokevirtual 15, 3) := by decide +kernel
theorem dL_holds_270 : decode cL_holds 270 = .ok (.imul, 1) := by decide +kernel
theorem dL_holds_271 : decode cL_holds 271 = .ok (.if_icmp .ne 7, 3) := by decide +kernel
theorem dL_holds_274 : decode cL_holds 274 = .ok (.iconst 1, 1) := by decide +kernel
theorem dL_holds_275 : decode cL_holds 275 = .ok (.goto 4, 3) := by decide +kernel
theorem dL_holds_278 : decode cL_holds 278 = .ok (.iconst 0, 1) := by decide +kernel
theorem dL_holds_279 : decode cL_holds 279 = .ok (.istore_n 1, 1) := by decide +kernel
theorem dL_holds_280 : decode cL_holds 280 = .ok (.iload_n 3, 1) := by decide +kernel
theorem dL_holds_281 : decode cL_holds 281 = .ok (.aload_n 0, 1) := by decide +kernel
theorem dL_holds_282 : decode cL_holds 282 = .ok (.iload 4, 2) := by decide +kernel
theorem dL_holds_284 : decode cL_holds 284 = .ok (.iconst 1, 1) := by decide +kernel
theorem dL_holds_285 : decode cL_holds 285 = .ok (.invokevirtual 22, 3) := by decide +kernel
theorem dL_holds_288 : decode cL_holds 288 = .ok (.iadd, 1) := by decide +kernel
theorem dL_holds_289 : decode cL_holds 289 = .ok (.istore_n 3, 1) := by decide +kernel
theorem dL_holds_290 : decode cL_holds 290 = .ok (.iinc 4 1, 3) := by decide +kernel
theorem dL_holds_293 : decode cL_holds 293 = .ok (.goto (-96), 3) := by decide +kernel
theorem dL_holds_296 : decode cL_holds 296 = .ok (.iconst 0, 1) := by decide +kernel
theorem dL_holds_297 : decode cL_holds 297 = .ok (.istore 4, 2) := by decide +kernel
theorem dL_holds_299 : decode cL_holds 299 = .ok (.iconst 0, 1) := by decide +kernel
theorem dL_holds_300 : decode cL_holds 300 = .ok (.istore 5, 2) := by decide +kernel
theorem dL_holds_302 : decode cL_holds 302 = .ok (.iload 5, 2) := by decide +kernel
theorem dL_holds_304 : decode cL_holds 304 = .ok (.aload_n 0, 1) := by decide +kernel
theorem dL_holds_305 : decode cL_holds 305 = .ok (.iconst 1, 1) := by decide +kernel
theorem dL_holds_306 : decode cL_holds 306 = .ok (.invokevirtual 15, 3) := by decide +kernel
theorem dL_holds_309 : decode cL_holds 309 = .ok (.if_icmp .ge 67, 3) := by decide +kernel
theorem dL_holds_312 : decode cL_holds 312 = .ok (.iload_n 1, 1) := by decide +kernel
theorem dL_holds_313 : decode cL_holds 313 = .ok (.ifCond .eq 63, 3) := by decide +kernel
theorem dL_holds_316 : decode cL_holds 316 = .ok (.aload_n 0, 1) := by decide +kernel
theorem dL_holds_317 : decode cL_holds 317 = .ok (.iload 5, 2) := by decide +kernel
theorem dL_holds_319 : decode cL_holds 319 = .ok (.iconst 0, 1) := by decide +kernel
theorem dL_holds_320 : decode cL_holds 320 = .ok (.invokevirtual 25, 3) := by decide +kernel
theorem dL_holds_323 : decode cL_holds 323 = .ok (.iload 4, 2) := by decide +kernel
theorem dL_holds_325 : decode cL_holds 325 = .ok (.if_icmp .lt 34, 3) := by decide +kernel
theorem dL_holds_328 : decode cL_holds 328 = .ok (.aload_n 0, 1) := by decide +kernel
theorem dL_holds_329 : decode cL_holds 329 = .ok (.iload 5, 2) := by decide +kernel
theorem dL_holds_331 : decode cL_holds 331 = .ok (.iconst 3, 1) := by decide +kernel
theorem dL_holds_332 : decode cL_holds 332 = .ok (.invokevirtual 25, 3) := by decide +kernel
theorem dL_holds_335 : decode cL_holds 335 = .ok (.ifCond .le 24, 3) := by decide +kernel
theorem dL_holds_338 : decode cL_holds 338 = .ok (.aload_n 0, 1) := by decide +kernel
theorem dL_holds_339 : decode cL_holds 339 = .ok (.iload 5, 2) := by decide +kernel
theorem dL_holds_341 : decode cL_holds 341 = .ok (.iconst 3, 1) := by decide +kernel
theorem dL_holds_342 : decode cL_holds 342 = .ok (.invokevirtual 25, 3) := by decide +kernel
theorem dL_holds_345 : decode cL_holds 345 = .ok (.aload_n 0, 1) := by decide +kernel
theorem dL_holds_346 : decode cL_holds 346 = .ok (.iload 5, 2) := by decide +kernel
theorem dL_holds_348 : decode cL_holds 348 = .ok (.iconst 1, 1) := by decide +kernel
theorem dL_holds_349 : decode cL_holds 349 = .ok (.invokevirtual 25, 3) := by decide +kernel
theorem dL_holds_352 : decode cL_holds 352 = .ok (.if_icmp .gt 7, 3) := by decide +kernel
theorem dL_holds_355 : decode cL_holds 355 = .ok (.iconst 1, 1) := by decide +kernel
theorem dL_holds_356 : decode cL_holds 356 = .ok (.goto 4, 3) := by decide +kernel
theorem dL_holds_359 : decode cL_holds 359 = .ok (.iconst 0, 1) := by decide +kernel
theorem dL_holds_360 : decode cL_holds 360 = .ok (.istore_n 1, 1) := by decide +kernel
theorem dL_holds_361 : decode cL_holds 361 = .ok (.aload_n 0, 1) := by decide +kernel
theorem dL_holds_362 : decode cL_holds 362 = .ok (.iload 5, 2) := by decide +kernel
theorem dL_holds_364 : decode cL_holds 364 = .ok (.iconst 0, 1) := by decide +kernel
theorem dL_holds_365 : decode cL_holds 365 = .ok (.invokevirtual 25, 3) := by decide +kernel
theorem dL_holds_368 : decode cL_holds 368 = .ok (.istore 4, 2) := by decide +kernel
theorem dL_holds_370 : decode cL_holds 370 = .ok (.iinc 5 1, 3) := by decide +kernel
theorem dL_holds_373 : decode cL_holds 373 = .ok (.goto (-71), 3) := by decide +kernel
theorem dL_holds_376 : decode cL_holds 376 = .ok (.iload_n 1, 1) := by decide +kernel
theorem dL_holds_377 : decode cL_holds 377 = .ok (.ifCond .eq 38, 3) := by decide +kernel
theorem dL_holds_380 : decode cL_holds 380 = .ok (.iload_n 3, 1) := by decide +kernel
theorem dL_holds_381 : decode cL_holds 381 = .ok (.iload_n 2, 1) := by decide +kernel
theorem dL_holds_382 : decode cL_holds 382 = .ok (.if_icmp .ne 33, 3) := by decide +kernel
theorem dL_holds_385 : decode cL_holds 385 = .ok (.iload_n 2, 1) := by decide +kernel
theorem dL_holds_386 : decode cL_holds 386 = .ok (.ifCond .ne 7, 3) := by decide +kernel
theorem dL_holds_389 : decode cL_holds 389 = .ok (.iconst 1, 1) := by decide +kernel
theorem dL_holds_390 : decode cL_holds 390 = .ok (.goto 4, 3) := by decide +kernel
theorem dL_holds_393 : decode cL_holds 393 = .ok (.iconst 0, 1) := by decide +kernel
theorem dL_holds_394 : decode cL_holds 394 = .ok (.aload_n 0, 1) := by decide +kernel
theorem dL_holds_395 : decode cL_holds 395 = .ok (.invokevirtual 28, 3) := by decide +kernel
theorem dL_holds_398 : decode cL_holds 398 = .ok (.bipush (-4), 2) := by decide +kernel
theorem dL_holds_400 : decode cL_holds 400 = .ok (.if_icmp .ne 7, 3) := by decide +kernel
theorem dL_holds_403 : decode cL_holds 403 = .ok (.iconst 1, 1) := by decide +kernel
theorem dL_holds_404 : decode cL_holds 404 = .ok (.goto 4, 3) := by decide +kernel
theorem dL_holds_407 : decode cL_holds 407 = .ok (.iconst 0, 1) := by decide +kernel
theorem dL_holds_408 : decode cL_holds 408 = .ok (.if_icmp .ne 7, 3) := by decide +kernel
theorem dL_holds_411 : decode cL_holds 411 = .ok (.iconst 1, 1) := by decide +kernel
theorem dL_holds_412 : decode cL_holds 412 = .ok (.goto 4, 3) := by decide +kernel
theorem dL_holds_415 : decode cL_holds 415 = .ok (.iconst 0, 1) := by decide +kernel
theorem dL_holds_416 : decode cL_holds 416 = .ok (.ireturn, 1) := by decide +kernel
theorem dL_parted_0 : decode cL_parted 0 = .ok (.aload_n 0, 1) := by decide +kernel
theorem dL_parted_1 : decode cL_parted 1 = .ok (.iload_n 1, 1) := by decide +kernel
theorem dL_parted_2 : decode cL_parted 2 = .ok (.invokevirtual 32, 3) := by decide +kernel
theorem dL_parted_5 : decode cL_parted 5 = .ok (.istore_n 3, 1) := by decide +kernel
theorem dL_parted_6 : decode cL_parted 6 = .ok (.iload_n 3, 1) := by decide +kernel
theorem dL_parted_7 : decode cL_parted 7 = .ok (.ifCond .ge 28, 3) := by decide +kernel
theorem dL_parted_10 : decode cL_parted 10 = .ok (.iload_n 3, 1) := by decide +kernel
theorem dL_parted_11 : decode cL_parted 11 = .ok (.bipush (-3), 2) := by decide +kernel
theorem dL_parted_13 : decode cL_parted 13 = .ok (.if_icmp .ne 20, 3) := by decide +kernel
theorem dL_parted_16 : decode cL_parted 16 = .ok (.aload_n 0, 1) := by decide +kernel
theorem dL_parted_17 : decode cL_parted 17 = .ok (.iconst 0, 1) := by decide +kernel
theorem dL_parted_18 : decode cL_parted 18 = .ok (.invokevirtual 15, 3) := by decide +kernel
theorem dL_parted_21 : decode cL_parted 21 = .ok (.iload_n 1, 1) := by decide +kernel
theorem dL_parted_22 : decode cL_parted 22 = .ok (.iadd, 1) := by decide +kernel
theorem dL_parted_23 : decode cL_parted 23 = .ok (.sipush 5000, 3) := by decide +kernel
theorem dL_parted_26 : decode cL_parted 26 = .ok (.if_icmp .le 7, 3) := by decide +kernel
theorem dL_parted_29 : decode cL_parted 29 = .ok (.iconst 1, 1) := by decide +kernel
theorem dL_parted_30 : decode cL_parted 30 = .ok (.goto 4, 3) := by decide +kernel
theorem dL_parted_33 : decode cL_parted 33 = .ok (.iconst 0, 1) := by decide +kernel
theorem dL_parted_34 : decode cL_parted 34 = .ok (.ireturn, 1) := by decide +kernel
theorem dL_parted_35 : decode cL_parted 35 = .ok (.bipush 12, 2) := by decide +kernel
theorem dL_parted_37 : decode cL_parted 37 = .ok (.newarray .int, 2) := by decide +kernel
theorem dL_parted_39 : decode cL_parted 39 = .ok (.astore 4, 2) := by decide +kernel
theorem dL_parted_41 : decode cL_parted 41 = .ok (.iconst 0, 1) := by decide +kernel
theorem dL_parted_42 : decode cL_parted 42 = .ok (.istore 5, 2) := by decide +kernel
theorem dL_parted_44 : decode cL_parted 44 = .ok (.iload 5, 2) := by decide +kernel
theorem dL_parted_46 : decode cL_parted 46 = .ok (.bipush 12, 2) := by decide +kernel
theorem dL_parted_48 : decode cL_parted 48 = .ok (.if_icmp .ge 52, 3) := by decide +kernel
theorem dL_parted_51 : decode cL_parted 51 = .ok (.aload 4, 2) := by decide +kernel
theorem dL_parted_53 : decode cL_parted 53 = .ok (.iload 5, 2) := by decide +kernel
theorem dL_parted_55 : decode cL_parted 55 = .ok (.iload 5, 2) := by decide +kernel
theorem dL_parted_57 : decode cL_parted 57 = .ok (.iconst 5, 1) := by decide +kernel
theorem dL_parted_58 : decode cL_parted 58 = .ok (.if_icmp .ge 12, 3) := by decide +kernel
theorem dL_parted_61 : decode cL_parted 61 = .ok (.aload_n 0, 1) := by decide +kernel
theorem dL_parted_62 : decode cL_parted 62 = .ok (.iload 5, 2) := by decide +kernel
theorem dL_parted_64 : decode cL_parted 64 = .ok (.invokevirtual 9, 3) := by decide +kernel
theorem dL_parted_67 : decode cL_parted 67 = .ok (.goto 26, 3) := by decide +kernel
theorem dL_parted_70 : decode cL_parted 70 = .ok (.iload 5, 2) := by decide +kernel
theorem dL_parted_72 : decode cL_parted 72 = .ok (.bipush 11, 2) := by decide +kernel
theorem dL_parted_74 : decode cL_parted 74 = .ok (.if_icmp .ge 14, 3) := by decide +kernel
theorem dL_parted_77 : decode cL_parted 77 = .ok (.aload_n 0, 1) := by decide +kernel
theorem dL_parted_78 : decode cL_parted 78 = .ok (.iload 5, 2) := by decide +kernel
theorem dL_parted_80 : decode cL_parted 80 = .ok (.iconst 1, 1) := by decide +kernel
theorem dL_parted_81 : decode cL_parted 81 = .ok (.isub, 1) := by decide +kernel
theorem dL_parted_82 : decode cL_parted 82 = .ok (.invokevirtual 15, 3) := by decide +kernel
theorem dL_parted_85 : decode cL_parted 85 = .ok (.goto 8, 3) := by decide +kernel
theorem dL_parted_88 : decode cL_parted 88 = .ok (.aload_n 0, 1) := by decide +kernel
theorem dL_parted_89 : decode cL_parted 89 = .ok (.iconst 2, 1) := by decide +kernel
theorem dL_parted_90 : decode cL_parted 90 = .ok (.invokevirtual 15, 3) := by decide +kernel
theorem dL_parted_93 : decode cL_parted 93 = .ok (.iastore, 1) := by decide +kernel
theorem dL_parted_94 : decode cL_parted 94 = .ok (.iinc 5 1, 3) := by decide +kernel
theorem dL_parted_97 : decode cL_parted 97 = .ok (.goto (-53), 3) := by decide +kernel
theorem dL_parted_100 : decode cL_parted 100 = .ok (.aload_n 0, 1) := by decide +kernel
theorem dL_parted_101 : decode cL_parted 101 = .ok (.invokestatic 35, 3) := by decide +kernel
theorem dL_parted_104 : decode cL_parted 104 = .ok (.ifCond .eq 14, 3) := by decide +kernel
theorem dL_parted_107 : decode cL_parted 107 = .ok (.aload_n 0, 1) := by decide +kernel
theorem dL_parted_108 : decode cL_parted 108 = .ok (.invokevirtual 41, 3) := by decide +kernel
theorem dL_parted_111 : decode cL_parted 111 = .ok (.ifCond .lt 7, 3) := by decide +kernel
theorem dL_parted_114 : decode cL_parted 114 = .ok (.iconst 1, 1) := by decide +kernel
theorem dL_parted_115 : decode cL_parted 115 = .ok (.goto 4, 3) := by decide +kernel
theorem dL_parted_118 : decode cL_parted 118 = .ok (.iconst 0, 1) := by decide +kernel
theorem dL_parted_119 : decode cL_parted 119 = .ok (.istore 5, 2) := by decide +kernel
theorem dL_parted_121 : decode cL_parted 121 = .ok (.iload_n 2, 1) := by decide +kernel
theorem dL_parted_122 : decode cL_parted 122 = .ok (.ifCond .le 11, 3) := by decide +kernel
theorem dL_parted_125 : decode cL_parted 125 = .ok (.aload_n 0, 1) := by decide +kernel
theorem dL_parted_126 : decode cL_parted 126 = .ok (.iload_n 2, 1) := by decide +kernel
theorem dL_parted_127 : decode cL_parted 127 = .ok (.invokevirtual 32, 3) := by decide +kernel
theorem dL_parted_130 : decode cL_parted 130 = .ok (.goto 4, 3) := by decide +kernel
theorem dL_parted_133 : decode cL_parted 133 = .ok (.iconst 0, 1) := by decide +kernel
theorem dL_parted_134 : decode cL_parted 134 = .ok (.istore 6, 2) := by decide +kernel
theorem dL_parted_136 : decode cL_parted 136 = .ok (.iload_n 2, 1) := by decide +kernel
theorem dL_parted_137 : decode cL_parted 137 = .ok (.iload_n 1, 1) := by decide +kernel
theorem dL_parted_138 : decode cL_parted 138 = .ok (.if_icmp .ge 13, 3) := by decide +kernel
theorem dL_parted_141 : decode cL_parted 141 = .ok (.aload_n 0, 1) := by decide +kernel
theorem dL_parted_142 : decode cL_parted 142 = .ok (.iload_n 1, 1) := by decide +kernel
theorem dL_parted_143 : decode cL_parted 143 = .ok (.iload_n 2, 1) := by decide +kernel
theorem dL_parted_144 : decode cL_parted 144 = .ok (.isub, 1) := by decide +kernel
theorem dL_parted_145 : decode cL_parted 145 = .ok (.invokevirtual 32, 3) := by decide +kernel
theorem dL_parted_148 : decode cL_parted 148 = .ok (.goto 4, 3) := by decide +kernel
theorem dL_parted_151 : decode cL_parted 151 = .ok (.iconst 0, 1) := by decide +kernel
theorem dL_parted_152 : decode cL_parted 152 = .ok (.istore 7, 2) := by decide +kernel
theorem dL_parted_154 : decode cL_parted 154 = .ok (.iload 5, 2) := by decide +kernel
theorem dL_parted_156 : decode cL_parted 156 = .ok (.ifCond .eq 16, 3) := by decide +kernel
theorem dL_parted_159 : decode cL_parted 159 = .ok (.iload 6, 2) := by decide +kernel
theorem dL_parted_161 : decode cL_parted 161 = .ok (.iload 7, 2) := by decide +kernel
theorem dL_parted_163 : decode cL_parted 163 = .ok (.iadd, 1) := by decide +kernel
theorem dL_parted_164 : decode cL_parted 164 = .ok (.iload_n 3, 1) := by decide +kernel
theorem dL_parted_165 : decode cL_parted 165 = .ok (.if_icmp .ne 7, 3) := by decide +kernel
theorem dL_parted_168 : decode cL_parted 168 = .ok (.iconst 1, 1) := by decide +kernel
theorem dL_parted_169 : decode cL_parted 169 = .ok (.goto 4, 3) := by decide +kernel
theorem dL_parted_172 : decode cL_parted 172 = .ok (.iconst 0, 1) := by decide +kernel
theorem dL_parted_173 : decode cL_parted 173 = .ok (.istore 5, 2) := by decide +kernel
theorem dL_parted_175 : decode cL_parted 175 = .ok (.iconst 0, 1) := by decide +kernel
theorem dL_parted_176 : decode cL_parted 176 = .ok (.istore 8, 2) := by decide +kernel
theorem dL_parted_178 : decode cL_parted 178 = .ok (.iload 8, 2) := by decide +kernel
theorem dL_parted_180 : decode cL_parted 180 = .ok (.bipush 12, 2) := by decide +kernel
theorem dL_parted_182 : decode cL_parted 182 = .ok (.if_icmp .ge 67, 3) := by decide +kernel
theorem dL_parted_185 : decode cL_parted 185 = .ok (.iload 5, 2) := by decide +kernel
theorem dL_parted_187 : decode cL_parted 187 = .ok (.ifCond .eq 62, 3) := by decide +kernel
theorem dL_parted_190 : decode cL_parted 190 = .ok (.aload 4, 2) := by decide +kernel
theorem dL_parted_192 : decode cL_parted 192 = .ok (.iload 8, 2) := by decide +kernel
theorem dL_parted_194 : decode cL_parted 194 = .ok (.iaload, 1) := by decide +kernel
theorem dL_parted_195 : decode cL_parted 195 = .ok (.iload 8, 2) := by decide +kernel
theorem dL_parted_197 : decode cL_parted 197 = .ok (.iconst 5, 1) := by decide +kernel
theorem dL_parted_198 : decode cL_parted 198 = .ok (.if_icmp .ge 12, 3) := by decide +kernel
theorem dL_parted_201 : decode cL_parted 201 = .ok (.aload_n 0, 1) := by decide +kernel
theorem dL_parted_202 : decode cL_parted 202 = .ok (.iload 8, 2) := by decide +kernel
theorem dL_parted_204 : decode cL_parted 204 = .ok (.invokevirtual 9, 3) := by decide +kernel
theorem dL_parted_207 : decode cL_parted 207 = .ok (.goto 26, 3) := by decide +kernel
theorem dL_parted_210 : decode cL_parted 210 = .ok (.iload 8, 2) := by decide +kernel
theorem dL_parted_212 : decode cL_parted 212 = .ok (.bipush 11, 2) := by decide +kernel
theorem dL_parted_214 : decode cL_parted 214 = .ok (.if_icmp .ge 14, 3) := by decide +kernel
theorem dL_parted_217 : decode cL_parted 217 = .ok (.aload_n 0, 1) := by decide +kernel
theorem dL_parted_218 : decode cL_parted 218 = .ok (.iload 8, 2) := by decide +kernel
theorem dL_parted_220 : decode cL_parted 220 = .ok (.iconst 1, 1) := by decide +kernel
theorem dL_parted_221 : decode cL_parted 221 = .ok (.isub, 1) := by decide +kernel
theorem dL_parted_222 : decode cL_parted 222 = .ok (.invokevirtual 15, 3) := by decide +kernel
theorem dL_parted_225 : decode cL_parted 225 = .ok (.goto 8, 3) := by decide +kernel
theorem dL_parted_228 : decode cL_parted 228 = .ok (.aload_n 0, 1) := by decide +kernel
theorem dL_parted_229 : decode cL_parted 229 = .ok (.iconst 2, 1) := by decide +kernel
theorem dL_parted_230 : decode cL_parted 230 = .ok (.invokevirtual 15, 3) := by decide +kernel
theorem dL_parted_233 : decode cL_parted 233 = .ok (.if_icmp .ne 7, 3) := by decide +kernel
theorem dL_parted_236 : decode cL_parted 236 = .ok (.iconst 1, 1) := by decide +kernel
theorem dL_parted_237 : decode cL_parted 237 = .ok (.goto 4, 3) := by decide +kernel
theorem dL_parted_240 : decode cL_parted 240 = .ok (.iconst 0, 1) := by decide +kernel
theorem dL_parted_241 : decode cL_parted 241 = .ok (.istore 5, 2) := by decide +kernel
theorem dL_parted_243 : decode cL_parted 243 = .ok (.iinc 8 1, 3) := by decide +kernel
theorem dL_parted_246 : decode cL_parted 246 = .ok (.goto (-68), 3) := by decide +kernel
theorem dL_parted_249 : decode cL_parted 249 = .ok (.iload 5, 2) := by decide +kernel
theorem dL_parted_251 : decode cL_parted 251 = .ok (.ireturn, 1) := by decide +kernel
theorem dL_law_0 : decode cL_law 0 = .ok (.new 10, 3) := by decide +kernel
theorem dL_law_3 : decode cL_law 3 = .ok (.dup, 1) := by decide +kernel
theorem dL_law_4 : decode cL_law 4 = .ok (.invokespecial 44, 3) := by decide +kernel
theorem dL_law_7 : decode cL_law 7 = .ok (.astore_n 1, 1) := by decide +kernel
theorem dL_law_8 : decode cL_law 8 = .ok (.aload_n 1, 1) := by decide +kernel
theorem dL_law_9 : decode cL_law 9 = .ok (.invokestatic 35, 3) := by decide +kernel
theorem dL_law_12 : decode cL_law 12 = .ok (.ifCond .eq 79, 3) := by decide +kernel
theorem dL_law_15 : decode cL_law 15 = .ok (.aload_n 1, 1) := by decide +kernel
theorem dL_law_16 : decode cL_law 16 = .ok (.iconst 0, 1) := by decide +kernel
theorem dL_law_17 : decode cL_law 17 = .ok (.bipush 20, 2) := by decide +kernel
theorem dL_law_19 : decode cL_law 19 = .ok (.aload_n 0, 1) := by decide +kernel
theorem dL_law_20 : decode cL_law 20 = .ok (.iconst 0, 1) := by decide +kernel
theorem dL_law_21 : decode cL_law 21 = .ok (.invokestatic 45, 3) := by decide +kernel
theorem dL_law_24 : decode cL_law 24 = .ok (.sipush 150, 3) := by decide +kernel
theorem dL_law_27 : decode cL_law 27 = .ok (.irem, 1) := by decide +kernel
theorem dL_law_28 : decode cL_law 28 = .ok (.iadd, 1) := by decide +kernel
theorem dL_law_29 : decode cL_law 29 = .ok (.invokevirtual 49, 3) := by decide +kernel
theorem dL_law_32 : decode cL_law 32 = .ok (.bipush 100, 2) := by decide +kernel
theorem dL_law_34 : decode cL_law 34 = .ok (.if_icmp .ne 57, 3) := by decide +kernel
theorem dL_law_37 : decode cL_law 37 = .ok (.aload_n 1, 1) := by decide +kernel
theorem dL_law_38 : decode cL_law 38 = .ok (.iconst 1, 1) := by decide +kernel
theorem dL_law_39 : decode cL_law 39 = .ok (.aload_n 0, 1) := by decide +kernel
theorem dL_law_40 : decode cL_law 40 = .ok (.iconst 1, 1) := by decide +kernel
theorem dL_law_41 : decode cL_law 41 = .ok (.invokestatic 45, 3) := by decide +kernel
theorem dL_law_44 : decode cL_law 44 = .ok (.bipush 10, 2) := by decide +kernel
theorem dL_law_46 : decode cL_law 46 = .ok (.irem, 1) := by decide +kernel
theorem dL_law_47 : decode cL_law 47 = .ok (.invokevirtual 49, 3) := by decide +kernel
theorem dL_law_50 : decode cL_law 50 = .ok (.iconst 2, 1) := by decide +kernel
theorem dL_law_51 : decode cL_law 51 = .ok (.if_icmp .ne 40, 3) := by decide +kernel
theorem dL_law_54 : decode cL_law 54 = .ok (.aload_n 1, 1) := by decide +kernel
theorem dL_law_55 : decode cL_law 55 = .ok (.iconst 4, 1) := by decide +kernel
theorem dL_law_56 : decode cL_law 56 = .ok (.aload_n 0, 1) := by decide +kernel
theorem dL_law_57 : decode cL_law 57 = .ok (.iconst 2, 1) := by decide +kernel
theorem dL_law_58 : decode cL_law 58 = .ok (.invokestatic 45, 3) := by decide +kernel
theorem dL_law_61 : decode cL_law 61 = .ok (.iconst 5, 1) := by decide +kernel
theorem dL_law_62 : decode cL_law 62 = .ok (.irem, 1) := by decide +kernel
theorem dL_law_63 : decode cL_law 63 = .ok (.invokevirtual 49, 3) := by decide +kernel
theorem dL_law_66 : decode cL_law 66 = .ok (.ifCond .ne 25, 3) := by decide +kernel
theorem dL_law_69 : decode cL_law 69 = .ok (.aload_n 1, 1) := by decide +kernel
theorem dL_law_70 : decode cL_law 70 = .ok (.iconst 2, 1) := by decide +kernel
theorem dL_law_71 : decode cL_law 71 = .ok (.aload_n 0, 1) := by decide +kernel
theorem dL_law_72 : decode cL_law 72 = .ok (.iconst 3, 1) := by decide +kernel
theorem dL_law_73 : decode cL_law 73 = .ok (.invokestatic 45, 3) := by decide +kernel
theorem dL_law_76 : decode cL_law 76 = .ok (.bipush 60, 2) := by decide +kernel
theorem dL_law_78 : decode cL_law 78 = .ok (.irem, 1) := by decide +kernel
theorem dL_law_79 : decode cL_law 79 = .ok (.invokevirtual 49, 3) := by decide +kernel
theorem dL_law_82 : decode cL_law 82 = .ok (.bipush 10, 2) := by decide +kernel
theorem dL_law_84 : decode cL_law 84 = .ok (.if_icmp .ne 7, 3) := by decide +kernel
theorem dL_law_87 : decode cL_law 87 = .ok (.iconst 1, 1) := by decide +kernel
theorem dL_law_88 : decode cL_law 88 = .ok (.goto 4, 3) := by decide +kernel
theorem dL_law_91 : decode cL_law 91 = .ok (.iconst 0, 1) := by decide +kernel
theorem dL_law_92 : decode cL_law 92 = .ok (.istore_n 2, 1) := by decide +kernel
theorem dL_law_93 : decode cL_law 93 = .ok (.iconst 0, 1) := by decide +kernel
theorem dL_law_94 : decode cL_law 94 = .ok (.istore_n 3, 1) := by decide +kernel
theorem dL_law_95 : decode cL_law 95 = .ok (.iload_n 3, 1) := by decide +kernel
theorem dL_law_96 : decode cL_law 96 = .ok (.bipush 20, 2) := by decide +kernel
theorem dL_law_98 : decode cL_law 98 = .ok (.if_icmp .ge 323, 3) := by decide +kernel
theorem dL_law_101 : decode cL_law 101 = .ok (.iload_n 2, 1) := by decide +kernel
theorem dL_law_102 : decode cL_law 102 = .ok (.ifCond .eq 319, 3) := by decide +kernel
theorem dL_law_105 : decode cL_law 105 = .ok (.aload_n 0, 1) := by decide +kernel
theorem dL_law_106 : decode cL_law 106 = .ok (.iconst 4, 1) := by decide +kernel
theorem dL_law_107 : decode cL_law 107 = .ok (.iload_n 3, 1) := by decide +kernel
theorem dL_law_108 : decode cL_law 108 = .ok (.iadd, 1) := by decide +kernel
theorem dL_law_109 : decode cL_law 109 = .ok (.invokestatic 45, 3) := by decide +kernel
theorem dL_law_112 : decode cL_law 112 = .ok (.istore 4, 2) := by decide +kernel
theorem dL_law_114 : decode cL_law 114 = .ok (.aload_n 1, 1) := by decide +kernel
theorem dL_law_115 : decode cL_law 115 = .ok (.aload_n 1, 1) := by decide +kernel
theorem dL_law_116 : decode cL_law 116 = .ok (.iconst 0, 1) := by decide +kernel
theorem dL_law_117 : decode cL_law 117 = .ok (.invokevirtual 15, 3) := by decide +kernel
theorem dL_law_120 : decode cL_law 120 = .ok (.iload 4, 2) := by decide +kernel
theorem dL_law_122 : decode cL_law 122 = .ok (.bipush 60, 2) := by decide +kernel
theorem dL_law_124 : decode cL_law 124 = .ok (.irem, 1) := by decide +kernel
theorem dL_law_125 : decode cL_law 125 = .ok (.iadd, 1) := by decide +kernel
theorem dL_law_126 : decode cL_law 126 = .ok (.iconst 1, 1) := by decide +kernel
theorem dL_law_127 : decode cL_law 127 = .ok (.iload 4, 2) := by decide +kernel
theorem dL_law_129 : decode cL_law 129 = .ok (.bipush 6, 2) := by decide +kernel
theorem dL_law_131 : decode cL_law 131 = .ok (.ishr, 1) := by decide +kernel
theorem dL_law_132 : decode cL_law 132 = .ok (.bipush 80, 2) := by decide +kernel
theorem dL_law_134 : decode cL_law 134 = .ok (.irem, 1) := by decide +kernel
theorem dL_law_135 : decode cL_law 135 = .ok (.iadd, 1) := by decide +kernel
theorem dL_law_136 : decode cL_law 136 = .ok (.iconst 1, 1) := by decide +kernel
theorem dL_law_137 : decode cL_law 137 = .ok (.iload 4, 2) := by decide +kernel
theorem dL_law_139 : decode cL_law 139 = .ok (.bipush 12, 2) := by decide +kernel
theorem dL_law_141 : decode cL_law 141 = .ok (.ishr, 1) := by decide +kernel
theorem dL_law_142 : decode cL_law 142 = .ok (.bipush 120, 2) := by decide +kernel
theorem dL_law_144 : decode cL_law 144 = .ok (.irem, 1) := by decide +kernel
theorem dL_law_145 : decode cL_law 145 = .ok (.iadd, 1) := by decide +kernel
theorem dL_law_146 : decode cL_law 146 = .ok (.invokevirtual 52, 3) := by decide +kernel
theorem dL_law_149 : decode cL_law 149 = .ok (.istore 5, 2) := by decide +kernel
theorem dL_law_151 : decode cL_law 151 = .ok (.iload 5, 2) := by decide +kernel
theorem dL_law_153 : decode cL_law 153 = .ok (.bipush (-3), 2) := by decide +kernel
theorem dL_law_155 : decode cL_law 155 = .ok (.if_icmp .ne 13, 3) := by decide +kernel
theorem dL_law_158 : decode cL_law 158 = .ok (.aload_n 1, 1) := by decide +kernel
theorem dL_law_159 : decode cL_law 159 = .ok (.iconst 1, 1) := by decide +kernel
theorem dL_law_160 : decode cL_law 160 = .ok (.invokevirtual 15, 3) := by decide +kernel
theorem dL_law_163 : decode cL_law 163 = .ok (.bipush 12, 2) := by decide +kernel
theorem dL_law_165 : decode cL_law 165 = .ok (.if_icmp .eq 28, 3) := by decide +kernel
theorem dL_law_168 : decode cL_law 168 = .ok (.iload 5, 2) := by decide +kernel
theorem dL_law_170 : decode cL_law 170 = .ok (.ifCond .lt 27, 3) := by decide +kernel
theorem dL_law_173 : decode cL_law 173 = .ok (.aload_n 1, 1) := by decide +kernel
theorem dL_law_174 : decode cL_law 174 = .ok (.iload 5, 2) := by decide +kernel
theorem dL_law_176 : decode cL_law 176 = .ok (.iconst 2, 1) := by decide +kernel
theorem dL_law_177 : decode cL_law 177 = .ok (.invokevirtual 25, 3) := by decide +kernel
theorem dL_law_180 : decode cL_law 180 = .ok (.iconst 1, 1) := by decide +kernel
theorem dL_law_181 : decode cL_law 181 = .ok (.iload 4, 2) := by decide +kernel
theorem dL_law_183 : decode cL_law 183 = .ok (.bipush 12, 2) := by decide +kernel
theorem dL_law_185 : decode cL_law 185 = .ok (.ishr, 1) := by decide +kernel
theorem dL_law_186 : decode cL_law 186 = .ok (.bipush 120, 2) := by decide +kernel
theorem dL_law_188 : decode cL_law 188 = .ok (.irem, 1) := by decide +kernel
theorem dL_law_189 : decode cL_law 189 = .ok (.iadd, 1) := by decide +kernel
theorem dL_law_190 : decode cL_law 190 = .ok (.if_icmp .ne 7, 3) := by decide +kernel
theorem dL_law_193 : decode cL_law 193 = .ok (.iconst 1, 1) := by decide +kernel
theorem dL_law_194 : decode cL_law 194 = .ok (.goto 4, 3) := by decide +kernel
theorem dL_law_197 : decode cL_law 197 = .ok (.iconst 0, 1) := by decide +kernel
theorem dL_law_198 : decode cL_law 198 = .ok (.istore_n 2, 1) := by decide +kernel
theorem dL_law_199 : decode cL_law 199 = .ok (.iload 4, 2) := by decide +kernel
theorem dL_law_201 : decode cL_law 201 = .ok (.iconst 5, 1) := by decide +kernel
theorem dL_law_202 : decode cL_law 202 = .ok (.irem, 1) := by decide +kernel
theorem dL_law_203 : decode cL_law 203 = .ok (.ifCond .ne 33, 3) := by decide +kernel
theorem dL_law_206 : decode cL_law 206 = .ok (.iload_n 2, 1) := by decide +kernel
theorem dL_law_207 : decode cL_law 207 = .ok (.ifCond .eq 27, 3) := by decide +kernel
theorem dL_law_210 : decode cL_law 210 = .ok (.aload_n 1, 1) := by decide +kernel
theorem dL_law_211 : decode cL_law 211 = .ok (.invokevirtual 56, 3) := by decide +kernel
theorem dL_law_214 : decode cL_law 214 = .ok (.ifCond .lt 20, 3) := by decide +kernel
theorem dL_law_217 : decode cL_law 217 = .ok (.aload_n 1, 1) := by decide +kernel
theorem dL_law_218 : decode cL_law 218 = .ok (.invokevirtual 59, 3) := by decide +kernel
theorem dL_law_221 : decode cL_law 221 = .ok (.aload_n 1, 1) := by decide +kernel
theorem dL_law_222 : decode cL_law 222 = .ok (.bipush 26, 2) := by decide +kernel
theorem dL_law_224 : decode cL_law 224 = .ok (.invokevirtual 15, 3) := by decide +kernel
theorem dL_law_227 : decode cL_law 227 = .ok (.if_icmp .ne 7, 3) := by decide +kernel
theorem dL_law_230 : decode cL_law 230 = .ok (.iconst 1, 1) := by decide +kernel
theorem dL_law_231 : decode cL_law 231 = .ok (.goto 4, 3) := by decide +kernel
theorem dL_law_234 : decode cL_law 234 = .ok (.iconst 0, 1) := by decide +kernel
theorem dL_law_235 : decode cL_law 235 = .ok (.istore_n 2, 1) := by decide +kernel
theorem dL_law_236 : decode cL_law 236 = .ok (.iconst 2, 1) := by decide +kernel
theorem dL_law_237 : decode cL_law 237 = .ok (.iload 4, 2) := by decide +kernel
theorem dL_law_239 : decode cL_law 239 = .ok (.iconst 3, 1) := by decide +kernel
theorem dL_law_240 : decode cL_law 240 = .ok (.ishr, 1) := by decide +kernel
theorem dL_law_241 : decode cL_law 241 = .ok (.bipush 90, 2) := by decide +kernel
theorem dL_law_243 : decode cL_law 243 = .ok (.irem, 1) := by decide +kernel
theorem dL_law_244 : decode cL_law 244 = .ok (.iadd, 1) := by decide +kernel
theorem dL_law_245 : decode cL_law 245 = .ok (.istore 6, 2) := by decide +kernel
theorem dL_law_247 : decode cL_law 247 = .ok (.iload 4, 2) := by decide +kernel
theorem dL_law_249 : decode cL_law 249 = .ok (.bipush 9, 2) := by decide +kernel
theorem dL_law_251 : decode cL_law 251 = .ok (.ishr, 1) := by decide +kernel
theorem dL_law_252 : decode cL_law 252 = .ok (.iload 6, 2) := by decide +kernel
theorem dL_law_254 : decode cL_law 254 = .ok (.iconst 1, 1) := by decide +kernel
theorem dL_law_255 : decode cL_law 255 = .ok (.iadd, 1) := by decide +kernel
theorem dL_law_256 : decode cL_law 256 = .ok (.irem, 1) := by decide +kernel
theorem dL_law_257 : decode cL_law 257 = .ok (.istore 7, 2) := by decide +kernel
theorem dL_law_259 : decode cL_law 259 = .ok (.iload_n 2, 1) := by decide +kernel
theorem dL_law_260 : decode cL_law 260 = .ok (.ifCond .eq 25, 3) := by decide +kernel
theorem dL_law_263 : decode cL_law 263 = .ok (.aload_n 1, 1) := by decide +kernel
theorem dL_law_264 : decode cL_law 264 = .ok (.iload 6, 2) := by decide +kernel
theorem dL_law_266 : decode cL_law 266 = .ok (.iload 7, 2) := by decide +kernel
theorem dL_law_268 : decode cL_law 268 = .ok (.invokestatic 62, 3) := by decide +kernel
theorem dL_law_271 : decode cL_law 271 = .ok (.ifCond .eq 14, 3) := by decide +kernel
theorem dL_law_274 : decode cL_law 274 = .ok (.aload_n 1, 1) := by decide +kernel
theorem dL_law_275 : decode cL_law 275 = .ok (.invokestatic 35, 3) := by decide +kernel
theorem dL_law_278 : decode cL_law 278 = .ok (.ifCond .eq 7, 3) := by decide +kernel
theorem dL_law_281 : decode cL_law 281 = .ok (.iconst 1, 1) := by decide +kernel
theorem dL_law_282 : decode cL_law 282 = .ok (.goto 4, 3) := by decide +kernel
theorem dL_law_285 : decode cL_law 285 = .ok (.iconst 0, 1) := by decide +kernel
theorem dL_law_286 : decode cL_law 286 = .ok (.istore_n 2, 1) := by decide +kernel
theorem dL_law_287 : decode cL_law 287 = .ok (.iload_n 2, 1) := by decide +kernel
theorem dL_law_288 : decode cL_law 288 = .ok (.ifCond .eq 127, 3) := by decide +kernel
theorem dL_law_291 : decode cL_law 291 = .ok (.iload 4, 2) := by decide +kernel
theorem dL_law_293 : decode cL_law 293 = .ok (.iconst 4, 1) := by decide +kernel
theorem dL_law_294 : decode cL_law 294 = .ok (.irem, 1) := by decide +kernel
theorem dL_law_295 : decode cL_law 295 = .ok (.ifCond .ne 120, 3) := by decide +kernel
theorem dL_law_298 : decode cL_law 298 = .ok (.aload_n 1, 1) := by decide +kernel
theorem dL_law_299 : decode cL_law 299 = .ok (.iconst 0, 1) := by decide +kernel
theorem dL_law_300 : decode cL_law 300 = .ok (.invokevirtual 15, 3) := by decide +kernel
theorem dL_law_303 : decode cL_law 303 = .ok (.bipush 40, 2) := by decide +kernel
theorem dL_law_305 : decode cL_law 305 = .ok (.iadd, 1) := by decide +kernel
theorem dL_law_306 : decode cL_law 306 = .ok (.sipush 5000, 3) := by decide +kernel
theorem dL_law_309 : decode cL_law 309 = .ok (.if_icmp .gt 106, 3) := by decide +kernel
theorem dL_law_312 : decode cL_law 312 = .ok (.aload_n 1, 1) := by decide +kernel
theorem dL_law_313 : decode cL_law 313 = .ok (.iconst 3, 1) := by decide +kernel
theorem dL_law_314 : decode cL_law 314 = .ok (.invokevirtual 9, 3) := by decide +kernel
theorem dL_law_317 : decode cL_law 317 = .ok (.istore 8, 2) := by decide +kernel
theorem dL_law_319 : decode cL_law 319 = .ok (.aload_n 1, 1) := by decide +kernel
theorem dL_law_320 : decode cL_law 320 = .ok (.iconst 2, 1) := by decide +kernel
theorem dL_law_321 : decode cL_law 321 = .ok (.invokevirtual 9, 3) := by decide +kernel
theorem dL_law_324 : decode cL_law 324 = .ok (.istore 9, 2) := by decide +kernel
theorem dL_law_326 : decode cL_law 326 = .ok (.aload_n 1, 1) := by decide +kernel
theorem dL_law_327 : decode cL_law 327 = .ok (.bipush 40, 2) := by decide +kernel
theorem dL_law_329 : decode cL_law 329 = .ok (.iconst 2, 1) := by decide +kernel
theorem dL_law_330 : decode cL_law 330 = .ok (.invokevirtual 66, 3) := by decide +kernel
theorem dL_law_333 : decode cL_law 333 = .ok (.aload_n 1, 1) := by decide +kernel
theorem dL_law_334 : decode cL_law 334 = .ok (.bipush 40, 2) := by decide +kernel
theorem dL_law_336 : decode cL_law 336 = .ok (.iconst 3, 1) := by decide +kernel
theorem dL_law_337 : decode cL_law 337 = .ok (.invokevirtual 66, 3) := by decide +kernel
theorem dL_law_340 : decode cL_law 340 = .ok (.iadd, 1) := by decide +kernel
theorem dL_law_341 : decode cL_law 341 = .ok (.istore 10, 2) := by decide +kernel
theorem dL_law_343 : decode cL_law 343 = .ok (.aload_n 1, 1) := by decide +kernel
theorem dL_law_344 : decode cL_law 344 = .ok (.bipush 40, 2) := by decide +kernel
theorem dL_law_346 : decode cL_law 346 = .ok (.iload 10, 2) := by decide +kernel
theorem dL_law_348 : decode cL_law 348 = .ok (.invokevirtual 69, 3) := by decide +kernel
theorem dL_law_351 : decode cL_law 351 = .ok (.istore 11, 2) := by decide +kernel
theorem dL_law_353 : decode cL_law 353 = .ok (.iload 11, 2) := by decide +kernel
theorem dL_law_355 : decode cL_law 355 = .ok (.bipush 20, 2) := by decide +kernel
theorem dL_law_357 : decode cL_law 357 = .ok (.if_icmp .lt 56, 3) := by decide +kernel
theorem dL_law_360 : decode cL_law 360 = .ok (.iload 11, 2) := by decide +kernel
theorem dL_law_362 : decode cL_law 362 = .ok (.aload_n 1, 1) := by decide +kernel
theorem dL_law_363 : decode cL_law 363 = .ok (.bipush 20, 2) := by decide +kernel
theorem dL_law_365 : decode cL_law 365 = .ok (.invokevirtual 15, 3) := by decide +kernel
theorem dL_law_368 : decode cL_law 368 = .ok (.if_icmp .gt 45, 3) := by decide +kernel
theorem dL_law_371 : decode cL_law 371 = .ok (.aload_n 1, 1) := by decide +kernel
theorem dL_law_372 : decode cL_law 372 = .ok (.bipush 40, 2) := by decide +kernel
theorem dL_law_374 : decode cL_law 374 = .ok (.invokevirtual 32, 3) := by decide +kernel
theorem dL_law_377 : decode cL_law 377 = .ok (.ifCond .lt 36, 3) := by decide +kernel
theorem dL_law_380 : decode cL_law 380 = .ok (.aload_n 1, 1) := by decide +kernel
theorem dL_law_381 : decode cL_law 381 = .ok (.iconst 3, 1) := by decide +kernel
theorem dL_law_382 : decode cL_law 382 = .ok (.invokevirtual 9, 3) := by decide +kernel
theorem dL_law_385 : decode cL_law 385 = .ok (.aload_n 1, 1) := by decide +kernel
theorem dL_law_386 : decode cL_law 386 = .ok (.iconst 2, 1) := by decide +kernel
theorem dL_law_387 : decode cL_law 387 = .ok (.invokevirtual 9, 3) := by decide +kernel
theorem dL_law_390 : decode cL_law 390 = .ok (.iadd, 1) := by decide +kernel
theorem dL_law_391 : decode cL_law 391 = .ok (.iload 8, 2) := by decide +kernel
theorem dL_law_393 : decode cL_law 393 = .ok (.iload 9, 2) := by decide +kernel
theorem dL_law_395 : decode cL_law 395 = .ok (.iadd, 1) := by decide +kernel
theorem dL_law_396 : decode cL_law 396 = .ok (.iload 10, 2) := by decide +kernel
theorem dL_law_398 : decode cL_law 398 = .ok (.iadd, 1) := by decide +kernel
theorem dL_law_399 : decode cL_law 399 = .ok (.if_icmp .ne 14, 3) := by decide +kernel
theorem dL_law_402 : decode cL_law 402 = .ok (.aload_n 1, 1) := by decide +kernel
theorem dL_law_403 : decode cL_law 403 = .ok (.invokevirtual 41, 3) := by decide +kernel
theorem dL_law_406 : decode cL_law 406 = .ok (.ifCond .lt 7, 3) := by decide +kernel
theorem dL_law_409 : decode cL_law 409 = .ok (.iconst 1, 1) := by decide +kernel
theorem dL_law_410 : decode cL_law 410 = .ok (.goto 4, 3) := by decide +kernel
theorem dL_law_413 : decode cL_law 413 = .ok (.iconst 0, 1) := by decide +kernel
theorem dL_law_414 : decode cL_law 414 = .ok (.istore_n 2, 1) := by decide +kernel
theorem dL_law_415 : decode cL_law 415 = .ok (.iinc 3 1, 3) := by decide +kernel
theorem dL_law_418 : decode cL_law 418 = .ok (.goto (-323), 3) := by decide +kernel
theorem dL_law_421 : decode cL_law 421 = .ok (.iload_n 2, 1) := by decide +kernel
theorem dL_law_422 : decode cL_law 422 = .ok (.ifCond .eq 27, 3) := by decide +kernel
theorem dL_law_425 : decode cL_law 425 = .ok (.aload_n 1, 1) := by decide +kernel
theorem dL_law_426 : decode cL_law 426 = .ok (.iconst 3, 1) := by decide +kernel
theorem dL_law_427 : decode cL_law 427 = .ok (.bipush 50, 2) := by decide +kernel
theorem dL_law_429 : decode cL_law 429 = .ok (.invokevirtual 49, 3) := by decide +kernel
theorem dL_law_432 : decode cL_law 432 = .ok (.ifCond .lt 17, 3) := by decide +kernel
theorem dL_law_435 : decode cL_law 435 = .ok (.aload_n 1, 1) := by decide +kernel
theorem dL_law_436 : decode cL_law 436 = .ok (.iconst 4, 1) := by decide +kernel
theorem dL_law_437 : decode cL_law 437 = .ok (.bipush 50, 2) := by decide +kernel
theorem dL_law_439 : decode cL_law 439 = .ok (.invokevirtual 49, 3) := by decide +kernel
theorem dL_law_442 : decode cL_law 442 = .ok (.ifCond .lt 7, 3) := by decide +kernel
theorem dL_law_445 : decode cL_law 445 = .ok (.iconst 1, 1) := by decide +kernel
theorem dL_law_446 : decode cL_law 446 = .ok (.goto 4, 3) := by decide +kernel
theorem dL_law_449 : decode cL_law 449 = .ok (.iconst 0, 1) := by decide +kernel
theorem dL_law_450 : decode cL_law 450 = .ok (.istore_n 2, 1) := by decide +kernel
theorem dL_law_451 : decode cL_law 451 = .ok (.iconst 0, 1) := by decide +kernel
theorem dL_law_452 : decode cL_law 452 = .ok (.istore_n 3, 1) := by decide +kernel
theorem dL_law_453 : decode cL_law 453 = .ok (.iload_n 3, 1) := by decide +kernel
theorem dL_law_454 : decode cL_law 454 = .ok (.iconst 3, 1) := by decide +kernel
theorem dL_law_455 : decode cL_law 455 = .ok (.if_icmp .ge 40, 3) := by decide +kernel
theorem dL_law_458 : decode cL_law 458 = .ok (.iload_n 2, 1) := by decide +kernel
theorem dL_law_459 : decode cL_law 459 = .ok (.ifCond .eq 36, 3) := by decide +kernel
theorem dL_law_462 : decode cL_law 462 = .ok (.aload_n 1, 1) := by decide +kernel
theorem dL_law_463 : decode cL_law 463 = .ok (.sipush 700, 3) := by decide +kernel
theorem dL_law_466 : decode cL_law 466 = .ok (.invokevirtual 32, 3) := by decide +kernel
theorem dL_law_469 : decode cL_law 469 = .ok (.ifCond .ge 14, 3) := by decide +kernel
theorem dL_law_472 : decode cL_law 472 = .ok (.aload_n 1, 1) := by decide +kernel
theorem dL_law_473 : decode cL_law 473 = .ok (.iconst 0, 1) := by decide +kernel
theorem dL_law_474 : decode cL_law 474 = .ok (.invokevirtual 15, 3) := by decide +kernel
theorem dL_law_477 : decode cL_law 477 = .ok (.sipush 4300, 3) := by decide +kernel
theorem dL_law_480 : decode cL_law 480 = .ok (.if_icmp .le 7, 3) := by decide +kernel
theorem dL_law_483 : decode cL_law 483 = .ok (.iconst 1, 1) := by decide +kernel
theorem dL_law_484 : decode cL_law 484 = .ok (.goto 4, 3) := by decide +kernel
theorem dL_law_487 : decode cL_law 487 = .ok (.iconst 0, 1) := by decide +kernel
theorem dL_law_488 : decode cL_law 488 = .ok (.istore_n 2, 1) := by decide +kernel
theorem dL_law_489 : decode cL_law 489 = .ok (.iinc 3 1, 3) := by decide +kernel
theorem dL_law_492 : decode cL_law 492 = .ok (.goto (-39), 3) := by decide +kernel
theorem dL_law_495 : decode cL_law 495 = .ok (.iload_n 2, 1) := by decide +kernel
theorem dL_law_496 : decode cL_law 496 = .ok (.ifCond .eq 42, 3) := by decide +kernel
theorem dL_law_499 : decode cL_law 499 = .ok (.aload_n 1, 1) := by decide +kernel
theorem dL_law_500 : decode cL_law 500 = .ok (.invokestatic 35, 3) := by decide +kernel
theorem dL_law_503 : decode cL_law 503 = .ok (.ifCond .eq 35, 3) := by decide +kernel
theorem dL_law_506 : decode cL_law 506 = .ok (.aload_n 1, 1) := by decide +kernel
theorem dL_law_507 : decode cL_law 507 = .ok (.iconst 0, 1) := by decide +kernel
theorem dL_law_508 : decode cL_law 508 = .ok (.invokevirtual 15, 3) := by decide +kernel
theorem dL_law_511 : decode cL_law 511 = .ok (.sipush 2100, 3) := by decide +kernel
theorem dL_law_514 : decode cL_law 514 = .ok (.if_icmp .lt 20, 3) := by decide +kernel
theorem dL_law_517 : decode cL_law 517 = .ok (.aload_n 1, 1) := by decide +kernel
theorem dL_law_518 : decode cL_law 518 = .ok (.iconst 1, 1) := by decide +kernel
theorem dL_law_519 : decode cL_law 519 = .ok (.invokevirtual 15, 3) := by decide +kernel
theorem dL_law_522 : decode cL_law 522 = .ok (.ifCond .gt 12, 3) := by decide +kernel
theorem dL_law_525 : decode cL_law 525 = .ok (.aload_n 1, 1) := by decide +kernel
theorem dL_law_526 : decode cL_law 526 = .ok (.bipush 13, 2) := by decide +kernel
theorem dL_law_528 : decode cL_law 528 = .ok (.invokevirtual 15, 3) := by decide +kernel
theorem dL_law_531 : decode cL_law 531 = .ok (.ifCond .ne 7, 3) := by decide +kernel
theorem dL_law_534 : decode cL_law 534 = .ok (.iconst 1, 1) := by decide +kernel
theorem dL_law_535 : decode cL_law 535 = .ok (.goto 4, 3) := by decide +kernel
theorem dL_law_538 : decode cL_law 538 = .ok (.iconst 0, 1) := by decide +kernel
theorem dL_law_539 : decode cL_law 539 = .ok (.istore_n 2, 1) := by decide +kernel
theorem dL_law_540 : decode cL_law 540 = .ok (.aload_n 1, 1) := by decide +kernel
theorem dL_law_541 : decode cL_law 541 = .ok (.invokevirtual 72, 3) := by decide +kernel
theorem dL_law_544 : decode cL_law 544 = .ok (.istore_n 3, 1) := by decide +kernel
theorem dL_law_545 : decode cL_law 545 = .ok (.iload_n 2, 1) := by decide +kernel
theorem dL_law_546 : decode cL_law 546 = .ok (.ifCond .eq 59, 3) := by decide +kernel
theorem dL_law_549 : decode cL_law 549 = .ok (.iload_n 3, 1) := by decide +kernel
theorem dL_law_550 : decode cL_law 550 = .ok (.bipush (-4), 2) := by decide +kernel
theorem dL_law_552 : decode cL_law 552 = .ok (.if_icmp .eq 49, 3) := by decide +kernel
theorem dL_law_555 : decode cL_law 555 = .ok (.aload_n 1, 1) := by decide +kernel
theorem dL_law_556 : decode cL_law 556 = .ok (.bipush 7, 2) := by decide +kernel
theorem dL_law_558 : decode cL_law 558 = .ok (.iload_n 3, 1) := by decide +kernel
theorem dL_law_559 : decode cL_law 559 = .ok (.invokevirtual 49, 3) := by decide +kernel
theorem dL_law_562 : decode cL_law 562 = .ok (.ifCond .le 43, 3) := by decide +kernel
theorem dL_law_565 : decode cL_law 565 = .ok (.aload_n 1, 1) := by decide +kernel
theorem dL_law_566 : decode cL_law 566 = .ok (.iconst 3, 1) := by decide +kernel
theorem dL_law_567 : decode cL_law 567 = .ok (.invokevirtual 15, 3) := by decide +kernel
theorem dL_law_570 : decode cL_law 570 = .ok (.iconst 1, 1) := by decide +kernel
theorem dL_law_571 : decode cL_law 571 = .ok (.if_icmp .ne 34, 3) := by decide +kernel
theorem dL_law_574 : decode cL_law 574 = .ok (.iload_n 3, 1) := by decide +kernel
theorem dL_law_575 : decode cL_law 575 = .ok (.iconst 1, 1) := by decide +kernel
theorem dL_law_576 : decode cL_law 576 = .ok (.if_icmp .eq 25, 3) := by decide +kernel
theorem dL_law_579 : decode cL_law 579 = .ok (.aload_n 1, 1) := by decide +kernel
theorem dL_law_580 : decode cL_law 580 = .ok (.bipush 7, 2) := by decide +kernel
theorem dL_law_582 : decode cL_law 582 = .ok (.iload_n 3, 1) := by decide +kernel
theorem dL_law_583 : decode cL_law 583 = .ok (.iconst 1, 1) := by decide +kernel
theorem dL_law_584 : decode cL_law 584 = .ok (.isub, 1) := by decide +kernel
theorem dL_law_585 : decode cL_law 585 = .ok (.invokevirtual 49, 3) := by decide +kernel
theorem dL_law_588 : decode cL_law 588 = .ok (.iload_n 3, 1) := by decide +kernel
theorem dL_law_589 : decode cL_law 589 = .ok (.if_icmp .ne 16, 3) := by decide +kernel
theorem dL_law_592 : decode cL_law 592 = .ok (.aload_n 1, 1) := by decide +kernel
theorem dL_law_593 : decode cL_law 593 = .ok (.iconst 3, 1) := by decide +kernel
theorem dL_law_594 : decode cL_law 594 = .ok (.invokevirtual 15, 3) := by decide +kernel
theorem dL_law_597 : decode cL_law 597 = .ok (.iconst 1, 1) := by decide +kernel
theorem dL_law_598 : decode cL_law 598 = .ok (.if_icmp .le 7, 3) := by decide +kernel
theorem dL_law_601 : decode cL_law 601 = .ok (.iconst 1, 1) := by decide +kernel
theorem dL_law_602 : decode cL_law 602 = .ok (.goto 4, 3) := by decide +kernel
theorem dL_law_605 : decode cL_law 605 = .ok (.iconst 0, 1) := by decide +kernel
theorem dL_law_606 : decode cL_law 606 = .ok (.istore_n 2, 1) := by decide +kernel
theorem dL_law_607 : decode cL_law 607 = .ok (.aload_n 1, 1) := by decide +kernel
theorem dL_law_608 : decode cL_law 608 = .ok (.bipush 11, 2) := by decide +kernel
