set_option maxRecDepth 100000 in
theorem flX8_9 : FL RX8 9 8 0 := ⟨_, _, _, rfl, by decide, tb_in8, tbm 44 (by decide +kernel) rfl⟩
set_option maxRecDepth 100000 in
theorem fpX8_9 : FP RX8 9 8 0 true (.array .int) := ⟨_, _, _, tyX8, rfl, by decide, tb_in8, tbm 44 (by decide +kernel) rfl, tyX8_ok, nmX8, rfl, rfl, fun _ => rfl⟩
set_option maxRecDepth 100000 in
theorem flX11_76 : FL RX11 76 8 0 := ⟨_, _, _, rfl, by decide, tb_in8, tbm 45 (by decide +kernel) rfl⟩
set_option maxRecDepth 100000 in
theorem flX8_15 : FL RX8 15 8 1 := ⟨_, _, _, rfl, by decide, tb_in8, tbm 46 (by decide +kernel) rfl⟩
set_option maxRecDepth 100000 in
theorem fpX8_15 : FP RX8 15 8 1 true (.array .int) := ⟨_, _, _, tyX8, rfl, by decide, tb_in8, tbm 46 (by decide +kernel) rfl, tyX8_ok, nmX8, rfl, rfl, fun _ => rfl⟩
set_option maxRecDepth 100000 in
theorem flX11_84 : FL RX11 84 8 1 := ⟨_, _, _, rfl, by decide, tb_in8, tbm 47 (by decide +kernel) rfl⟩
set_option maxRecDepth 100000 in
theorem flX8_18 : FL RX8 18 8 2 := ⟨_, _, _, rfl, by decide, tb_in8, tbm 48 (by decide +kernel) rfl⟩
set_option maxRecDepth 100000 in
theorem fpX8_18 : FP RX8 18 8 2 true (.array .int) := ⟨_, _, _, tyX8, rfl, by decide, tb_in8, tbm 48 (by decide +kernel) rfl, tyX8_ok, nmX8, rfl, rfl, fun _ => rfl⟩
set_option maxRecDepth 100000 in
theorem flX11_87 : FL RX11 87 8 2 := ⟨_, _, _, rfl, by decide, tb_in8, tbm 49 (by decide +kernel) rfl⟩
set_option maxRecDepth 100000 in
theorem flX8_25 : FL RX8 25 8 3 := ⟨_, _, _, rfl, by decide, tb_in8, tbm 50 (by decide +kernel) rfl⟩
set_option maxRecDepth 100000 in
theorem fpX8_25 : FP RX8 25 8 3 false (.int) := ⟨_, _, _, tyX8, rfl, by decide, tb_in8, tbm 50 (by decide +kernel) rfl, tyX8_ok, nmX8, rfl, rfl, fun _ => rfl⟩
set_option maxRecDepth 100000 in
theorem flX11_59 : FL RX11 59 8 3 := ⟨_, _, _, rfl, by decide, tb_in8, tbm 51 (by decide +kernel) rfl⟩
set_option maxRecDepth 100000 in
theorem fpX11_59 : FP RX11 59 8 3 false (.int) := ⟨_, _, _, tyX8, rfl, by decide, tb_in8, tbm 51 (by decide +kernel) rfl, tyX8_ok, nmX8, rfl, rfl, fun h => nomatch h⟩
set_option maxRecDepth 100000 in
theorem flX2_7 : FL RX2 7 2 0 := ⟨_, _, _, rfl, by decide, tb_in2, tbm 68 (by decide +kernel) rfl⟩
set_option maxRecDepth 100000 in
theorem fpX2_7 : FP RX2 7 2 0 false (.int) := ⟨_, _, _, tyX2, rfl, by decide, tb_in2, tbm 68 (by decide +kernel) rfl, tyX2_ok, nmX2, rfl, rfl, fun _ => rfl⟩
set_option maxRecDepth 100000 in
theorem flX11_156 : FL RX11 156 2 0 := ⟨_, _, _, rfl, by decide, tb_in2, tbm 69 (by decide +kernel) rfl⟩
set_option maxRecDepth 100000 in
theorem fpX11_156 : FP RX11 156 2 0 false (.int) := ⟨_, _, _, tyX2, rfl, by decide, tb_in2, tbm 69 (by decide +kernel) rfl, tyX2_ok, nmX2, rfl, rfl, fun h => nomatch h⟩
set_option maxRecDepth 100000 in
theorem flX2_13 : FL RX2 13 2 1 := ⟨_, _, _, rfl, by decide, tb_in2, tbm 70 (by decide +kernel) rfl⟩
set_option maxRecDepth 100000 in
theorem fpX2_13 : FP RX2 13 2 1 false (.int) := ⟨_, _, _, tyX2, rfl, by decide, tb_in2, tbm 70 (by decide +kernel) rfl, tyX2_ok, nmX2, rfl, rfl, fun _ => rfl⟩
set_option maxRecDepth 100000 in
theorem flX9_134 : FL RX9 134 2 1 := ⟨_, _, _, rfl, by decide, tb_in2, tbm 71 (by decide +kernel) rfl⟩
set_option maxRecDepth 100000 in
theorem fpX9_134 : FP RX9 134 2 1 false (.int) := ⟨_, _, _, tyX2, rfl, by decide, tb_in2, tbm 71 (by decide +kernel) rfl, tyX2_ok, nmX2, rfl, rfl, fun h => nomatch h⟩
set_option maxRecDepth 100000 in
theorem flX0_9 : FL RX0 9 0 0 := ⟨_, _, _, rfl, by decide, tb_in0, tbm 83 (by decide +kernel) rfl⟩
set_option maxRecDepth 100000 in
theorem fpX0_9 : FP RX0 9 0 0 false (.int) := ⟨_, _, _, tyX0, rfl, by decide, tb_in0, tbm 83 (by decide +kernel) rfl, tyX0_ok, nmX0, rfl, rfl, fun _ => rfl⟩
set_option maxRecDepth 100000 in
theorem flX11_165 : FL RX11 165 0 0 := ⟨_, _, _, rfl, by decide, tb_in0, tbm 84 (by decide +kernel) rfl⟩
set_option maxRecDepth 100000 in
theorem fpX11_165 : FP RX11 165 0 0 false (.int) := ⟨_, _, _, tyX0, rfl, by decide, tb_in0, tbm 84 (by decide +kernel) rfl, tyX0_ok, nmX0, rfl, rfl, fun h => nomatch h⟩
set_option maxRecDepth 100000 in
theorem flX0_15 : FL RX0 15 0 1 := ⟨_, _, _, rfl, by decide, tb_in0, tbm 85 (by decide +kernel) rfl⟩
set_option maxRecDepth 100000 in
theorem fpX0_15 : FP RX0 15 0 1 false (.int) := ⟨_, _, _, tyX0, rfl, by decide, tb_in0, tbm 85 (by decide +kernel) rfl, tyX0_ok, nmX0, rfl, rfl, fun _ => rfl⟩
set_option maxRecDepth 100000 in
theorem flX11_168 : FL RX11 168 0 1 := ⟨_, _, _, rfl, by decide, tb_in0, tbm 86 (by decide +kernel) rfl⟩
set_option maxRecDepth 100000 in
theorem fpX11_168 : FP RX11 168 0 1 false (.int) := ⟨_, _, _, tyX0, rfl, by decide, tb_in0, tbm 86 (by decide +kernel) rfl, tyX0_ok, nmX0, rfl, rfl, fun h => nomatch h⟩
set_option maxRecDepth 100000 in
theorem flX0_18 : FL RX0 18 0 2 := ⟨_, _, _, rfl, by decide, tb_in0, tbm 87 (by decide +kernel) rfl⟩
set_option maxRecDepth 100000 in
theorem fpX0_18 : FP RX0 18 0 2 false (.int) := ⟨_, _, _, tyX0, rfl, by decide, tb_in0, tbm 87 (by decide +kernel) rfl, tyX0_ok, nmX0, rfl, rfl, fun _ => rfl⟩
set_option maxRecDepth 100000 in
theorem flX9_125 : FL RX9 125 0 2 := ⟨_, _, _, rfl, by decide, tb_in0, tbm 88 (by decide +kernel) rfl⟩
set_option maxRecDepth 100000 in
theorem fpX9_125 : FP RX9 125 0 2 false (.int) := ⟨_, _, _, tyX0, rfl, by decide, tb_in0, tbm 88 (by decide +kernel) rfl, tyX0_ok, nmX0, rfl, rfl, fun h => nomatch h⟩
set_option maxRecDepth 100000 in
theorem flX0_21 : FL RX0 21 0 3 := ⟨_, _, _, rfl, by decide, tb_in0, tbm 89 (by decide +kernel) rfl⟩
set_option maxRecDepth 100000 in
theorem fpX0_21 : FP RX0 21 0 3 false (.int) := ⟨_, _, _, tyX0, rfl, by decide, tb_in0, tbm 89 (by decide +kernel) rfl, tyX0_ok, nmX0, rfl, rfl, fun _ => rfl⟩
set_option maxRecDepth 100000 in
theorem flX6_66 : FL RX6 66 0 3 := ⟨_, _, _, rfl, by decide, tb_in0, tbm 90 (by decide +kernel) rfl⟩
set_option maxRecDepth 100000 in
theorem fpX6_66 : FP RX6 66 0 3 false (.int) := ⟨_, _, _, tyX0, rfl, by decide, tb_in0, tbm 90 (by decide +kernel) rfl, tyX0_ok, nmX0, rfl, rfl, fun h => nomatch h⟩
set_option maxRecDepth 100000 in
theorem flX9_128 : FL RX9 128 0 3 := ⟨_, _, _, rfl, by decide, tb_in0, tbm 91 (by decide +kernel) rfl⟩
set_option maxRecDepth 100000 in
theorem fpX9_128 : FP RX9 128 0 3 false (.int) := ⟨_, _, _, tyX0, rfl, by decide, tb_in0, tbm 91 (by decide +kernel) rfl, tyX0_ok, nmX0, rfl, rfl, fun h => nomatch h⟩
set_option maxRecDepth 100000 in
theorem flX0_24 : FL RX0 24 0 4 := ⟨_, _, _, rfl, by decide, tb_in0, tbm 92 (by decide +kernel) rfl⟩
set_option maxRecDepth 100000 in
theorem fpX0_24 : FP RX0 24 0 4 false (.int) := ⟨_, _, _, tyX0, rfl, by decide, tb_in0, tbm 92 (by decide +kernel) rfl, tyX0_ok, nmX0, rfl, rfl, fun _ => rfl⟩
set_option maxRecDepth 100000 in
theorem flX6_61 : FL RX6 61 0 4 := ⟨_, _, _, rfl, by decide, tb_in0, tbm 93 (by decide +kernel) rfl⟩
set_option maxRecDepth 100000 in
theorem fpX6_61 : FP RX6 61 0 4 false (.int) := ⟨_, _, _, tyX0, rfl, by decide, tb_in0, tbm 93 (by decide +kernel) rfl, tyX0_ok, nmX0, rfl, rfl, fun h => nomatch h⟩
set_option maxRecDepth 100000 in
theorem flX9_131 : FL RX9 131 0 4 := ⟨_, _, _, rfl, by decide, tb_in0, tbm 94 (by decide +kernel) rfl⟩
set_option maxRecDepth 100000 in
theorem fpX9_131 : FP RX9 131 0 4 false (.int) := ⟨_, _, _, tyX0, rfl, by decide, tb_in0, tbm 94 (by decide +kernel) rfl, tyX0_ok, nmX0, rfl, rfl, fun h => nomatch h⟩
set_option maxRecDepth 100000 in
theorem flX0_27 : FL RX0 27 0 5 := ⟨_, _, _, rfl, by decide, tb_in0, tbm 95 (by decide +kernel) rfl⟩
set_option maxRecDepth 100000 in
theorem fpX0_27 : FP RX0 27 0 5 false (.int) := ⟨_, _, _, tyX0, rfl, by decide, tb_in0, tbm 95 (by decide +kernel) rfl, tyX0_ok, nmX0, rfl, rfl, fun _ => rfl⟩
set_option maxRecDepth 100000 in
theorem flX9_137 : FL RX9 137 0 5 := ⟨_, _, _, rfl, by decide, tb_in0, tbm 96 (by decide +kernel) rfl⟩
set_option maxRecDepth 100000 in
theorem fpX9_137 : FP RX9 137 0 5 false (.int) := ⟨_, _, _, tyX0, rfl, by decide, tb_in0, tbm 96 (by decide +kernel) rfl, tyX0_ok, nmX0, rfl, rfl, fun h => nomatch h⟩
set_option maxRecDepth 100000 in
theorem flX1_13 : FL RX1 13 1 0 := ⟨_, _, _, rfl, by decide, tb_in1, tbm 118 (by decide +kernel) rfl⟩
set_option maxRecDepth 100000 in
theorem fpX1_13 : FP RX1 13 1 0 false (.int) := ⟨_, _, _, tyX1, rfl, by decide, tb_in1, tbm 118 (by decide +kernel) rfl, tyX1_ok, nmX1, rfl, rfl, fun _ => rfl⟩
set_option maxRecDepth 100000 in
theorem flX11_118 : FL RX11 118 1 0 := ⟨_, _, _, rfl, by decide, tb_in1, tbm 119 (by decide +kernel) rfl⟩
set_option maxRecDepth 100000 in
theorem fpX11_118 : FP RX11 118 1 0 false (.int) := ⟨_, _, _, tyX1, rfl, by decide, tb_in1, tbm 119 (by decide +kernel) rfl, tyX1_ok, nmX1, rfl, rfl, fun h => nomatch h⟩
set_option maxRecDepth 100000 in
theorem flX1_19 : FL RX1 19 1 1 := ⟨_, _, _, rfl, by decide, tb_in1, tbm 120 (by decide +kernel) rfl⟩
set_option maxRecDepth 100000 in
theorem fpX1_19 : FP RX1 19 1 1 false (.int) := ⟨_, _, _, tyX1, rfl, by decide, tb_in1, tbm 120 (by decide +kernel) rfl, tyX1_ok, nmX1, rfl, rfl, fun _ => rfl⟩
set_option maxRecDepth 100000 in
theorem flX9_118 : FL RX9 118 1 1 := ⟨_, _, _, rfl, by decide, tb_in1, tbm 121 (by decide +kernel) rfl⟩
set_option maxRecDepth 100000 in
theorem fpX9_118 : FP RX9 118 1 1 false (.int) := ⟨_, _, _, tyX1, rfl, by decide, tb_in1, tbm 121 (by decide +kernel) rfl, tyX1_ok, nmX1, rfl, rfl, fun h => nomatch h⟩
set_option maxRecDepth 100000 in
theorem flX11_171 : FL RX11 171 1 1 := ⟨_, _, _, rfl, by decide, tb_in1, tbm 122 (by decide +kernel) rfl⟩
set_option maxRecDepth 100000 in
theorem fpX11_171 : FP RX11 171 1 1 false (.int) := ⟨_, _, _, tyX1, rfl, by decide, tb_in1, tbm 122 (by decide +kernel) rfl, tyX1_ok, nmX1, rfl, rfl, fun h => nomatch h⟩
set_option maxRecDepth 100000 in
theorem flX3_9 : FL RX3 9 3 0 := ⟨_, _, _, rfl, by decide, tb_in3, tbm 134 (by decide +kernel) rfl⟩
set_option maxRecDepth 100000 in
theorem fpX3_9 : FP RX3 9 3 0 true (.array .int) := ⟨_, _, _, tyX3, rfl, by decide, tb_in3, tbm 134 (by decide +kernel) rfl, tyX3_ok, nmX3, rfl, rfl, fun _ => rfl⟩
set_option maxRecDepth 100000 in
theorem flX3_15 : FL RX3 15 3 1 := ⟨_, _, _, rfl, by decide, tb_in3, tbm 135 (by decide +kernel) rfl⟩
set_option maxRecDepth 100000 in
theorem fpX3_15 : FP RX3 15 3 1 true (.array .int) := ⟨_, _, _, tyX3, rfl, by decide, tb_in3, tbm 135 (by decide +kernel) rfl, tyX3_ok, nmX3, rfl, rfl, fun _ => rfl⟩
set_option maxRecDepth 100000 in
theorem flX3_22 : FL RX3 22 3 2 := ⟨_, _, _, rfl, by decide, tb_in3, tbm 136 (by decide +kernel) rfl⟩
set_option maxRecDepth 100000 in
theorem fpX3_22 : FP RX3 22 3 2 false (.int) := ⟨_, _, _, tyX3, rfl, by decide, tb_in3, tbm 136 (by decide +kernel) rfl, tyX3_ok, nmX3, rfl, rfl, fun _ => rfl⟩
set_option maxRecDepth 100000 in
theorem flX11_127 : FL RX11 127 3 2 := ⟨_, _, _, rfl, by decide, tb_in3, tbm 137 (by decide +kernel) rfl⟩
set_option maxRecDepth 100000 in
theorem fpX11_127 : FP RX11 127 3 2 false (.int) := ⟨_, _, _, tyX3, rfl, by decide, tb_in3, tbm 137 (by decide +kernel) rfl, tyX3_ok, nmX3, rfl, rfl, fun h => nomatch h⟩
set_option maxRecDepth 100000 in
theorem flX5_9 : FL RX5 9 5 0 := ⟨_, _, _, rfl, by decide, tb_in5, tbm 151 (by decide +kernel) rfl⟩
set_option maxRecDepth 100000 in
theorem fpX5_9 : FP RX5 9 5 0 true (.array .int) := ⟨_, _, _, tyX5, rfl, by decide, tb_in5, tbm 151 (by decide +kernel) rfl, tyX5_ok, nmX5, rfl, rfl, fun _ => rfl⟩
set_option maxRecDepth 100000 in
theorem flX11_188 : FL RX11 188 5 0 := ⟨_, _, _, rfl, by decide, tb_in5, tbm 152 (by decide +kernel) rfl⟩
set_option maxRecDepth 100000 in
theorem flX5_15 : FL RX5 15 5 1 := ⟨_, _, _, rfl, by decide, tb_in5, tbm 153 (by decide +kernel) rfl⟩
set_option maxRecDepth 100000 in
theorem fpX5_15 : FP RX5 15 5 1 true (.array .int) := ⟨_, _, _, tyX5, rfl, by decide, tb_in5, tbm 153 (by decide +kernel) rfl, tyX5_ok, nmX5, rfl, rfl, fun _ => rfl⟩
set_option maxRecDepth 100000 in
theorem flX11_191 : FL RX11 191 5 1 := ⟨_, _, _, rfl, by decide, tb_in5, tbm 154 (by decide +kernel) rfl⟩
set_option maxRecDepth 100000 in
theorem flX5_18 : FL RX5 18 5 2 := ⟨_, _, _, rfl, by decide, tb_in5, tbm 155 (by decide +kernel) rfl⟩
set_option maxRecDepth 100000 in
theorem fpX5_18 : FP RX5 18 5 2 true (.array .int) := ⟨_, _, _, tyX5, rfl, by decide, tb_in5, tbm 155 (by decide +kernel) rfl, tyX5_ok, nmX5, rfl, rfl, fun _ => rfl⟩
set_option maxRecDepth 100000 in
theorem flX11_194 : FL RX11 194 5 2 := ⟨_, _, _, rfl, by decide, tb_in5, tbm 156 (by decide +kernel) rfl⟩
set_option maxRecDepth 100000 in
theorem flX5_25 : FL RX5 25 5 3 := ⟨_, _, _, rfl, by decide, tb_in5, tbm 157 (by decide +kernel) rfl⟩
set_option maxRecDepth 100000 in
theorem fpX5_25 : FP RX5 25 5 3 false (.int) := ⟨_, _, _, tyX5, rfl, by decide, tb_in5, tbm 157 (by decide +kernel) rfl, tyX5_ok, nmX5, rfl, rfl, fun _ => rfl⟩
set_option maxRecDepth 100000 in
theorem flX11_146 : FL RX11 146 5 3 := ⟨_, _, _, rfl, by decide, tb_in5, tbm 158 (by decide +kernel) rfl⟩
set_option maxRecDepth 100000 in
theorem fpX11_146 : FP RX11 146 5 3 false (.int) := ⟨_, _, _, tyX5, rfl, by decide, tb_in5, tbm 158 (by decide +kernel) rfl, tyX5_ok, nmX5, rfl, rfl, fun h => nomatch h⟩
set_option maxRecDepth 100000 in
theorem flX9_9 : FL RX9 9 9 0 := ⟨_, _, _, rfl, by decide, tb_in9, tbm 178 (by decide +kernel) rfl⟩
set_option maxRecDepth 100000 in
theorem fpX9_9 : FP RX9 9 9 0 true (.array .int) := ⟨_, _, _, tyX9, rfl, by decide, tb_in9, tbm 178 (by decide +kernel) rfl, tyX9_ok, nmX9, rfl, rfl, fun _ => rfl⟩
set_option maxRecDepth 100000 in
theorem flX6_48 : FL RX6 48 9 0 := ⟨_, _, _, rfl, by decide, tb_in9, tbm 179 (by decide +kernel) rfl⟩
set_option maxRecDepth 100000 in
theorem flX11_111 : FL RX11 111 9 0 := ⟨_, _, _, rfl, by decide, tb_in9, tbm 180 (by decide +kernel) rfl⟩
set_option maxRecDepth 100000 in
theorem flX9_18 : FL RX9 18 9 1 := ⟨_, _, _, rfl, by decide, tb_in9, tbm 181 (by decide +kernel) rfl⟩
set_option maxRecDepth 100000 in
theorem fpX9_18 : FP RX9 18 9 1 true (.object "RainRecorder$Showers") := ⟨_, _, _, tyX9, rfl, by decide, tb_in9, tbm 181 (by decide +kernel) rfl, tyX9_ok, nmX9, rfl, rfl, fun _ => rfl⟩
set_option maxRecDepth 100000 in
theorem flX6_29 : FL RX6 29 9 1 := ⟨_, _, _, rfl, by decide, tb_in9, tbm 182 (by decide +kernel) rfl⟩
set_option maxRecDepth 100000 in
theorem flX11_55 : FL RX11 55 9 1 := ⟨_, _, _, rfl, by decide, tb_in9, tbm 183 (by decide +kernel) rfl⟩
set_option maxRecDepth 100000 in
theorem flX9_25 : FL RX9 25 9 2 := ⟨_, _, _, rfl, by decide, tb_in9, tbm 184 (by decide +kernel) rfl⟩
set_option maxRecDepth 100000 in
theorem fpX9_25 : FP RX9 25 9 2 true (.object "RainRecorder$Film") := ⟨_, _, _, tyX9, rfl, by decide, tb_in9, tbm 184 (by decide +kernel) rfl, tyX9_ok, nmX9, rfl, rfl, fun _ => rfl⟩
set_option maxRecDepth 100000 in
theorem flX6_44 : FL RX6 44 9 2 := ⟨_, _, _, rfl, by decide, tb_in9, tbm 185 (by decide +kernel) rfl⟩
set_option maxRecDepth 100000 in
theorem flX11_152 : FL RX11 152 9 2 := ⟨_, _, _, rfl, by decide, tb_in9, tbm 186 (by decide +kernel) rfl⟩
set_option maxRecDepth 100000 in
theorem flX9_32 : FL RX9 32 9 3 := ⟨_, _, _, rfl, by decide, tb_in9, tbm 187 (by decide +kernel) rfl⟩
set_option maxRecDepth 100000 in
theorem fpX9_32 : FP RX9 32 9 3 true (.object "RainRecorder$Bucket") := ⟨_, _, _, tyX9, rfl, by decide, tb_in9, tbm 187 (by decide +kernel) rfl, tyX9_ok, nmX9, rfl, rfl, fun _ => rfl⟩
set_option maxRecDepth 100000 in
theorem flX6_57 : FL RX6 57 9 3 := ⟨_, _, _, rfl, by decide, tb_in9, tbm 188 (by decide +kernel) rfl⟩
set_option maxRecDepth 100000 in
theorem flX11_161 : FL RX11 161 9 3 := ⟨_, _, _, rfl, by decide, tb_in9, tbm 189 (by decide +kernel) rfl⟩
set_option maxRecDepth 100000 in
theorem flX9_39 : FL RX9 39 9 4 := ⟨_, _, _, rfl, by decide, tb_in9, tbm 190 (by decide +kernel) rfl⟩
set_option maxRecDepth 100000 in
theorem fpX9_39 : FP RX9 39 9 4 true (.object "RainRecorder$Clock") := ⟨_, _, _, tyX9, rfl, by decide, tb_in9, tbm 190 (by decide +kernel) rfl, tyX9_ok, nmX9, rfl, rfl, fun _ => rfl⟩
set_option maxRecDepth 100000 in
theorem flX11_114 : FL RX11 114 9 4 := ⟨_, _, _, rfl, by decide, tb_in9, tbm 191 (by decide +kernel) rfl⟩
set_option maxRecDepth 100000 in
theorem flX9_46 : FL RX9 46 9 5 := ⟨_, _, _, rfl, by decide, tb_in9, tbm 192 (by decide +kernel) rfl⟩
set_option maxRecDepth 100000 in
theorem fpX9_46 : FP RX9 46 9 5 true (.object "RainRecorder$Gears") := ⟨_, _, _, tyX9, rfl, by decide, tb_in9, tbm 192 (by decide +kernel) rfl, tyX9_ok, nmX9, rfl, rfl, fun _ => rfl⟩
set_option maxRecDepth 100000 in
theorem flX11_123 : FL RX11 123 9 5 := ⟨_, _, _, rfl, by decide, tb_in9, tbm 193 (by decide +kernel) rfl⟩
set_option maxRecDepth 100000 in
theorem flX9_53 : FL RX9 53 9 6 := ⟨_, _, _, rfl, by decide, tb_in9, tbm 194 (by decide +kernel) rfl⟩
set_option maxRecDepth 100000 in
theorem fpX9_53 : FP RX9 53 9 6 true (.object "RainRecorder$Marks") := ⟨_, _, _, tyX9, rfl, by decide, tb_in9, tbm 194 (by decide +kernel) rfl, tyX9_ok, nmX9, rfl, rfl, fun _ => rfl⟩
set_option maxRecDepth 100000 in
theorem flX11_142 : FL RX11 142 9 6 := ⟨_, _, _, rfl, by decide, tb_in9, tbm 195 (by decide +kernel) rfl⟩
set_option maxRecDepth 100000 in
theorem flX11_47 : FL RX11 47 9 7 := ⟨_, _, _, rfl, by decide, tb_in9, tbm 196 (by decide +kernel) rfl⟩
set_option maxRecDepth 100000 in
theorem fpX11_47 : FP RX11 47 9 7 false (.int) := ⟨_, _, _, tyX9, rfl, by decide, tb_in9, tbm 196 (by decide +kernel) rfl, tyX9_ok, nmX9, rfl, rfl, fun h => nomatch h⟩
set_option maxRecDepth 100000 in
theorem flX6_35 : FL RX6 35 9 7 := ⟨_, _, _, rfl, by decide, tb_in9, tbm 197 (by decide +kernel) rfl⟩
set_option maxRecDepth 100000 in
theorem fpX6_35 : FP RX6 35 9 7 false (.int) := ⟨_, _, _, tyX9, rfl, by decide, tb_in9, tbm 197 (by decide +kernel) rfl, tyX9_ok, nmX9, rfl, rfl, fun h => nomatch h⟩
set_option maxRecDepth 100000 in
theorem flX9_83 : FL RX9 83 9 7 := ⟨_, _, _, rfl, by decide, tb_in9, tbm 198 (by decide +kernel) rfl⟩
set_option maxRecDepth 100000 in
theorem fpX9_83 : FP RX9 83 9 7 false (.int) := ⟨_, _, _, tyX9, rfl, by decide, tb_in9, tbm 198 (by decide +kernel) rfl, tyX9_ok, nmX9, rfl, rfl, fun _ => rfl⟩
set_option maxRecDepth 100000 in
theorem flX9_87 : FL RX9 87 9 8 := ⟨_, _, _, rfl, by decide, tb_in9, tbm 199 (by decide +kernel) rfl⟩
set_option maxRecDepth 100000 in
theorem fpX9_87 : FP RX9 87 9 8 false (.int) := ⟨_, _, _, tyX9, rfl, by decide, tb_in9, tbm 199 (by decide +kernel) rfl, tyX9_ok, nmX9, rfl, rfl, fun _ => rfl⟩
set_option maxRecDepth 100000 in
theorem flX4_11 : FL RX4 11 4 0 := ⟨_, _, _, rfl, by decide, tb_in4, tbm 228 (by decide +kernel) rfl⟩
set_option maxRecDepth 100000 in
theorem fpX4_11 : FP RX4 11 4 0 true (.array (.object "RainRecorder$State")) := ⟨_, _, _, tyX4, rfl, by decide, tb_in4, tbm 228 (by decide +kernel) rfl, tyX4_ok, nmX4, rfl, rfl, fun _ => rfl⟩
set_option maxRecDepth 100000 in
theorem flX4_18 : FL RX4 18 4 1 := ⟨_, _, _, rfl, by decide, tb_in4, tbm 229 (by decide +kernel) rfl⟩
set_option maxRecDepth 100000 in
theorem fpX4_18 : FP RX4 18 4 1 false (.int) := ⟨_, _, _, tyX4, rfl, by decide, tb_in4, tbm 229 (by decide +kernel) rfl, tyX4_ok, nmX4, rfl, rfl, fun _ => rfl⟩
set_option maxRecDepth 100000 in
theorem flX11_101 : FL RX11 101 4 1 := ⟨_, _, _, rfl, by decide, tb_in4, tbm 230 (by decide +kernel) rfl⟩
set_option maxRecDepth 100000 in
theorem fpX11_101 : FP RX11 101 4 1 false (.int) := ⟨_, _, _, tyX4, rfl, by decide, tb_in4, tbm 230 (by decide +kernel) rfl, tyX4_ok, nmX4, rfl, rfl, fun h => nomatch h⟩
set_option maxRecDepth 100000 in
theorem flX6_9 : FL RX6 9 6 0 := ⟨_, _, _, rfl, by decide, tb_in6, tbm 242 (by decide +kernel) rfl⟩
set_option maxRecDepth 100000 in
theorem fpX6_9 : FP RX6 9 6 0 true (.array .int) := ⟨_, _, _, tyX6, rfl, by decide, tb_in6, tbm 242 (by decide +kernel) rfl, tyX6_ok, nmX6, rfl, rfl, fun _ => rfl⟩
set_option maxRecDepth 100000 in
theorem flX6_15 : FL RX6 15 6 1 := ⟨_, _, _, rfl, by decide, tb_in6, tbm 243 (by decide +kernel) rfl⟩
set_option maxRecDepth 100000 in
theorem fpX6_15 : FP RX6 15 6 1 true (.array .boolean) := ⟨_, _, _, tyX6, rfl, by decide, tb_in6, tbm 243 (by decide +kernel) rfl, tyX6_ok, nmX6, rfl, rfl, fun _ => rfl⟩
set_option maxRecDepth 100000 in
theorem flX6_25 : FL RX6 25 6 2 := ⟨_, _, _, rfl, by decide, tb_in6, tbm 244 (by decide +kernel) rfl⟩
set_option maxRecDepth 100000 in
theorem fpX6_25 : FP RX6 25 6 2 false (.int) := ⟨_, _, _, tyX6, rfl, by decide, tb_in6, tbm 244 (by decide +kernel) rfl, tyX6_ok, nmX6, rfl, rfl, fun _ => rfl⟩
set_option maxRecDepth 100000 in
theorem flX10_9 : FL RX10 9 10 0 := ⟨_, _, _, rfl, by decide, tb_in10, tbm 259 (by decide +kernel) rfl⟩
set_option maxRecDepth 100000 in
theorem fpX10_9 : FP RX10 9 10 0 true (.array .char) := ⟨_, _, _, tyX10, rfl, by decide, tb_in10, tbm 259 (by decide +kernel) rfl, tyX10_ok, nmX10, rfl, rfl, fun _ => rfl⟩
set_option maxRecDepth 100000 in
theorem flX11_178 : FL RX11 178 10 1 := ⟨_, _, _, rfl, by decide, tb_in10, tbm 260 (by decide +kernel) rfl⟩
set_option maxRecDepth 100000 in
theorem fpX11_178 : FP RX11 178 10 1 false (.int) := ⟨_, _, _, tyX10, rfl, by decide, tb_in10, tbm 260 (by decide +kernel) rfl, tyX10_ok, nmX10, rfl, rfl, fun h => nomatch h⟩
set_option maxRecDepth 100000 in
theorem flX7_9 : FL RX7 9 7 0 := ⟨_, _, _, rfl, by decide, tb_in7, tbm 273 (by decide +kernel) rfl⟩
set_option maxRecDepth 100000 in
theorem fpX7_9 : FP RX7 9 7 0 true (.array .int) := ⟨_, _, _, tyX7, rfl, by decide, tb_in7, tbm 273 (by decide +kernel) rfl, tyX7_ok, nmX7, rfl, rfl, fun _ => rfl⟩
set_option maxRecDepth 100000 in
theorem flX7_15 : FL RX7 15 7 1 := ⟨_, _, _, rfl, by decide, tb_in7, tbm 274 (by decide +kernel) rfl⟩
set_option maxRecDepth 100000 in
theorem fpX7_15 : FP RX7 15 7 1 true (.array .int) := ⟨_, _, _, tyX7, rfl, by decide, tb_in7, tbm 274 (by decide +kernel) rfl, tyX7_ok, nmX7, rfl, rfl, fun _ => rfl⟩
set_option maxRecDepth 100000 in
theorem flX7_18 : FL RX7 18 7 2 := ⟨_, _, _, rfl, by decide, tb_in7, tbm 275 (by decide +kernel) rfl⟩
set_option maxRecDepth 100000 in
theorem fpX7_18 : FP RX7 18 7 2 true (.array .int) := ⟨_, _, _, tyX7, rfl, by decide, tb_in7, tbm 275 (by decide +kernel) rfl, tyX7_ok, nmX7, rfl, rfl, fun _ => rfl⟩
set_option maxRecDepth 100000 in
theorem flX11_10 : FL RX11 10 11 0 := ⟨_, _, _, rfl, by decide, tb_in11, tbm 291 (by decide +kernel) rfl⟩
set_option maxRecDepth 100000 in
theorem fpX11_10 : FP RX11 10 11 0 true (.object "RainRecorder$State") := ⟨_, _, _, tyX11, rfl, by decide, tb_in11, tbm 291 (by decide +kernel) rfl, tyX11_ok, nmX11, rfl, rfl, fun _ => rfl⟩
set_option maxRecDepth 100000 in
theorem flX11_16 : FL RX11 16 11 1 := ⟨_, _, _, rfl, by decide, tb_in11, tbm 292 (by decide +kernel) rfl⟩
set_option maxRecDepth 100000 in
theorem fpX11_16 : FP RX11 16 11 1 true (.object "RainRecorder$State") := ⟨_, _, _, tyX11, rfl, by decide, tb_in11, tbm 292 (by decide +kernel) rfl, tyX11_ok, nmX11, rfl, rfl, fun _ => rfl⟩
set_option maxRecDepth 100000 in
theorem flX11_22 : FL RX11 22 11 2 := ⟨_, _, _, rfl, by decide, tb_in11, tbm 293 (by decide +kernel) rfl⟩
set_option maxRecDepth 100000 in
theorem fpX11_22 : FP RX11 22 11 2 true (.object "RainRecorder$History") := ⟨_, _, _, tyX11, rfl, by decide, tb_in11, tbm 293 (by decide +kernel) rfl, tyX11_ok, nmX11, rfl, rfl, fun _ => rfl⟩
set_option maxRecDepth 100000 in
theorem flX11_29 : FL RX11 29 11 3 := ⟨_, _, _, rfl, by decide, tb_in11, tbm 294 (by decide +kernel) rfl⟩
set_option maxRecDepth 100000 in
theorem fpX11_29 : FP RX11 29 11 3 true (.object "RainRecorder$Outlook") := ⟨_, _, _, tyX11, rfl, by decide, tb_in11, tbm 294 (by decide +kernel) rfl, tyX11_ok, nmX11, rfl, rfl, fun _ => rfl⟩
set_option maxRecDepth 100000 in
theorem flX11_36 : FL RX11 36 11 4 := ⟨_, _, _, rfl, by decide, tb_in11, tbm 295 (by decide +kernel) rfl⟩
set_option maxRecDepth 100000 in
theorem fpX11_36 : FP RX11 36 11 4 true (.object "RainRecorder$Text") := ⟨_, _, _, tyX11, rfl, by decide, tb_in11, tbm 295 (by decide +kernel) rfl, tyX11_ok, nmX11, rfl, rfl, fun _ => rfl⟩
set_option maxRecDepth 100000 in
theorem flX11_43 : FL RX11 43 11 5 := ⟨_, _, _, rfl, by decide, tb_in11, tbm 296 (by decide +kernel) rfl⟩
set_option maxRecDepth 100000 in
theorem fpX11_43 : FP RX11 43 11 5 true (.object "RainRecorder$Reading") := ⟨_, _, _, tyX11, rfl, by decide, tb_in11, tbm 296 (by decide +kernel) rfl, tyX11_ok, nmX11, rfl, rfl, fun _ => rfl⟩
set_option maxRecDepth 100000 in
theorem gsX11_105 : Cond.fieldLink RX11 105 RX11 "LEAST_VALUES" "[I" ∈ TB := tbm 452 (by decide +kernel) rfl
set_option maxRecDepth 100000 in
theorem gsX11_108 : Cond.fieldLink RX11 108 RX11 "GREATEST_VALUES" "[I" ∈ TB := tbm 454 (by decide +kernel) rfl
set_option maxRecDepth 100000 in
theorem mlL_44 : MLI RL 44 yX11_init cX11_init 1 0 := ⟨⟨tbm 10 (by decide +kernel) rfl, tbm 28 (by decide +kernel) rfl, ⟨by decide, by decide, by decide +kernel⟩, by decide, Or.inl (tbm 26 (by decide +kernel) rfl)⟩, rfl, tbm 27 (by decide +kernel) rfl⟩
set_option maxRecDepth 100000 in
theorem mlX11_9 : MLI RX11 9 yX9_init cX9_init 1 0 := ⟨⟨tbm 11 (by decide +kernel) rfl, tbm 36 (by decide +kernel) rfl, ⟨by decide, by decide, by decide +kernel⟩, by decide, Or.inl (tbm 34 (by decide +kernel) rfl)⟩, rfl, tbm 35 (by decide +kernel) rfl⟩
set_option maxRecDepth 100000 in
theorem mlX9_17 : MLI RX9 17 yX8_init cX8_init 1 0 := ⟨⟨tbm 12 (by decide +kernel) rfl, tbm 42 (by decide +kernel) rfl, ⟨by decide, by decide, by decide +kernel⟩, by decide, Or.inr ⟨"RainRecorder", tnm 40 (by decide +kernel) rfl⟩⟩, rfl, tbm 41 (by decide +kernel) rfl⟩
set_option maxRecDepth 100000 in
theorem mlX9_24 : MLI RX9 24 yX2_init cX2_init 1 0 := ⟨⟨tbm 13 (by decide +kernel) rfl, tbm 66 (by decide +kernel) rfl, ⟨by decide, by decide, by decide +kernel⟩, by decide, Or.inr ⟨"RainRecorder", tnm 64 (by decide +kernel) rfl⟩⟩, rfl, tbm 65 (by decide +kernel) rfl⟩
set_option maxRecDepth 100000 in
theorem mlX9_31 : MLI RX9 31 yX0_init cX0_init 1 0 := ⟨⟨tbm 14 (by decide +kernel) rfl, tbm 81 (by decide +kernel) rfl, ⟨by decide, by decide, by decide +kernel⟩, by decide, Or.inr ⟨"RainRecorder", tnm 79 (by decide +kernel) rfl⟩⟩, rfl, tbm 80 (by decide +kernel) rfl⟩
set_option maxRecDepth 100000 in
theorem mlX9_38 : MLI RX9 38 yX1_init cX1_init 1 0 := ⟨⟨tbm 15 (by decide +kernel) rfl, tbm 114 (by decide +kernel) rfl, ⟨by decide, by decide, by decide +kernel⟩, by decide, Or.inr ⟨"RainRecorder", tnm 112 (by decide +kernel) rfl⟩⟩, rfl, tbm 113 (by decide +kernel) rfl⟩
set_option maxRecDepth 100000 in
theorem mlX9_45 : MLI RX9 45 yX3_init cX3_init 1 0 := ⟨⟨tbm 16 (by decide +kernel) rfl, tbm 132 (by decide +kernel) rfl, ⟨by decide, by decide, by decide +kernel⟩, by decide, Or.inr ⟨"RainRecorder", tnm 130 (by decide +kernel) rfl⟩⟩, rfl, tbm 131 (by decide +kernel) rfl⟩
set_option maxRecDepth 100000 in
theorem mlX9_52 : MLI RX9 52 yX5_init cX5_init 1 0 := ⟨⟨tbm 17 (by decide +kernel) rfl, tbm 149 (by decide +kernel) rfl, ⟨by decide, by decide, by decide +kernel⟩, by decide, Or.inr ⟨"RainRecorder", tnm 147 (by decide +kernel) rfl⟩⟩, rfl, tbm 148 (by decide +kernel) rfl⟩
set_option maxRecDepth 100000 in
theorem mlX9_60 : MLS RX9 60 yX11_copyRow cX11_copyRow 2 none 2 := ⟨⟨tbm 10 (by decide +kernel) rfl, tbm 171 (by decide +kernel) rfl, ⟨by decide, by decide, by decide +kernel⟩, by decide, Or.inr ⟨"RainRecorder", tnm 169 (by decide +kernel) rfl⟩⟩, tbm 170 (by decide +kernel) rfl⟩
set_option maxRecDepth 100000 in
theorem mlX11_264 : MLS RX11 264 yJ9_min_7cf53 cJ9_min_7cf53 2 (some .int) 2 := ⟨⟨tbm 18 (by decide +kernel) rfl, tbm 174 (by decide +kernel) rfl, ⟨by decide, by decide, by decide +kernel⟩, by decide, Or.inl (tbm 172 (by decide +kernel) rfl)⟩, tbm 173 (by decide +kernel) rfl⟩
set_option maxRecDepth 100000 in
theorem mlX11_21 : MLI RX11 21 yX4_init cX4_init 2 0 := ⟨⟨tbm 20 (by decide +kernel) rfl, tbm 223 (by decide +kernel) rfl, ⟨by decide, by decide, by decide +kernel⟩, by decide, Or.inl (tbm 221 (by decide +kernel) rfl)⟩, rfl, tbm 222 (by decide +kernel) rfl⟩
set_option maxRecDepth 100000 in
theorem mlX4_17 : MLI RX4 17 yX9_init cX9_init 1 0 := ⟨⟨tbm 11 (by decide +kernel) rfl, tbm 36 (by decide +kernel) rfl, ⟨by decide, by decide, by decide +kernel⟩, by decide, Or.inl (tbm 227 (by decide +kernel) rfl)⟩, rfl, tbm 35 (by decide +kernel) rfl⟩
set_option maxRecDepth 100000 in
theorem mlX11_28 : MLI RX11 28 yX6_init cX6_init 1 0 := ⟨⟨tbm 21 (by decide +kernel) rfl, tbm 240 (by decide +kernel) rfl, ⟨by decide, by decide, by decide +kernel⟩, by decide, Or.inr ⟨"RainRecorder", tnm 238 (by decide +kernel) rfl⟩⟩, rfl, tbm 239 (by decide +kernel) rfl⟩
set_option maxRecDepth 100000 in
theorem mlX11_35 : MLI RX11 35 yX10_init cX10_init 1 0 := ⟨⟨tbm 22 (by decide +kernel) rfl, tbm 257 (by decide +kernel) rfl, ⟨by decide, by decide, by decide +kernel⟩, by decide, Or.inr ⟨"RainRecorder", tnm 255 (by decide +kernel) rfl⟩⟩, rfl, tbm 256 (by decide +kernel) rfl⟩
set_option maxRecDepth 100000 in
theorem mlX11_42 : MLI RX11 42 yX7_init cX7_init 1 0 := ⟨⟨tbm 23 (by decide +kernel) rfl, tbm 271 (by decide +kernel) rfl, ⟨by decide, by decide, by decide +kernel⟩, by decide, Or.inr ⟨"RainRecorder", tnm 269 (by decide +kernel) rfl⟩⟩, rfl, tbm 270 (by decide +kernel) rfl⟩
set_option maxRecDepth 100000 in
theorem mlL_52 : MLV RL 52 yX11_addShower cX11_addShower 4 (some .int) 3 := ⟨⟨tbm 10 (by decide +kernel) rfl, tbm 313 (by decide +kernel) rfl, ⟨by decide, by decide, by decide +kernel⟩, by decide, Or.inl (tbm 310 (by decide +kernel) rfl)⟩, tbm 310 (by decide +kernel) rfl, tbm 311 (by decide +kernel) rfl, tbm 312 (by decide +kernel) rfl⟩
set_option maxRecDepth 100000 in
theorem mlX11_51 : MLS RX11 51 yX11_isWithin cX11_isWithin 3 (some .boolean) 3 := ⟨⟨tbm 10 (by decide +kernel) rfl, tbm 316 (by decide +kernel) rfl, ⟨by decide, by decide, by decide +kernel⟩, by decide, Or.inl (tbm 314 (by decide +kernel) rfl)⟩, tbm 315 (by decide +kernel) rfl⟩
set_option maxRecDepth 100000 in
theorem mlX11_64 : MLV RX11 64 yX4_keep cX4_keep 2 none 1 := ⟨⟨tbm 20 (by decide +kernel) rfl, tbm 320 (by decide +kernel) rfl, ⟨by decide, by decide, by decide +kernel⟩, by decide, Or.inl (tbm 317 (by decide +kernel) rfl)⟩, tbm 317 (by decide +kernel) rfl, tbm 318 (by decide +kernel) rfl, tbm 319 (by decide +kernel) rfl⟩
set_option maxRecDepth 100000 in
theorem mlX4_22 : MLV RX4 22 yX4_dropOldest cX4_dropOldest 3 none 0 := ⟨⟨tbm 20 (by decide +kernel) rfl, tbm 324 (by decide +kernel) rfl, ⟨by decide, by decide, by decide +kernel⟩, by decide, Or.inl (tbm 321 (by decide +kernel) rfl)⟩, tbm 321 (by decide +kernel) rfl, tbm 323 (by decide +kernel) rfl, tbm 0 (by decide +kernel) rfl⟩
set_option maxRecDepth 100000 in
theorem mlX4_25 : MLV RX4 25 yX9_copyFrom cX9_copyFrom 2 none 1 := ⟨⟨tbm 11 (by decide +kernel) rfl, tbm 328 (by decide +kernel) rfl, ⟨by decide, by decide, by decide +kernel⟩, by decide, Or.inl (tbm 325 (by decide +kernel) rfl)⟩, tbm 325 (by decide +kernel) rfl, tbm 326 (by decide +kernel) rfl, tbm 327 (by decide +kernel) rfl⟩
set_option maxRecDepth 100000 in
theorem mlX9_64 : MLV RX9 64 yX8_copyFrom cX8_copyFrom 2 none 1 := ⟨⟨tbm 12 (by decide +kernel) rfl, tbm 332 (by decide +kernel) rfl, ⟨by decide, by decide, by decide +kernel⟩, by decide, Or.inl (tbm 329 (by decide +kernel) rfl)⟩, tbm 329 (by decide +kernel) rfl, tbm 330 (by decide +kernel) rfl, tbm 331 (by decide +kernel) rfl⟩
set_option maxRecDepth 100000 in
theorem mlX8_21 : MLS RX8 21 yX11_copyRow cX11_copyRow 2 none 2 := ⟨⟨tbm 10 (by decide +kernel) rfl, tbm 171 (by decide +kernel) rfl, ⟨by decide, by decide, by decide +kernel⟩, by decide, Or.inr ⟨"RainRecorder", tnm 333 (by decide +kernel) rfl⟩⟩, tbm 170 (by decide +kernel) rfl⟩
set_option maxRecDepth 100000 in
theorem mlX9_68 : MLV RX9 68 yX2_copyFrom cX2_copyFrom 2 none 1 := ⟨⟨tbm 13 (by decide +kernel) rfl, tbm 337 (by decide +kernel) rfl, ⟨by decide, by decide, by decide +kernel⟩, by decide, Or.inl (tbm 334 (by decide +kernel) rfl)⟩, tbm 334 (by decide +kernel) rfl, tbm 335 (by decide +kernel) rfl, tbm 336 (by decide +kernel) rfl⟩
set_option maxRecDepth 100000 in
theorem mlX9_71 : MLV RX9 71 yX0_copyFrom cX0_copyFrom 2 none 1 := ⟨⟨tbm 14 (by decide +kernel) rfl, tbm 341 (by decide +kernel) rfl, ⟨by decide, by decide, by decide +kernel⟩, by decide, Or.inl (tbm 338 (by decide +kernel) rfl)⟩, tbm 338 (by decide +kernel) rfl, tbm 339 (by decide +kernel) rfl, tbm 340 (by decide +kernel) rfl⟩
set_option maxRecDepth 100000 in
theorem mlX9_74 : MLV RX9 74 yX1_copyFrom cX1_copyFrom 2 none 1 := ⟨⟨tbm 15 (by decide +kernel) rfl, tbm 345 (by decide +kernel) rfl, ⟨by decide, by decide, by decide +kernel⟩, by decide, Or.inl (tbm 342 (by decide +kernel) rfl)⟩, tbm 342 (by decide +kernel) rfl, tbm 343 (by decide +kernel) rfl, tbm 344 (by decide +kernel) rfl⟩
set_option maxRecDepth 100000 in
theorem mlX9_77 : MLV RX9 77 yX3_copyFrom cX3_copyFrom 2 none 1 := ⟨⟨tbm 16 (by decide +kernel) rfl, tbm 349 (by decide +kernel) rfl, ⟨by decide, by decide, by decide +kernel⟩, by decide, Or.inl (tbm 346 (by decide +kernel) rfl)⟩, tbm 346 (by decide +kernel) rfl, tbm 347 (by decide +kernel) rfl, tbm 348 (by decide +kernel) rfl⟩
set_option maxRecDepth 100000 in
theorem mlX3_18 : MLS RX3 18 yX11_copyRow cX11_copyRow 2 none 2 := ⟨⟨tbm 10 (by decide +kernel) rfl, tbm 171 (by decide +kernel) rfl, ⟨by decide, by decide, by decide +kernel⟩, by decide, Or.inr ⟨"RainRecorder", tnm 350 (by decide +kernel) rfl⟩⟩, tbm 170 (by decide +kernel) rfl⟩
set_option maxRecDepth 100000 in
theorem mlX9_80 : MLV RX9 80 yX5_copyFrom cX5_copyFrom 2 none 1 := ⟨⟨tbm 17 (by decide +kernel) rfl, tbm 354 (by decide +kernel) rfl, ⟨by decide, by decide, by decide +kernel⟩, by decide, Or.inl (tbm 351 (by decide +kernel) rfl)⟩, tbm 351 (by decide +kernel) rfl, tbm 352 (by decide +kernel) rfl, tbm 353 (by decide +kernel) rfl⟩
set_option maxRecDepth 100000 in
theorem mlX5_21 : MLS RX5 21 yX11_copyRow cX11_copyRow 2 none 2 := ⟨⟨tbm 10 (by decide +kernel) rfl, tbm 171 (by decide +kernel) rfl, ⟨by decide, by decide, by decide +kernel⟩, by decide, Or.inr ⟨"RainRecorder", tnm 355 (by decide +kernel) rfl⟩⟩, tbm 170 (by decide +kernel) rfl⟩
set_option maxRecDepth 100000 in
theorem mlX11_68 : MLV RX11 68 yX8_insert cX8_insert 5 (some .int) 3 := ⟨⟨tbm 12 (by decide +kernel) rfl, tbm 359 (by decide +kernel) rfl, ⟨by decide, by decide, by decide +kernel⟩, by decide, Or.inl (tbm 356 (by decide +kernel) rfl)⟩, tbm 356 (by decide +kernel) rfl, tbm 357 (by decide +kernel) rfl, tbm 358 (by decide +kernel) rfl⟩
set_option maxRecDepth 100000 in
theorem mlX8_29 : MLV RX8 29 yX8_move cX8_move 3 none 2 := ⟨⟨tbm 12 (by decide +kernel) rfl, tbm 363 (by decide +kernel) rfl, ⟨by decide, by decide, by decide +kernel⟩, by decide, Or.inl (tbm 360 (by decide +kernel) rfl)⟩, tbm 360 (by decide +kernel) rfl, tbm 362 (by decide +kernel) rfl, tbm 1 (by decide +kernel) rfl⟩
set_option maxRecDepth 100000 in
theorem mlL_25 : MLV RL 25 yX11_shower cX11_shower 3 (some .int) 2 := ⟨⟨tbm 10 (by decide +kernel) rfl, tbm 367 (by decide +kernel) rfl, ⟨by decide, by decide, by decide +kernel⟩, by decide, Or.inl (tbm 364 (by decide +kernel) rfl)⟩, tbm 364 (by decide +kernel) rfl, tbm 365 (by decide +kernel) rfl, tbm 366 (by decide +kernel) rfl⟩
set_option maxRecDepth 100000 in
theorem mlX11_72 : MLV RX11 72 yX8_has cX8_has 2 (some .boolean) 1 := ⟨⟨tbm 12 (by decide +kernel) rfl, tbm 371 (by decide +kernel) rfl, ⟨by decide, by decide, by decide +kernel⟩, by decide, Or.inl (tbm 368 (by decide +kernel) rfl)⟩, tbm 368 (by decide +kernel) rfl, tbm 369 (by decide +kernel) rfl, tbm 370 (by decide +kernel) rfl⟩
set_option maxRecDepth 100000 in
theorem mlX11_90 : MLV RX11 90 yX8_ticksToCome cX8_ticksToCome 3 (some .int) 2 := ⟨⟨tbm 12 (by decide +kernel) rfl, tbm 375 (by decide +kernel) rfl, ⟨by decide, by decide, by decide +kernel⟩, by decide, Or.inl (tbm 372 (by decide +kernel) rfl)⟩, tbm 372 (by decide +kernel) rfl, tbm 373 (by decide +kernel) rfl, tbm 374 (by decide +kernel) rfl⟩
set_option maxRecDepth 100000 in
theorem mlX8_33 : MLV RX8 33 yX8_has cX8_has 2 (some .boolean) 1 := ⟨⟨tbm 12 (by decide +kernel) rfl, tbm 371 (by decide +kernel) rfl, ⟨by decide, by decide, by decide +kernel⟩, by decide, Or.inl (tbm 376 (by decide +kernel) rfl)⟩, tbm 376 (by decide +kernel) rfl, tbm 369 (by decide +kernel) rfl, tbm 370 (by decide +kernel) rfl⟩
set_option maxRecDepth 100000 in
theorem mlX8_37 : MLS RX8 37 yJ9_max_7cf53 cJ9_max_7cf53 2 (some .int) 2 := ⟨⟨tbm 18 (by decide +kernel) rfl, tbm 379 (by decide +kernel) rfl, ⟨by decide, by decide, by decide +kernel⟩, by decide, Or.inl (tbm 377 (by decide +kernel) rfl)⟩, tbm 378 (by decide +kernel) rfl⟩
set_option maxRecDepth 100000 in
theorem mlL_32 : MLV RL 32 yX11_run cX11_run 3 (some .int) 1 := ⟨⟨tbm 10 (by decide +kernel) rfl, tbm 383 (by decide +kernel) rfl, ⟨by decide, by decide, by decide +kernel⟩, by decide, Or.inl (tbm 380 (by decide +kernel) rfl)⟩, tbm 380 (by decide +kernel) rfl, tbm 381 (by decide +kernel) rfl, tbm 382 (by decide +kernel) rfl⟩
set_option maxRecDepth 100000 in
theorem mlX11_94 : MLV RX11 94 yX11_errorOfTicks cX11_errorOfTicks 2 (some .int) 1 := ⟨⟨tbm 10 (by decide +kernel) rfl, tbm 387 (by decide +kernel) rfl, ⟨by decide, by decide, by decide +kernel⟩, by decide, Or.inl (tbm 384 (by decide +kernel) rfl)⟩, tbm 384 (by decide +kernel) rfl, tbm 386 (by decide +kernel) rfl, tbm 2 (by decide +kernel) rfl⟩
set_option maxRecDepth 100000 in
theorem mlX11_98 : MLV RX11 98 yX9_passTicks cX9_passTicks 4 (some .int) 1 := ⟨⟨tbm 11 (by decide +kernel) rfl, tbm 391 (by decide +kernel) rfl, ⟨by decide, by decide, by decide +kernel⟩, by decide, Or.inl (tbm 388 (by decide +kernel) rfl)⟩, tbm 388 (by decide +kernel) rfl, tbm 389 (by decide +kernel) rfl, tbm 390 (by decide +kernel) rfl⟩
set_option maxRecDepth 100000 in
theorem mlX9_90 : MLV RX9 90 yX9_passTick cX9_passTick 4 (some .boolean) 0 := ⟨⟨tbm 11 (by decide +kernel) rfl, tbm 395 (by decide +kernel) rfl, ⟨by decide, by decide, by decide +kernel⟩, by decide, Or.inl (tbm 392 (by decide +kernel) rfl)⟩, tbm 392 (by decide +kernel) rfl, tbm 394 (by decide +kernel) rfl, tbm 3 (by decide +kernel) rfl⟩
set_option maxRecDepth 100000 in
theorem mlX9_94 : MLV RX9 94 yX8_rainIn cX8_rainIn 4 (some .int) 1 := ⟨⟨tbm 12 (by decide +kernel) rfl, tbm 399 (by decide +kernel) rfl, ⟨by decide, by decide, by decide +kernel⟩, by decide, Or.inl (tbm 396 (by decide +kernel) rfl)⟩, tbm 396 (by decide +kernel) rfl, tbm 397 (by decide +kernel) rfl, tbm 398 (by decide +kernel) rfl⟩
set_option maxRecDepth 100000 in
theorem mlX9_98 : MLV RX9 98 yX2_passTick cX2_passTick 6 (some .int) 3 := ⟨⟨tbm 13 (by decide +kernel) rfl, tbm 403 (by decide +kernel) rfl, ⟨by decide, by decide, by decide +kernel⟩, by decide, Or.inl (tbm 400 (by decide +kernel) rfl)⟩, tbm 400 (by decide +kernel) rfl, tbm 401 (by decide +kernel) rfl, tbm 402 (by decide +kernel) rfl⟩
set_option maxRecDepth 100000 in
theorem mlX2_16 : MLS RX2 16 yJ9_max_7cf53 cJ9_max_7cf53 2 (some .int) 2 := ⟨⟨tbm 18 (by decide +kernel) rfl, tbm 379 (by decide +kernel) rfl, ⟨by decide, by decide, by decide +kernel⟩, by decide, Or.inl (tbm 404 (by decide +kernel) rfl)⟩, tbm 378 (by decide +kernel) rfl⟩
set_option maxRecDepth 100000 in
theorem mlX2_22 : MLS RX2 22 yJ9_min_7cf53 cJ9_min_7cf53 2 (some .int) 2 := ⟨⟨tbm 18 (by decide +kernel) rfl, tbm 174 (by decide +kernel) rfl, ⟨by decide, by decide, by decide +kernel⟩, by decide, Or.inl (tbm 405 (by decide +kernel) rfl)⟩, tbm 173 (by decide +kernel) rfl⟩
set_option maxRecDepth 100000 in
theorem mlX9_101 : MLV RX9 101 yX0_passTick cX0_passTick 7 (some .int) 5 := ⟨⟨tbm 14 (by decide +kernel) rfl, tbm 409 (by decide +kernel) rfl, ⟨by decide, by decide, by decide +kernel⟩, by decide, Or.inl (tbm 406 (by decide +kernel) rfl)⟩, tbm 406 (by decide +kernel) rfl, tbm 407 (by decide +kernel) rfl, tbm 408 (by decide +kernel) rfl⟩
set_option maxRecDepth 100000 in
theorem mlX0_30 : MLS RX0 30 yJ9_min_7cf53 cJ9_min_7cf53 2 (some .int) 2 := ⟨⟨tbm 18 (by decide +kernel) rfl, tbm 174 (by decide +kernel) rfl, ⟨by decide, by decide, by decide +kernel⟩, by decide, Or.inl (tbm 410 (by decide +kernel) rfl)⟩, tbm 173 (by decide +kernel) rfl⟩
set_option maxRecDepth 100000 in
theorem mlX0_36 : MLV RX0 36 yX0_tip cX0_tip 4 (some .int) 2 := ⟨⟨tbm 14 (by decide +kernel) rfl, tbm 414 (by decide +kernel) rfl, ⟨by decide, by decide, by decide +kernel⟩, by decide, Or.inl (tbm 411 (by decide +kernel) rfl)⟩, tbm 411 (by decide +kernel) rfl, tbm 413 (by decide +kernel) rfl, tbm 4 (by decide +kernel) rfl⟩
set_option maxRecDepth 100000 in
theorem mlX9_104 : MLV RX9 104 yX9_drumPlace cX9_drumPlace 1 (some .int) 0 := ⟨⟨tbm 11 (by decide +kernel) rfl, tbm 418 (by decide +kernel) rfl, ⟨by decide, by decide, by decide +kernel⟩, by decide, Or.inl (tbm 415 (by decide +kernel) rfl)⟩, tbm 415 (by decide +kernel) rfl, tbm 416 (by decide +kernel) rfl, tbm 417 (by decide +kernel) rfl⟩
set_option maxRecDepth 100000 in
theorem mlX9_121 : MLV RX9 121 yX3_placeOf cX3_placeOf 8 (some .int) 2 := ⟨⟨tbm 16 (by decide +kernel) rfl, tbm 422 (by decide +kernel) rfl, ⟨by decide, by decide, by decide +kernel⟩, by decide, Or.inl (tbm 419 (by decide +kernel) rfl)⟩, tbm 419 (by decide +kernel) rfl, tbm 420 (by decide +kernel) rfl, tbm 421 (by decide +kernel) rfl⟩
set_option maxRecDepth 100000 in
theorem mlX9_108 : MLV RX9 108 yX5_append cX5_append 4 none 3 := ⟨⟨tbm 17 (by decide +kernel) rfl, tbm 426 (by decide +kernel) rfl, ⟨by decide, by decide, by decide +kernel⟩, by decide, Or.inl (tbm 423 (by decide +kernel) rfl)⟩, tbm 423 (by decide +kernel) rfl, tbm 424 (by decide +kernel) rfl, tbm 425 (by decide +kernel) rfl⟩
set_option maxRecDepth 100000 in
theorem mlX5_29 : MLV RX5 29 yX5_removeOldest cX5_removeOldest 1 none 0 := ⟨⟨tbm 17 (by decide +kernel) rfl, tbm 430 (by decide +kernel) rfl, ⟨by decide, by decide, by decide +kernel⟩, by decide, Or.inl (tbm 427 (by decide +kernel) rfl)⟩, tbm 427 (by decide +kernel) rfl, tbm 429 (by decide +kernel) rfl, tbm 5 (by decide +kernel) rfl⟩
set_option maxRecDepth 100000 in
theorem mlX9_112 : MLV RX9 112 yX1_passTick cX1_passTick 1 none 0 := ⟨⟨tbm 15 (by decide +kernel) rfl, tbm 435 (by decide +kernel) rfl, ⟨by decide, by decide, by decide +kernel⟩, by decide, Or.inl (tbm 432 (by decide +kernel) rfl)⟩, tbm 432 (by decide +kernel) rfl, tbm 433 (by decide +kernel) rfl, tbm 434 (by decide +kernel) rfl⟩
set_option maxRecDepth 100000 in
theorem mlX9_114 : MLV RX9 114 yX8_removeEnded cX8_removeEnded 4 none 1 := ⟨⟨tbm 12 (by decide +kernel) rfl, tbm 439 (by decide +kernel) rfl, ⟨by decide, by decide, by decide +kernel⟩, by decide, Or.inl (tbm 436 (by decide +kernel) rfl)⟩, tbm 436 (by decide +kernel) rfl, tbm 437 (by decide +kernel) rfl, tbm 438 (by decide +kernel) rfl⟩
set_option maxRecDepth 100000 in
theorem mlL_41 : MLV RL 41 yX11_undo cX11_undo 1 (some .int) 0 := ⟨⟨tbm 10 (by decide +kernel) rfl, tbm 443 (by decide +kernel) rfl, ⟨by decide, by decide, by decide +kernel⟩, by decide, Or.inl (tbm 440 (by decide +kernel) rfl)⟩, tbm 440 (by decide +kernel) rfl, tbm 441 (by decide +kernel) rfl, tbm 442 (by decide +kernel) rfl⟩
set_option maxRecDepth 100000 in
theorem mlX11_102 : MLV RX11 102 yX4_restoreInto cX4_restoreInto 2 none 1 := ⟨⟨tbm 20 (by decide +kernel) rfl, tbm 447 (by decide +kernel) rfl, ⟨by decide, by decide, by decide +kernel⟩, by decide, Or.inl (tbm 444 (by decide +kernel) rfl)⟩, tbm 444 (by decide +kernel) rfl, tbm 445 (by decide +kernel) rfl, tbm 446 (by decide +kernel) rfl⟩
set_option maxRecDepth 100000 in
theorem mlL_49 : MLV RL 49 yX11_set cX11_set 4 (some .int) 2 := ⟨⟨tbm 10 (by decide +kernel) rfl, tbm 451 (by decide +kernel) rfl, ⟨by decide, by decide, by decide +kernel⟩, by decide, Or.inl (tbm 448 (by decide +kernel) rfl)⟩, tbm 448 (by decide +kernel) rfl, tbm 449 (by decide +kernel) rfl, tbm 450 (by decide +kernel) rfl⟩
set_option maxRecDepth 100000 in
theorem mlL_56 : MLV RL 56 yX11_wind cX11_wind 2 (some .int) 0 := ⟨⟨tbm 10 (by decide +kernel) rfl, tbm 459 (by decide +kernel) rfl, ⟨by decide, by decide, by decide +kernel⟩, by decide, Or.inl (tbm 456 (by decide +kernel) rfl)⟩, tbm 456 (by decide +kernel) rfl, tbm 457 (by decide +kernel) rfl, tbm 458 (by decide +kernel) rfl⟩
set_option maxRecDepth 100000 in
theorem mlL_15 : MLV RL 15 yX11_count cX11_count 2 (some .int) 1 := ⟨⟨tbm 10 (by decide +kernel) rfl, tbm 463 (by decide +kernel) rfl, ⟨by decide, by decide, by decide +kernel⟩, by decide, Or.inl (tbm 460 (by decide +kernel) rfl)⟩, tbm 460 (by decide +kernel) rfl, tbm 461 (by decide +kernel) rfl, tbm 462 (by decide +kernel) rfl⟩
set_option maxRecDepth 100000 in
theorem mlX11_149 : MLV RX11 149 yX5_countStorms cX5_countStorms 4 (some .int) 1 := ⟨⟨tbm 17 (by decide +kernel) rfl, tbm 467 (by decide +kernel) rfl, ⟨by decide, by decide, by decide +kernel⟩, by decide, Or.inl (tbm 464 (by decide +kernel) rfl)⟩, tbm 464 (by decide +kernel) rfl, tbm 465 (by decide +kernel) rfl, tbm 466 (by decide +kernel) rfl⟩
set_option maxRecDepth 100000 in
theorem mlX5_51 : MLV RX5 51 yX5_beginsStorm cX5_beginsStorm 3 (some .boolean) 2 := ⟨⟨tbm 17 (by decide +kernel) rfl, tbm 471 (by decide +kernel) rfl, ⟨by decide, by decide, by decide +kernel⟩, by decide, Or.inl (tbm 468 (by decide +kernel) rfl)⟩, tbm 468 (by decide +kernel) rfl, tbm 470 (by decide +kernel) rfl, tbm 6 (by decide +kernel) rfl⟩
set_option maxRecDepth 100000 in
theorem mlX5_42 : MLV RX5 42 yX5_ticksBetween cX5_ticksBetween 3 (some .int) 2 := ⟨⟨tbm 17 (by decide +kernel) rfl, tbm 475 (by decide +kernel) rfl, ⟨by decide, by decide, by decide +kernel⟩, by decide, Or.inl (tbm 472 (by decide +kernel) rfl)⟩, tbm 472 (by decide +kernel) rfl, tbm 473 (by decide +kernel) rfl, tbm 474 (by decide +kernel) rfl⟩
set_option maxRecDepth 100000 in
theorem mlX5_38 : MLV RX5 38 yX5_has cX5_has 2 (some .boolean) 1 := ⟨⟨tbm 17 (by decide +kernel) rfl, tbm 479 (by decide +kernel) rfl, ⟨by decide, by decide, by decide +kernel⟩, by decide, Or.inl (tbm 476 (by decide +kernel) rfl)⟩, tbm 476 (by decide +kernel) rfl, tbm 477 (by decide +kernel) rfl, tbm 478 (by decide +kernel) rfl⟩
set_option maxRecDepth 100000 in
theorem mlX11_174 : MLV RX11 174 yX9_drumPlace cX9_drumPlace 1 (some .int) 0 := ⟨⟨tbm 11 (by decide +kernel) rfl, tbm 418 (by decide +kernel) rfl, ⟨by decide, by decide, by decide +kernel⟩, by decide, Or.inl (tbm 480 (by decide +kernel) rfl)⟩, tbm 480 (by decide +kernel) rfl, tbm 416 (by decide +kernel) rfl, tbm 417 (by decide +kernel) rfl⟩
set_option maxRecDepth 100000 in
theorem mlX11_181 : MLV RX11 181 yX8_rainIn cX8_rainIn 4 (some .int) 1 := ⟨⟨tbm 12 (by decide +kernel) rfl, tbm 399 (by decide +kernel) rfl, ⟨by decide, by decide, by decide +kernel⟩, by decide, Or.inl (tbm 481 (by decide +kernel) rfl)⟩, tbm 481 (by decide +kernel) rfl, tbm 397 (by decide +kernel) rfl, tbm 398 (by decide +kernel) rfl⟩
set_option maxRecDepth 100000 in
theorem mlL_9 : MLV RL 9 yX11_account cX11_account 2 (some .int) 1 := ⟨⟨tbm 10 (by decide +kernel) rfl, tbm 485 (by decide +kernel) rfl, ⟨by decide, by decide, by decide +kernel⟩, by decide, Or.inl (tbm 482 (by decide +kernel) rfl)⟩, tbm 482 (by decide +kernel) rfl, tbm 483 (by decide +kernel) rfl, tbm 484 (by decide +kernel) rfl⟩
set_option maxRecDepth 100000 in
theorem mlX11_184 : MLV RX11 184 yX9_accountOf cX9_accountOf 2 (some .int) 1 := ⟨⟨tbm 11 (by decide +kernel) rfl, tbm 489 (by decide +kernel) rfl, ⟨by decide, by decide, by decide +kernel⟩, by decide, Or.inl (tbm 486 (by decide +kernel) rfl)⟩, tbm 486 (by decide +kernel) rfl, tbm 487 (by decide +kernel) rfl, tbm 488 (by decide +kernel) rfl⟩
set_option maxRecDepth 100000 in
theorem mlL_72 : MLV RL 72 yX11_gapForOne cX11_gapForOne 2 (some .int) 0 := ⟨⟨tbm 10 (by decide +kernel) rfl, tbm 493 (by decide +kernel) rfl, ⟨by decide, by decide, by decide +kernel⟩, by decide, Or.inl (tbm 490 (by decide +kernel) rfl)⟩, tbm 490 (by decide +kernel) rfl, tbm 491 (by decide +kernel) rfl, tbm 492 (by decide +kernel) rfl⟩
set_option maxRecDepth 100000 in
theorem mlX11_215 : MLV RX11 215 yX5_widestGap cX5_widestGap 3 (some .int) 0 := ⟨⟨tbm 17 (by decide +kernel) rfl, tbm 497 (by decide +kernel) rfl, ⟨by decide, by decide, by decide +kernel⟩, by decide, Or.inl (tbm 494 (by decide +kernel) rfl)⟩, tbm 494 (by decide +kernel) rfl, tbm 495 (by decide +kernel) rfl, tbm 496 (by decide +kernel) rfl⟩
set_option maxRecDepth 100000 in
theorem mlX5_46 : MLS RX5 46 yJ9_max_7cf53 cJ9_max_7cf53 2 (some .int) 2 := ⟨⟨tbm 18 (by decide +kernel) rfl, tbm 379 (by decide +kernel) rfl, ⟨by decide, by decide, by decide +kernel⟩, by decide, Or.inl (tbm 498 (by decide +kernel) rfl)⟩, tbm 378 (by decide +kernel) rfl⟩
set_option maxRecDepth 100000 in
theorem mlX11_218 : MLS RX11 218 yJ9_max_7cf53 cJ9_max_7cf53 2 (some .int) 2 := ⟨⟨tbm 18 (by decide +kernel) rfl, tbm 379 (by decide +kernel) rfl, ⟨by decide, by decide, by decide +kernel⟩, by decide, Or.inl (tbm 499 (by decide +kernel) rfl)⟩, tbm 378 (by decide +kernel) rfl⟩
set_option maxRecDepth 100000 in
theorem mlL_66 : MLV RL 66 yX11_ifRun cX11_ifRun 5 (some .int) 2 := ⟨⟨tbm 10 (by decide +kernel) rfl, tbm 503 (by decide +kernel) rfl, ⟨by decide, by decide, by decide +kernel⟩, by decide, Or.inl (tbm 500 (by decide +kernel) rfl)⟩, tbm 500 (by decide +kernel) rfl, tbm 501 (by decide +kernel) rfl, tbm 502 (by decide +kernel) rfl⟩
set_option maxRecDepth 100000 in
theorem mlX11_223 : MLV RX11 223 yX9_copyFrom cX9_copyFrom 2 none 1 := ⟨⟨tbm 11 (by decide +kernel) rfl, tbm 328 (by decide +kernel) rfl, ⟨by decide, by decide, by decide +kernel⟩, by decide, Or.inl (tbm 504 (by decide +kernel) rfl)⟩, tbm 504 (by decide +kernel) rfl, tbm 326 (by decide +kernel) rfl, tbm 327 (by decide +kernel) rfl⟩
set_option maxRecDepth 100000 in
theorem mlL_69 : MLV RL 69 yX11_capacityFor cX11_capacityFor 5 (some .int) 2 := ⟨⟨tbm 10 (by decide +kernel) rfl, tbm 508 (by decide +kernel) rfl, ⟨by decide, by decide, by decide +kernel⟩, by decide, Or.inl (tbm 505 (by decide +kernel) rfl)⟩, tbm 505 (by decide +kernel) rfl, tbm 506 (by decide +kernel) rfl, tbm 507 (by decide +kernel) rfl⟩
set_option maxRecDepth 100000 in
theorem mlX11_227 : MLV RX11 227 yX6_lookAhead cX6_lookAhead 5 none 2 := ⟨⟨tbm 21 (by decide +kernel) rfl, tbm 513 (by decide +kernel) rfl, ⟨by decide, by decide, by decide +kernel⟩, by decide, Or.inl (tbm 510 (by decide +kernel) rfl)⟩, tbm 510 (by decide +kernel) rfl, tbm 511 (by decide +kernel) rfl, tbm 512 (by decide +kernel) rfl⟩
set_option maxRecDepth 100000 in
theorem mlX6_19 : MLS RX6 19 yJ9_min_7cf53 cJ9_min_7cf53 2 (some .int) 2 := ⟨⟨tbm 18 (by decide +kernel) rfl, tbm 174 (by decide +kernel) rfl, ⟨by decide, by decide, by decide +kernel⟩, by decide, Or.inl (tbm 514 (by decide +kernel) rfl)⟩, tbm 173 (by decide +kernel) rfl⟩
set_option maxRecDepth 100000 in
theorem mlX6_38 : MLV RX6 38 yX8_rainIn cX8_rainIn 4 (some .int) 1 := ⟨⟨tbm 12 (by decide +kernel) rfl, tbm 399 (by decide +kernel) rfl, ⟨by decide, by decide, by decide +kernel⟩, by decide, Or.inl (tbm 515 (by decide +kernel) rfl)⟩, tbm 515 (by decide +kernel) rfl, tbm 397 (by decide +kernel) rfl, tbm 398 (by decide +kernel) rfl⟩
set_option maxRecDepth 100000 in
theorem mlX6_51 : MLV RX6 51 yX2_passTick cX2_passTick 6 (some .int) 3 := ⟨⟨tbm 13 (by decide +kernel) rfl, tbm 403 (by decide +kernel) rfl, ⟨by decide, by decide, by decide +kernel⟩, by decide, Or.inl (tbm 516 (by decide +kernel) rfl)⟩, tbm 516 (by decide +kernel) rfl, tbm 401 (by decide +kernel) rfl, tbm 402 (by decide +kernel) rfl⟩
set_option maxRecDepth 100000 in
theorem mlX11_231 : MLV RX11 231 yX0_copyFrom cX0_copyFrom 2 none 1 := ⟨⟨tbm 14 (by decide +kernel) rfl, tbm 341 (by decide +kernel) rfl, ⟨by decide, by decide, by decide +kernel⟩, by decide, Or.inl (tbm 517 (by decide +kernel) rfl)⟩, tbm 517 (by decide +kernel) rfl, tbm 339 (by decide +kernel) rfl, tbm 340 (by decide +kernel) rfl⟩
set_option maxRecDepth 100000 in
theorem mlX11_234 : MLV RX11 234 yX6_losesAtMost cX6_losesAtMost 9 (some .boolean) 3 := ⟨⟨tbm 21 (by decide +kernel) rfl, tbm 521 (by decide +kernel) rfl, ⟨by decide, by decide, by decide +kernel⟩, by decide, Or.inl (tbm 518 (by decide +kernel) rfl)⟩, tbm 518 (by decide +kernel) rfl, tbm 519 (by decide +kernel) rfl, tbm 520 (by decide +kernel) rfl⟩
set_option maxRecDepth 100000 in
theorem mlX6_69 : MLV RX6 69 yX0_passTick cX0_passTick 7 (some .int) 5 := ⟨⟨tbm 14 (by decide +kernel) rfl, tbm 409 (by decide +kernel) rfl, ⟨by decide, by decide, by decide +kernel⟩, by decide, Or.inl (tbm 522 (by decide +kernel) rfl)⟩, tbm 522 (by decide +kernel) rfl, tbm 407 (by decide +kernel) rfl, tbm 408 (by decide +kernel) rfl⟩
set_option maxRecDepth 100000 in
theorem mlL_59 : MLV RL 59 yX11_untilStop cX11_untilStop 1 (some .int) 0 := ⟨⟨tbm 10 (by decide +kernel) rfl, tbm 526 (by decide +kernel) rfl, ⟨by decide, by decide, by decide +kernel⟩, by decide, Or.inl (tbm 523 (by decide +kernel) rfl)⟩, tbm 523 (by decide +kernel) rfl, tbm 524 (by decide +kernel) rfl, tbm 525 (by decide +kernel) rfl⟩
set_option maxRecDepth 100000 in
theorem mlL_45 : MLS RL 45 yL_cell cL_cell 2 (some .int) 2 := ⟨⟨tbm 9 (by decide +kernel) rfl, tbm 529 (by decide +kernel) rfl, ⟨by decide, by decide, by decide +kernel⟩, by decide, Or.inl (tbm 527 (by decide +kernel) rfl)⟩, tbm 528 (by decide +kernel) rfl⟩
set_option maxRecDepth 100000 in
theorem mlL_35 : MLS RL 35 yL_holds cL_holds 6 (some .boolean) 1 := ⟨⟨tbm 9 (by decide +kernel) rfl, tbm 534 (by decide +kernel) rfl, ⟨by decide, by decide, by decide +kernel⟩, by decide, Or.inl (tbm 532 (by decide +kernel) rfl)⟩, tbm 533 (by decide +kernel) rfl⟩
set_option maxRecDepth 100000 in
theorem mlL_18 : MLV RL 18 yX11_mark cX11_mark 3 (some .int) 2 := ⟨⟨tbm 10 (by decide +kernel) rfl, tbm 538 (by decide +kernel) rfl, ⟨by decide, by decide, by decide +kernel⟩, by decide, Or.inl (tbm 535 (by decide +kernel) rfl)⟩, tbm 535 (by decide +kernel) rfl, tbm 536 (by decide +kernel) rfl, tbm 537 (by decide +kernel) rfl⟩
set_option maxRecDepth 100000 in
theorem mlX11_187 : MLV RX11 187 yX5_has cX5_has 2 (some .boolean) 1 := ⟨⟨tbm 17 (by decide +kernel) rfl, tbm 479 (by decide +kernel) rfl, ⟨by decide, by decide, by decide +kernel⟩, by decide, Or.inl (tbm 539 (by decide +kernel) rfl)⟩, tbm 539 (by decide +kernel) rfl, tbm 477 (by decide +kernel) rfl, tbm 478 (by decide +kernel) rfl⟩
set_option maxRecDepth 100000 in
theorem mlL_22 : MLV RL 22 yX11_storm cX11_storm 6 (some .int) 2 := ⟨⟨tbm 10 (by decide +kernel) rfl, tbm 543 (by decide +kernel) rfl, ⟨by decide, by decide, by decide +kernel⟩, by decide, Or.inl (tbm 540 (by decide +kernel) rfl)⟩, tbm 540 (by decide +kernel) rfl, tbm 541 (by decide +kernel) rfl, tbm 542 (by decide +kernel) rfl⟩
set_option maxRecDepth 100000 in
theorem mlX11_197 : MLV RX11 197 yX5_firstOfStorm cX5_firstOfStorm 5 (some .int) 2 := ⟨⟨tbm 17 (by decide +kernel) rfl, tbm 547 (by decide +kernel) rfl, ⟨by decide, by decide, by decide +kernel⟩, by decide, Or.inl (tbm 544 (by decide +kernel) rfl)⟩, tbm 544 (by decide +kernel) rfl, tbm 545 (by decide +kernel) rfl, tbm 546 (by decide +kernel) rfl⟩
set_option maxRecDepth 100000 in
theorem mlX11_200 : MLV RX11 200 yX5_endOfStorm cX5_endOfStorm 4 (some .int) 2 := ⟨⟨tbm 17 (by decide +kernel) rfl, tbm 551 (by decide +kernel) rfl, ⟨by decide, by decide, by decide +kernel⟩, by decide, Or.inl (tbm 548 (by decide +kernel) rfl)⟩, tbm 548 (by decide +kernel) rfl, tbm 549 (by decide +kernel) rfl, tbm 550 (by decide +kernel) rfl⟩
set_option maxRecDepth 100000 in
theorem mlX11_203 : MLV RX11 203 yX5_ticksBetween cX5_ticksBetween 3 (some .int) 2 := ⟨⟨tbm 17 (by decide +kernel) rfl, tbm 475 (by decide +kernel) rfl, ⟨by decide, by decide, by decide +kernel⟩, by decide, Or.inl (tbm 552 (by decide +kernel) rfl)⟩, tbm 552 (by decide +kernel) rfl, tbm 473 (by decide +kernel) rfl, tbm 474 (by decide +kernel) rfl⟩
set_option maxRecDepth 100000 in
theorem mlX11_206 : MLV RX11 206 yX11_amountOf cX11_amountOf 3 (some .int) 2 := ⟨⟨tbm 10 (by decide +kernel) rfl, tbm 556 (by decide +kernel) rfl, ⟨by decide, by decide, by decide +kernel⟩, by decide, Or.inl (tbm 553 (by decide +kernel) rfl)⟩, tbm 553 (by decide +kernel) rfl, tbm 555 (by decide +kernel) rfl, tbm 7 (by decide +kernel) rfl⟩
set_option maxRecDepth 100000 in
theorem mlX11_209 : MLV RX11 209 yX11_lossOf cX11_lossOf 3 (some .int) 2 := ⟨⟨tbm 10 (by decide +kernel) rfl, tbm 560 (by decide +kernel) rfl, ⟨by decide, by decide, by decide +kernel⟩, by decide, Or.inl (tbm 557 (by decide +kernel) rfl)⟩, tbm 557 (by decide +kernel) rfl, tbm 559 (by decide +kernel) rfl, tbm 8 (by decide +kernel) rfl⟩
set_option maxRecDepth 100000 in
theorem mlX11_258 : MLV RX11 258 yX5_lossBetweenTips cX5_lossBetweenTips 6 (some .int) 3 := ⟨⟨tbm 17 (by decide +kernel) rfl, tbm 564 (by decide +kernel) rfl, ⟨by decide, by decide, by decide +kernel⟩, by decide, Or.inl (tbm 561 (by decide +kernel) rfl)⟩, tbm 561 (by decide +kernel) rfl, tbm 562 (by decide +kernel) rfl, tbm 563 (by decide +kernel) rfl⟩
set_option maxRecDepth 100000 in
theorem mlX5_55 : MLS RX5 55 yX11_quotient cX11_quotient 2 (some .int) 2 := ⟨⟨tbm 10 (by decide +kernel) rfl, tbm 567 (by decide +kernel) rfl, ⟨by decide, by decide, by decide +kernel⟩, by decide, Or.inr ⟨"RainRecorder", tnm 565 (by decide +kernel) rfl⟩⟩, tbm 566 (by decide +kernel) rfl⟩
set_option maxRecDepth 100000 in
theorem mlX11_261 : MLS RX11 261 yJ9_floorDiv_7cf53 cJ9_floorDiv_7cf53 3 (some .int) 2 := ⟨⟨tbm 18 (by decide +kernel) rfl, tbm 570 (by decide +kernel) rfl, ⟨by decide, by decide, by decide +kernel⟩, by decide, Or.inl (tbm 568 (by decide +kernel) rfl)⟩, tbm 569 (by decide +kernel) rfl⟩
set_option maxRecDepth 100000 in
theorem mlX11_212 : MLV RX11 212 yX5_peak cX5_peak 6 (some .int) 2 := ⟨⟨tbm 17 (by decide +kernel) rfl, tbm 574 (by decide +kernel) rfl, ⟨by decide, by decide, by decide +kernel⟩, by decide, Or.inl (tbm 571 (by decide +kernel) rfl)⟩, tbm 571 (by decide +kernel) rfl, tbm 572 (by decide +kernel) rfl, tbm 573 (by decide +kernel) rfl⟩
set_option maxRecDepth 100000 in
theorem mlL_28 : MLV RL 28 yX11_greatestStorm cX11_greatestStorm 9 (some .int) 0 := ⟨⟨tbm 10 (by decide +kernel) rfl, tbm 578 (by decide +kernel) rfl, ⟨by decide, by decide, by decide +kernel⟩, by decide, Or.inl (tbm 575 (by decide +kernel) rfl)⟩, tbm 575 (by decide +kernel) rfl, tbm 576 (by decide +kernel) rfl, tbm 577 (by decide +kernel) rfl⟩
set_option maxRecDepth 100000 in
theorem mlL_62 : MLS RL 62 yL_parted cL_parted 9 (some .boolean) 3 := ⟨⟨tbm 9 (by decide +kernel) rfl, tbm 581 (by decide +kernel) rfl, ⟨by decide, by decide, by decide +kernel⟩, by decide, Or.inl (tbm 579 (by decide +kernel) rfl)⟩, tbm 580 (by decide +kernel) rfl⟩
set_option maxRecDepth 100000 in
theorem kcX11_226 : Cond.constant RX11 226 (Int32.ofInt 100000) ∈ TB := tbm 509 (by decide +kernel) rfl
set_option maxRecDepth 100000 in
theorem kcL_7 : Cond.constant RL 7 (Int32.ofInt 15485959) ∈ TB := tbm 530 (by decide +kernel) rfl
set_option maxRecDepth 100000 in
theorem kcL_8 : Cond.constant RL 8 (Int32.ofInt 2147483647) ∈ TB := tbm 531 (by decide +kernel) rfl
