set_option maxRecDepth 100000 in
theorem flX8_9 : FL RX8 9 8 0 := ⟨_, _, _, rfl, by decide, tb_in8, tbm 68 (by decide +kernel) rfl⟩
set_option maxRecDepth 100000 in
theorem fpX8_9 : FP RX8 9 8 0 true (.array .int) := ⟨_, _, _, tyX8, rfl, by decide, tb_in8, tbm 68 (by decide +kernel) rfl, tyX8_ok, nmX8, rfl, rfl, fun _ => rfl⟩
set_option maxRecDepth 100000 in
theorem flX11_76 : FL RX11 76 8 0 := ⟨_, _, _, rfl, by decide, tb_in8, tbm 69 (by decide +kernel) rfl⟩
set_option maxRecDepth 100000 in
theorem flX8_15 : FL RX8 15 8 1 := ⟨_, _, _, rfl, by decide, tb_in8, tbm 70 (by decide +kernel) rfl⟩
set_option maxRecDepth 100000 in
theorem fpX8_15 : FP RX8 15 8 1 true (.array .int) := ⟨_, _, _, tyX8, rfl, by decide, tb_in8, tbm 70 (by decide +kernel) rfl, tyX8_ok, nmX8, rfl, rfl, fun _ => rfl⟩
set_option maxRecDepth 100000 in
theorem flX11_84 : FL RX11 84 8 1 := ⟨_, _, _, rfl, by decide, tb_in8, tbm 71 (by decide +kernel) rfl⟩
set_option maxRecDepth 100000 in
theorem flX8_18 : FL RX8 18 8 2 := ⟨_, _, _, rfl, by decide, tb_in8, tbm 72 (by decide +kernel) rfl⟩
set_option maxRecDepth 100000 in
theorem fpX8_18 : FP RX8 18 8 2 true (.array .int) := ⟨_, _, _, tyX8, rfl, by decide, tb_in8, tbm 72 (by decide +kernel) rfl, tyX8_ok, nmX8, rfl, rfl, fun _ => rfl⟩
set_option maxRecDepth 100000 in
theorem flX11_87 : FL RX11 87 8 2 := ⟨_, _, _, rfl, by decide, tb_in8, tbm 73 (by decide +kernel) rfl⟩
set_option maxRecDepth 100000 in
theorem flX8_25 : FL RX8 25 8 3 := ⟨_, _, _, rfl, by decide, tb_in8, tbm 74 (by decide +kernel) rfl⟩
set_option maxRecDepth 100000 in
theorem fpX8_25 : FP RX8 25 8 3 false (.int) := ⟨_, _, _, tyX8, rfl, by decide, tb_in8, tbm 74 (by decide +kernel) rfl, tyX8_ok, nmX8, rfl, rfl, fun _ => rfl⟩
set_option maxRecDepth 100000 in
theorem flX11_59 : FL RX11 59 8 3 := ⟨_, _, _, rfl, by decide, tb_in8, tbm 75 (by decide +kernel) rfl⟩
set_option maxRecDepth 100000 in
theorem fpX11_59 : FP RX11 59 8 3 false (.int) := ⟨_, _, _, tyX8, rfl, by decide, tb_in8, tbm 75 (by decide +kernel) rfl, tyX8_ok, nmX8, rfl, rfl, fun h => nomatch h⟩
set_option maxRecDepth 100000 in
theorem flX2_7 : FL RX2 7 2 0 := ⟨_, _, _, rfl, by decide, tb_in2, tbm 92 (by decide +kernel) rfl⟩
set_option maxRecDepth 100000 in
theorem fpX2_7 : FP RX2 7 2 0 false (.int) := ⟨_, _, _, tyX2, rfl, by decide, tb_in2, tbm 92 (by decide +kernel) rfl, tyX2_ok, nmX2, rfl, rfl, fun _ => rfl⟩
set_option maxRecDepth 100000 in
theorem flX11_156 : FL RX11 156 2 0 := ⟨_, _, _, rfl, by decide, tb_in2, tbm 93 (by decide +kernel) rfl⟩
set_option maxRecDepth 100000 in
theorem fpX11_156 : FP RX11 156 2 0 false (.int) := ⟨_, _, _, tyX2, rfl, by decide, tb_in2, tbm 93 (by decide +kernel) rfl, tyX2_ok, nmX2, rfl, rfl, fun h => nomatch h⟩
set_option maxRecDepth 100000 in
theorem flX2_13 : FL RX2 13 2 1 := ⟨_, _, _, rfl, by decide, tb_in2, tbm 94 (by decide +kernel) rfl⟩
set_option maxRecDepth 100000 in
theorem fpX2_13 : FP RX2 13 2 1 false (.int) := ⟨_, _, _, tyX2, rfl, by decide, tb_in2, tbm 94 (by decide +kernel) rfl, tyX2_ok, nmX2, rfl, rfl, fun _ => rfl⟩
set_option maxRecDepth 100000 in
theorem flX9_134 : FL RX9 134 2 1 := ⟨_, _, _, rfl, by decide, tb_in2, tbm 95 (by decide +kernel) rfl⟩
set_option maxRecDepth 100000 in
theorem fpX9_134 : FP RX9 134 2 1 false (.int) := ⟨_, _, _, tyX2, rfl, by decide, tb_in2, tbm 95 (by decide +kernel) rfl, tyX2_ok, nmX2, rfl, rfl, fun h => nomatch h⟩
set_option maxRecDepth 100000 in
theorem flX0_9 : FL RX0 9 0 0 := ⟨_, _, _, rfl, by decide, tb_in0, tbm 107 (by decide +kernel) rfl⟩
set_option maxRecDepth 100000 in
theorem fpX0_9 : FP RX0 9 0 0 false (.int) := ⟨_, _, _, tyX0, rfl, by decide, tb_in0, tbm 107 (by decide +kernel) rfl, tyX0_ok, nmX0, rfl, rfl, fun _ => rfl⟩
set_option maxRecDepth 100000 in
theorem flX11_165 : FL RX11 165 0 0 := ⟨_, _, _, rfl, by decide, tb_in0, tbm 108 (by decide +kernel) rfl⟩
set_option maxRecDepth 100000 in
theorem fpX11_165 : FP RX11 165 0 0 false (.int) := ⟨_, _, _, tyX0, rfl, by decide, tb_in0, tbm 108 (by decide +kernel) rfl, tyX0_ok, nmX0, rfl, rfl, fun h => nomatch h⟩
set_option maxRecDepth 100000 in
theorem flX0_15 : FL RX0 15 0 1 := ⟨_, _, _, rfl, by decide, tb_in0, tbm 109 (by decide +kernel) rfl⟩
set_option maxRecDepth 100000 in
theorem fpX0_15 : FP RX0 15 0 1 false (.int) := ⟨_, _, _, tyX0, rfl, by decide, tb_in0, tbm 109 (by decide +kernel) rfl, tyX0_ok, nmX0, rfl, rfl, fun _ => rfl⟩
set_option maxRecDepth 100000 in
theorem flX11_168 : FL RX11 168 0 1 := ⟨_, _, _, rfl, by decide, tb_in0, tbm 110 (by decide +kernel) rfl⟩
set_option maxRecDepth 100000 in
theorem fpX11_168 : FP RX11 168 0 1 false (.int) := ⟨_, _, _, tyX0, rfl, by decide, tb_in0, tbm 110 (by decide +kernel) rfl, tyX0_ok, nmX0, rfl, rfl, fun h => nomatch h⟩
set_option maxRecDepth 100000 in
theorem flX0_18 : FL RX0 18 0 2 := ⟨_, _, _, rfl, by decide, tb_in0, tbm 111 (by decide +kernel) rfl⟩
set_option maxRecDepth 100000 in
theorem fpX0_18 : FP RX0 18 0 2 false (.int) := ⟨_, _, _, tyX0, rfl, by decide, tb_in0, tbm 111 (by decide +kernel) rfl, tyX0_ok, nmX0, rfl, rfl, fun _ => rfl⟩
set_option maxRecDepth 100000 in
theorem flX9_125 : FL RX9 125 0 2 := ⟨_, _, _, rfl, by decide, tb_in0, tbm 112 (by decide +kernel) rfl⟩
set_option maxRecDepth 100000 in
theorem fpX9_125 : FP RX9 125 0 2 false (.int) := ⟨_, _, _, tyX0, rfl, by decide, tb_in0, tbm 112 (by decide +kernel) rfl, tyX0_ok, nmX0, rfl, rfl, fun h => nomatch h⟩
set_option maxRecDepth 100000 in
theorem flX0_21 : FL RX0 21 0 3 := ⟨_, _, _, rfl, by decide, tb_in0, tbm 113 (by decide +kernel) rfl⟩
set_option maxRecDepth 100000 in
theorem fpX0_21 : FP RX0 21 0 3 false (.int) := ⟨_, _, _, tyX0, rfl, by decide, tb_in0, tbm 113 (by decide +kernel) rfl, tyX0_ok, nmX0, rfl, rfl, fun _ => rfl⟩
set_option maxRecDepth 100000 in
theorem flX6_66 : FL RX6 66 0 3 := ⟨_, _, _, rfl, by decide, tb_in0, tbm 114 (by decide +kernel) rfl⟩
set_option maxRecDepth 100000 in
theorem fpX6_66 : FP RX6 66 0 3 false (.int) := ⟨_, _, _, tyX0, rfl, by decide, tb_in0, tbm 114 (by decide +kernel) rfl, tyX0_ok, nmX0, rfl, rfl, fun h => nomatch h⟩
set_option maxRecDepth 100000 in
theorem flX9_128 : FL RX9 128 0 3 := ⟨_, _, _, rfl, by decide, tb_in0, tbm 115 (by decide +kernel) rfl⟩
set_option maxRecDepth 100000 in
theorem fpX9_128 : FP RX9 128 0 3 false (.int) := ⟨_, _, _, tyX0, rfl, by decide, tb_in0, tbm 115 (by decide +kernel) rfl, tyX0_ok, nmX0, rfl, rfl, fun h => nomatch h⟩
set_option maxRecDepth 100000 in
theorem flX0_24 : FL RX0 24 0 4 := ⟨_, _, _, rfl, by decide, tb_in0, tbm 116 (by decide +kernel) rfl⟩
set_option maxRecDepth 100000 in
theorem fpX0_24 : FP RX0 24 0 4 false (.int) := ⟨_, _, _, tyX0, rfl, by decide, tb_in0, tbm 116 (by decide +kernel) rfl, tyX0_ok, nmX0, rfl, rfl, fun _ => rfl⟩
set_option maxRecDepth 100000 in
theorem flX6_61 : FL RX6 61 0 4 := ⟨_, _, _, rfl, by decide, tb_in0, tbm 117 (by decide +kernel) rfl⟩
set_option maxRecDepth 100000 in
theorem fpX6_61 : FP RX6 61 0 4 false (.int) := ⟨_, _, _, tyX0, rfl, by decide, tb_in0, tbm 117 (by decide +kernel) rfl, tyX0_ok, nmX0, rfl, rfl, fun h => nomatch h⟩
set_option maxRecDepth 100000 in
theorem flX9_131 : FL RX9 131 0 4 := ⟨_, _, _, rfl, by decide, tb_in0, tbm 118 (by decide +kernel) rfl⟩
set_option maxRecDepth 100000 in
theorem fpX9_131 : FP RX9 131 0 4 false (.int) := ⟨_, _, _, tyX0, rfl, by decide, tb_in0, tbm 118 (by decide +kernel) rfl, tyX0_ok, nmX0, rfl, rfl, fun h => nomatch h⟩
set_option maxRecDepth 100000 in
theorem flX0_27 : FL RX0 27 0 5 := ⟨_, _, _, rfl, by decide, tb_in0, tbm 119 (by decide +kernel) rfl⟩
set_option maxRecDepth 100000 in
theorem fpX0_27 : FP RX0 27 0 5 false (.int) := ⟨_, _, _, tyX0, rfl, by decide, tb_in0, tbm 119 (by decide +kernel) rfl, tyX0_ok, nmX0, rfl, rfl, fun _ => rfl⟩
set_option maxRecDepth 100000 in
theorem flX9_137 : FL RX9 137 0 5 := ⟨_, _, _, rfl, by decide, tb_in0, tbm 120 (by decide +kernel) rfl⟩
set_option maxRecDepth 100000 in
theorem fpX9_137 : FP RX9 137 0 5 false (.int) := ⟨_, _, _, tyX0, rfl, by decide, tb_in0, tbm 120 (by decide +kernel) rfl, tyX0_ok, nmX0, rfl, rfl, fun h => nomatch h⟩
set_option maxRecDepth 100000 in
theorem flX1_13 : FL RX1 13 1 0 := ⟨_, _, _, rfl, by decide, tb_in1, tbm 142 (by decide +kernel) rfl⟩
set_option maxRecDepth 100000 in
theorem fpX1_13 : FP RX1 13 1 0 false (.int) := ⟨_, _, _, tyX1, rfl, by decide, tb_in1, tbm 142 (by decide +kernel) rfl, tyX1_ok, nmX1, rfl, rfl, fun _ => rfl⟩
set_option maxRecDepth 100000 in
theorem flX11_118 : FL RX11 118 1 0 := ⟨_, _, _, rfl, by decide, tb_in1, tbm 143 (by decide +kernel) rfl⟩
set_option maxRecDepth 100000 in
theorem fpX11_118 : FP RX11 118 1 0 false (.int) := ⟨_, _, _, tyX1, rfl, by decide, tb_in1, tbm 143 (by decide +kernel) rfl, tyX1_ok, nmX1, rfl, rfl, fun h => nomatch h⟩
set_option maxRecDepth 100000 in
theorem flX1_19 : FL RX1 19 1 1 := ⟨_, _, _, rfl, by decide, tb_in1, tbm 144 (by decide +kernel) rfl⟩
set_option maxRecDepth 100000 in
theorem fpX1_19 : FP RX1 19 1 1 false (.int) := ⟨_, _, _, tyX1, rfl, by decide, tb_in1, tbm 144 (by decide +kernel) rfl, tyX1_ok, nmX1, rfl, rfl, fun _ => rfl⟩
set_option maxRecDepth 100000 in
theorem flX9_118 : FL RX9 118 1 1 := ⟨_, _, _, rfl, by decide, tb_in1, tbm 145 (by decide +kernel) rfl⟩
set_option maxRecDepth 100000 in
theorem fpX9_118 : FP RX9 118 1 1 false (.int) := ⟨_, _, _, tyX1, rfl, by decide, tb_in1, tbm 145 (by decide +kernel) rfl, tyX1_ok, nmX1, rfl, rfl, fun h => nomatch h⟩
set_option maxRecDepth 100000 in
theorem flX11_171 : FL RX11 171 1 1 := ⟨_, _, _, rfl, by decide, tb_in1, tbm 146 (by decide +kernel) rfl⟩
set_option maxRecDepth 100000 in
theorem fpX11_171 : FP RX11 171 1 1 false (.int) := ⟨_, _, _, tyX1, rfl, by decide, tb_in1, tbm 146 (by decide +kernel) rfl, tyX1_ok, nmX1, rfl, rfl, fun h => nomatch h⟩
set_option maxRecDepth 100000 in
theorem flX3_9 : FL RX3 9 3 0 := ⟨_, _, _, rfl, by decide, tb_in3, tbm 158 (by decide +kernel) rfl⟩
set_option maxRecDepth 100000 in
theorem fpX3_9 : FP RX3 9 3 0 true (.array .int) := ⟨_, _, _, tyX3, rfl, by decide, tb_in3, tbm 158 (by decide +kernel) rfl, tyX3_ok, nmX3, rfl, rfl, fun _ => rfl⟩
set_option maxRecDepth 100000 in
theorem flX11_136 : FL RX11 136 3 0 := ⟨_, _, _, rfl, by decide, tb_in3, tbm 159 (by decide +kernel) rfl⟩
set_option maxRecDepth 100000 in
theorem flX3_15 : FL RX3 15 3 1 := ⟨_, _, _, rfl, by decide, tb_in3, tbm 160 (by decide +kernel) rfl⟩
set_option maxRecDepth 100000 in
theorem fpX3_15 : FP RX3 15 3 1 true (.array .int) := ⟨_, _, _, tyX3, rfl, by decide, tb_in3, tbm 160 (by decide +kernel) rfl, tyX3_ok, nmX3, rfl, rfl, fun _ => rfl⟩
set_option maxRecDepth 100000 in
theorem flX11_139 : FL RX11 139 3 1 := ⟨_, _, _, rfl, by decide, tb_in3, tbm 161 (by decide +kernel) rfl⟩
set_option maxRecDepth 100000 in
theorem flX3_22 : FL RX3 22 3 2 := ⟨_, _, _, rfl, by decide, tb_in3, tbm 162 (by decide +kernel) rfl⟩
set_option maxRecDepth 100000 in
theorem fpX3_22 : FP RX3 22 3 2 false (.int) := ⟨_, _, _, tyX3, rfl, by decide, tb_in3, tbm 162 (by decide +kernel) rfl, tyX3_ok, nmX3, rfl, rfl, fun _ => rfl⟩
set_option maxRecDepth 100000 in
theorem flX11_127 : FL RX11 127 3 2 := ⟨_, _, _, rfl, by decide, tb_in3, tbm 163 (by decide +kernel) rfl⟩
set_option maxRecDepth 100000 in
theorem fpX11_127 : FP RX11 127 3 2 false (.int) := ⟨_, _, _, tyX3, rfl, by decide, tb_in3, tbm 163 (by decide +kernel) rfl, tyX3_ok, nmX3, rfl, rfl, fun h => nomatch h⟩
set_option maxRecDepth 100000 in
theorem flX5_9 : FL RX5 9 5 0 := ⟨_, _, _, rfl, by decide, tb_in5, tbm 177 (by decide +kernel) rfl⟩
set_option maxRecDepth 100000 in
theorem fpX5_9 : FP RX5 9 5 0 true (.array .int) := ⟨_, _, _, tyX5, rfl, by decide, tb_in5, tbm 177 (by decide +kernel) rfl, tyX5_ok, nmX5, rfl, rfl, fun _ => rfl⟩
set_option maxRecDepth 100000 in
theorem flX11_188 : FL RX11 188 5 0 := ⟨_, _, _, rfl, by decide, tb_in5, tbm 178 (by decide +kernel) rfl⟩
set_option maxRecDepth 100000 in
theorem flX5_15 : FL RX5 15 5 1 := ⟨_, _, _, rfl, by decide, tb_in5, tbm 179 (by decide +kernel) rfl⟩
set_option maxRecDepth 100000 in
theorem fpX5_15 : FP RX5 15 5 1 true (.array .int) := ⟨_, _, _, tyX5, rfl, by decide, tb_in5, tbm 179 (by decide +kernel) rfl, tyX5_ok, nmX5, rfl, rfl, fun _ => rfl⟩
set_option maxRecDepth 100000 in
theorem flX11_191 : FL RX11 191 5 1 := ⟨_, _, _, rfl, by decide, tb_in5, tbm 180 (by decide +kernel) rfl⟩
set_option maxRecDepth 100000 in
theorem flX5_18 : FL RX5 18 5 2 := ⟨_, _, _, rfl, by decide, tb_in5, tbm 181 (by decide +kernel) rfl⟩
set_option maxRecDepth 100000 in
theorem fpX5_18 : FP RX5 18 5 2 true (.array .int) := ⟨_, _, _, tyX5, rfl, by decide, tb_in5, tbm 181 (by decide +kernel) rfl, tyX5_ok, nmX5, rfl, rfl, fun _ => rfl⟩
set_option maxRecDepth 100000 in
theorem flX11_194 : FL RX11 194 5 2 := ⟨_, _, _, rfl, by decide, tb_in5, tbm 182 (by decide +kernel) rfl⟩
set_option maxRecDepth 100000 in
theorem flX5_25 : FL RX5 25 5 3 := ⟨_, _, _, rfl, by decide, tb_in5, tbm 183 (by decide +kernel) rfl⟩
set_option maxRecDepth 100000 in
theorem fpX5_25 : FP RX5 25 5 3 false (.int) := ⟨_, _, _, tyX5, rfl, by decide, tb_in5, tbm 183 (by decide +kernel) rfl, tyX5_ok, nmX5, rfl, rfl, fun _ => rfl⟩
set_option maxRecDepth 100000 in
theorem flX11_146 : FL RX11 146 5 3 := ⟨_, _, _, rfl, by decide, tb_in5, tbm 184 (by decide +kernel) rfl⟩
set_option maxRecDepth 100000 in
theorem fpX11_146 : FP RX11 146 5 3 false (.int) := ⟨_, _, _, tyX5, rfl, by decide, tb_in5, tbm 184 (by decide +kernel) rfl, tyX5_ok, nmX5, rfl, rfl, fun h => nomatch h⟩
set_option maxRecDepth 100000 in
theorem flX9_9 : FL RX9 9 9 0 := ⟨_, _, _, rfl, by decide, tb_in9, tbm 204 (by decide +kernel) rfl⟩
set_option maxRecDepth 100000 in
theorem fpX9_9 : FP RX9 9 9 0 true (.array .int) := ⟨_, _, _, tyX9, rfl, by decide, tb_in9, tbm 204 (by decide +kernel) rfl, tyX9_ok, nmX9, rfl, rfl, fun _ => rfl⟩
set_option maxRecDepth 100000 in
theorem flX6_48 : FL RX6 48 9 0 := ⟨_, _, _, rfl, by decide, tb_in9, tbm 205 (by decide +kernel) rfl⟩
set_option maxRecDepth 100000 in
theorem flX11_111 : FL RX11 111 9 0 := ⟨_, _, _, rfl, by decide, tb_in9, tbm 206 (by decide +kernel) rfl⟩
set_option maxRecDepth 100000 in
theorem flX9_18 : FL RX9 18 9 1 := ⟨_, _, _, rfl, by decide, tb_in9, tbm 207 (by decide +kernel) rfl⟩
set_option maxRecDepth 100000 in
theorem fpX9_18 : FP RX9 18 9 1 true (.object "RainRecorder$Showers") := ⟨_, _, _, tyX9, rfl, by decide, tb_in9, tbm 207 (by decide +kernel) rfl, tyX9_ok, nmX9, rfl, rfl, fun _ => rfl⟩
set_option maxRecDepth 100000 in
theorem flX6_29 : FL RX6 29 9 1 := ⟨_, _, _, rfl, by decide, tb_in9, tbm 208 (by decide +kernel) rfl⟩
set_option maxRecDepth 100000 in
theorem flX11_55 : FL RX11 55 9 1 := ⟨_, _, _, rfl, by decide, tb_in9, tbm 209 (by decide +kernel) rfl⟩
set_option maxRecDepth 100000 in
theorem flX9_25 : FL RX9 25 9 2 := ⟨_, _, _, rfl, by decide, tb_in9, tbm 210 (by decide +kernel) rfl⟩
set_option maxRecDepth 100000 in
theorem fpX9_25 : FP RX9 25 9 2 true (.object "RainRecorder$Film") := ⟨_, _, _, tyX9, rfl, by decide, tb_in9, tbm 210 (by decide +kernel) rfl, tyX9_ok, nmX9, rfl, rfl, fun _ => rfl⟩
set_option maxRecDepth 100000 in
theorem flX6_44 : FL RX6 44 9 2 := ⟨_, _, _, rfl, by decide, tb_in9, tbm 211 (by decide +kernel) rfl⟩
set_option maxRecDepth 100000 in
theorem flX11_152 : FL RX11 152 9 2 := ⟨_, _, _, rfl, by decide, tb_in9, tbm 212 (by decide +kernel) rfl⟩
set_option maxRecDepth 100000 in
theorem flX9_32 : FL RX9 32 9 3 := ⟨_, _, _, rfl, by decide, tb_in9, tbm 213 (by decide +kernel) rfl⟩
set_option maxRecDepth 100000 in
theorem fpX9_32 : FP RX9 32 9 3 true (.object "RainRecorder$Bucket") := ⟨_, _, _, tyX9, rfl, by decide, tb_in9, tbm 213 (by decide +kernel) rfl, tyX9_ok, nmX9, rfl, rfl, fun _ => rfl⟩
set_option maxRecDepth 100000 in
theorem flX6_57 : FL RX6 57 9 3 := ⟨_, _, _, rfl, by decide, tb_in9, tbm 214 (by decide +kernel) rfl⟩
set_option maxRecDepth 100000 in
theorem flX11_161 : FL RX11 161 9 3 := ⟨_, _, _, rfl, by decide, tb_in9, tbm 215 (by decide +kernel) rfl⟩
set_option maxRecDepth 100000 in
theorem flX9_39 : FL RX9 39 9 4 := ⟨_, _, _, rfl, by decide, tb_in9, tbm 216 (by decide +kernel) rfl⟩
set_option maxRecDepth 100000 in
theorem fpX9_39 : FP RX9 39 9 4 true (.object "RainRecorder$Clock") := ⟨_, _, _, tyX9, rfl, by decide, tb_in9, tbm 216 (by decide +kernel) rfl, tyX9_ok, nmX9, rfl, rfl, fun _ => rfl⟩
set_option maxRecDepth 100000 in
theorem flX11_114 : FL RX11 114 9 4 := ⟨_, _, _, rfl, by decide, tb_in9, tbm 217 (by decide +kernel) rfl⟩
set_option maxRecDepth 100000 in
theorem flX9_46 : FL RX9 46 9 5 := ⟨_, _, _, rfl, by decide, tb_in9, tbm 218 (by decide +kernel) rfl⟩
set_option maxRecDepth 100000 in
theorem fpX9_46 : FP RX9 46 9 5 true (.object "RainRecorder$Gears") := ⟨_, _, _, tyX9, rfl, by decide, tb_in9, tbm 218 (by decide +kernel) rfl, tyX9_ok, nmX9, rfl, rfl, fun _ => rfl⟩
set_option maxRecDepth 100000 in
theorem flX11_123 : FL RX11 123 9 5 := ⟨_, _, _, rfl, by decide, tb_in9, tbm 219 (by decide +kernel) rfl⟩
set_option maxRecDepth 100000 in
theorem flX9_53 : FL RX9 53 9 6 := ⟨_, _, _, rfl, by decide, tb_in9, tbm 220 (by decide +kernel) rfl⟩
set_option maxRecDepth 100000 in
theorem fpX9_53 : FP RX9 53 9 6 true (.object "RainRecorder$Marks") := ⟨_, _, _, tyX9, rfl, by decide, tb_in9, tbm 220 (by decide +kernel) rfl, tyX9_ok, nmX9, rfl, rfl, fun _ => rfl⟩
set_option maxRecDepth 100000 in
theorem flX11_142 : FL RX11 142 9 6 := ⟨_, _, _, rfl, by decide, tb_in9, tbm 221 (by decide +kernel) rfl⟩
set_option maxRecDepth 100000 in
theorem flX11_47 : FL RX11 47 9 7 := ⟨_, _, _, rfl, by decide, tb_in9, tbm 222 (by decide +kernel) rfl⟩
set_option maxRecDepth 100000 in
theorem fpX11_47 : FP RX11 47 9 7 false (.int) := ⟨_, _, _, tyX9, rfl, by decide, tb_in9, tbm 222 (by decide +kernel) rfl, tyX9_ok, nmX9, rfl, rfl, fun h => nomatch h⟩
set_option maxRecDepth 100000 in
theorem flX6_35 : FL RX6 35 9 7 := ⟨_, _, _, rfl, by decide, tb_in9, tbm 223 (by decide +kernel) rfl⟩
set_option maxRecDepth 100000 in
theorem fpX6_35 : FP RX6 35 9 7 false (.int) := ⟨_, _, _, tyX9, rfl, by decide, tb_in9, tbm 223 (by decide +kernel) rfl, tyX9_ok, nmX9, rfl, rfl, fun h => nomatch h⟩
set_option maxRecDepth 100000 in
theorem flX9_83 : FL RX9 83 9 7 := ⟨_, _, _, rfl, by decide, tb_in9, tbm 224 (by decide +kernel) rfl⟩
set_option maxRecDepth 100000 in
theorem fpX9_83 : FP RX9 83 9 7 false (.int) := ⟨_, _, _, tyX9, rfl, by decide, tb_in9, tbm 224 (by decide +kernel) rfl, tyX9_ok, nmX9, rfl, rfl, fun _ => rfl⟩
set_option maxRecDepth 100000 in
theorem flX9_87 : FL RX9 87 9 8 := ⟨_, _, _, rfl, by decide, tb_in9, tbm 225 (by decide +kernel) rfl⟩
set_option maxRecDepth 100000 in
theorem fpX9_87 : FP RX9 87 9 8 false (.int) := ⟨_, _, _, tyX9, rfl, by decide, tb_in9, tbm 225 (by decide +kernel) rfl, tyX9_ok, nmX9, rfl, rfl, fun _ => rfl⟩
set_option maxRecDepth 100000 in
theorem flX4_11 : FL RX4 11 4 0 := ⟨_, _, _, rfl, by decide, tb_in4, tbm 254 (by decide +kernel) rfl⟩
set_option maxRecDepth 100000 in
theorem fpX4_11 : FP RX4 11 4 0 true (.array (.object "RainRecorder$State")) := ⟨_, _, _, tyX4, rfl, by decide, tb_in4, tbm 254 (by decide +kernel) rfl, tyX4_ok, nmX4, rfl, rfl, fun _ => rfl⟩
set_option maxRecDepth 100000 in
theorem flX4_18 : FL RX4 18 4 1 := ⟨_, _, _, rfl, by decide, tb_in4, tbm 255 (by decide +kernel) rfl⟩
set_option maxRecDepth 100000 in
theorem fpX4_18 : FP RX4 18 4 1 false (.int) := ⟨_, _, _, tyX4, rfl, by decide, tb_in4, tbm 255 (by decide +kernel) rfl, tyX4_ok, nmX4, rfl, rfl, fun _ => rfl⟩
set_option maxRecDepth 100000 in
theorem flX11_101 : FL RX11 101 4 1 := ⟨_, _, _, rfl, by decide, tb_in4, tbm 256 (by decide +kernel) rfl⟩
set_option maxRecDepth 100000 in
theorem fpX11_101 : FP RX11 101 4 1 false (.int) := ⟨_, _, _, tyX4, rfl, by decide, tb_in4, tbm 256 (by decide +kernel) rfl, tyX4_ok, nmX4, rfl, rfl, fun h => nomatch h⟩
set_option maxRecDepth 100000 in
theorem flX6_9 : FL RX6 9 6 0 := ⟨_, _, _, rfl, by decide, tb_in6, tbm 268 (by decide +kernel) rfl⟩
set_option maxRecDepth 100000 in
theorem fpX6_9 : FP RX6 9 6 0 true (.array .int) := ⟨_, _, _, tyX6, rfl, by decide, tb_in6, tbm 268 (by decide +kernel) rfl, tyX6_ok, nmX6, rfl, rfl, fun _ => rfl⟩
set_option maxRecDepth 100000 in
theorem flX6_15 : FL RX6 15 6 1 := ⟨_, _, _, rfl, by decide, tb_in6, tbm 269 (by decide +kernel) rfl⟩
set_option maxRecDepth 100000 in
theorem fpX6_15 : FP RX6 15 6 1 true (.array .boolean) := ⟨_, _, _, tyX6, rfl, by decide, tb_in6, tbm 269 (by decide +kernel) rfl, tyX6_ok, nmX6, rfl, rfl, fun _ => rfl⟩
set_option maxRecDepth 100000 in
theorem flX6_25 : FL RX6 25 6 2 := ⟨_, _, _, rfl, by decide, tb_in6, tbm 270 (by decide +kernel) rfl⟩
set_option maxRecDepth 100000 in
theorem fpX6_25 : FP RX6 25 6 2 false (.int) := ⟨_, _, _, tyX6, rfl, by decide, tb_in6, tbm 270 (by decide +kernel) rfl, tyX6_ok, nmX6, rfl, rfl, fun _ => rfl⟩
set_option maxRecDepth 100000 in
theorem flX10_9 : FL RX10 9 10 0 := ⟨_, _, _, rfl, by decide, tb_in10, tbm 285 (by decide +kernel) rfl⟩
set_option maxRecDepth 100000 in
theorem fpX10_9 : FP RX10 9 10 0 true (.array .char) := ⟨_, _, _, tyX10, rfl, by decide, tb_in10, tbm 285 (by decide +kernel) rfl, tyX10_ok, nmX10, rfl, rfl, fun _ => rfl⟩
set_option maxRecDepth 100000 in
theorem flX10_15 : FL RX10 15 10 1 := ⟨_, _, _, rfl, by decide, tb_in10, tbm 286 (by decide +kernel) rfl⟩
set_option maxRecDepth 100000 in
theorem fpX10_15 : FP RX10 15 10 1 false (.int) := ⟨_, _, _, tyX10, rfl, by decide, tb_in10, tbm 286 (by decide +kernel) rfl, tyX10_ok, nmX10, rfl, rfl, fun _ => rfl⟩
set_option maxRecDepth 100000 in
theorem flX7_31 : FL RX7 31 10 1 := ⟨_, _, _, rfl, by decide, tb_in10, tbm 287 (by decide +kernel) rfl⟩
set_option maxRecDepth 100000 in
theorem fpX7_31 : FP RX7 31 10 1 false (.int) := ⟨_, _, _, tyX10, rfl, by decide, tb_in10, tbm 287 (by decide +kernel) rfl, tyX10_ok, nmX10, rfl, rfl, fun h => nomatch h⟩
set_option maxRecDepth 100000 in
theorem flX11_178 : FL RX11 178 10 1 := ⟨_, _, _, rfl, by decide, tb_in10, tbm 288 (by decide +kernel) rfl⟩
set_option maxRecDepth 100000 in
theorem fpX11_178 : FP RX11 178 10 1 false (.int) := ⟨_, _, _, tyX10, rfl, by decide, tb_in10, tbm 288 (by decide +kernel) rfl, tyX10_ok, nmX10, rfl, rfl, fun h => nomatch h⟩
set_option maxRecDepth 100000 in
theorem flX7_9 : FL RX7 9 7 0 := ⟨_, _, _, rfl, by decide, tb_in7, tbm 301 (by decide +kernel) rfl⟩
set_option maxRecDepth 100000 in
theorem fpX7_9 : FP RX7 9 7 0 true (.array .int) := ⟨_, _, _, tyX7, rfl, by decide, tb_in7, tbm 301 (by decide +kernel) rfl, tyX7_ok, nmX7, rfl, rfl, fun _ => rfl⟩
set_option maxRecDepth 100000 in
theorem flX11_255 : FL RX11 255 7 0 := ⟨_, _, _, rfl, by decide, tb_in7, tbm 302 (by decide +kernel) rfl⟩
set_option maxRecDepth 100000 in
theorem flX7_15 : FL RX7 15 7 1 := ⟨_, _, _, rfl, by decide, tb_in7, tbm 303 (by decide +kernel) rfl⟩
set_option maxRecDepth 100000 in
theorem fpX7_15 : FP RX7 15 7 1 true (.array .int) := ⟨_, _, _, tyX7, rfl, by decide, tb_in7, tbm 303 (by decide +kernel) rfl, tyX7_ok, nmX7, rfl, rfl, fun _ => rfl⟩
set_option maxRecDepth 100000 in
theorem flX11_256 : FL RX11 256 7 1 := ⟨_, _, _, rfl, by decide, tb_in7, tbm 304 (by decide +kernel) rfl⟩
set_option maxRecDepth 100000 in
theorem flX7_18 : FL RX7 18 7 2 := ⟨_, _, _, rfl, by decide, tb_in7, tbm 305 (by decide +kernel) rfl⟩
set_option maxRecDepth 100000 in
theorem fpX7_18 : FP RX7 18 7 2 true (.array .int) := ⟨_, _, _, tyX7, rfl, by decide, tb_in7, tbm 305 (by decide +kernel) rfl, tyX7_ok, nmX7, rfl, rfl, fun _ => rfl⟩
set_option maxRecDepth 100000 in
theorem flX11_257 : FL RX11 257 7 2 := ⟨_, _, _, rfl, by decide, tb_in7, tbm 306 (by decide +kernel) rfl⟩
set_option maxRecDepth 100000 in
theorem flX7_21 : FL RX7 21 7 3 := ⟨_, _, _, rfl, by decide, tb_in7, tbm 307 (by decide +kernel) rfl⟩
set_option maxRecDepth 100000 in
theorem fpX7_21 : FP RX7 21 7 3 false (.int) := ⟨_, _, _, tyX7, rfl, by decide, tb_in7, tbm 307 (by decide +kernel) rfl, tyX7_ok, nmX7, rfl, rfl, fun _ => rfl⟩
set_option maxRecDepth 100000 in
theorem flX11_254 : FL RX11 254 7 3 := ⟨_, _, _, rfl, by decide, tb_in7, tbm 308 (by decide +kernel) rfl⟩
set_option maxRecDepth 100000 in
theorem fpX11_254 : FP RX11 254 7 3 false (.int) := ⟨_, _, _, tyX7, rfl, by decide, tb_in7, tbm 308 (by decide +kernel) rfl, tyX7_ok, nmX7, rfl, rfl, fun h => nomatch h⟩
set_option maxRecDepth 100000 in
theorem flX7_36 : FL RX7 36 7 4 := ⟨_, _, _, rfl, by decide, tb_in7, tbm 309 (by decide +kernel) rfl⟩
set_option maxRecDepth 100000 in
theorem fpX7_36 : FP RX7 36 7 4 false (.int) := ⟨_, _, _, tyX7, rfl, by decide, tb_in7, tbm 309 (by decide +kernel) rfl, tyX7_ok, nmX7, rfl, rfl, fun _ => rfl⟩
set_option maxRecDepth 100000 in
theorem flX11_251 : FL RX11 251 7 4 := ⟨_, _, _, rfl, by decide, tb_in7, tbm 310 (by decide +kernel) rfl⟩
set_option maxRecDepth 100000 in
theorem fpX11_251 : FP RX11 251 7 4 false (.int) := ⟨_, _, _, tyX7, rfl, by decide, tb_in7, tbm 310 (by decide +kernel) rfl, tyX7_ok, nmX7, rfl, rfl, fun h => nomatch h⟩
set_option maxRecDepth 100000 in
theorem flX7_28 : FL RX7 28 7 5 := ⟨_, _, _, rfl, by decide, tb_in7, tbm 311 (by decide +kernel) rfl⟩
set_option maxRecDepth 100000 in
theorem fpX7_28 : FP RX7 28 7 5 false (.int) := ⟨_, _, _, tyX7, rfl, by decide, tb_in7, tbm 311 (by decide +kernel) rfl, tyX7_ok, nmX7, rfl, rfl, fun _ => rfl⟩
set_option maxRecDepth 100000 in
theorem flX11_248 : FL RX11 248 7 5 := ⟨_, _, _, rfl, by decide, tb_in7, tbm 312 (by decide +kernel) rfl⟩
set_option maxRecDepth 100000 in
theorem fpX11_248 : FP RX11 248 7 5 false (.int) := ⟨_, _, _, tyX7, rfl, by decide, tb_in7, tbm 312 (by decide +kernel) rfl, tyX7_ok, nmX7, rfl, rfl, fun h => nomatch h⟩
set_option maxRecDepth 100000 in
theorem flX7_25 : FL RX7 25 7 6 := ⟨_, _, _, rfl, by decide, tb_in7, tbm 313 (by decide +kernel) rfl⟩
set_option maxRecDepth 100000 in
theorem fpX7_25 : FP RX7 25 7 6 false (.int) := ⟨_, _, _, tyX7, rfl, by decide, tb_in7, tbm 313 (by decide +kernel) rfl, tyX7_ok, nmX7, rfl, rfl, fun _ => rfl⟩
set_option maxRecDepth 100000 in
theorem flX11_10 : FL RX11 10 11 0 := ⟨_, _, _, rfl, by decide, tb_in11, tbm 329 (by decide +kernel) rfl⟩
set_option maxRecDepth 100000 in
theorem fpX11_10 : FP RX11 10 11 0 true (.object "RainRecorder$State") := ⟨_, _, _, tyX11, rfl, by decide, tb_in11, tbm 329 (by decide +kernel) rfl, tyX11_ok, nmX11, rfl, rfl, fun _ => rfl⟩
set_option maxRecDepth 100000 in
theorem flX11_16 : FL RX11 16 11 1 := ⟨_, _, _, rfl, by decide, tb_in11, tbm 330 (by decide +kernel) rfl⟩
set_option maxRecDepth 100000 in
theorem fpX11_16 : FP RX11 16 11 1 true (.object "RainRecorder$State") := ⟨_, _, _, tyX11, rfl, by decide, tb_in11, tbm 330 (by decide +kernel) rfl, tyX11_ok, nmX11, rfl, rfl, fun _ => rfl⟩
set_option maxRecDepth 100000 in
theorem flX11_22 : FL RX11 22 11 2 := ⟨_, _, _, rfl, by decide, tb_in11, tbm 331 (by decide +kernel) rfl⟩
set_option maxRecDepth 100000 in
theorem fpX11_22 : FP RX11 22 11 2 true (.object "RainRecorder$History") := ⟨_, _, _, tyX11, rfl, by decide, tb_in11, tbm 331 (by decide +kernel) rfl, tyX11_ok, nmX11, rfl, rfl, fun _ => rfl⟩
set_option maxRecDepth 100000 in
theorem flX11_29 : FL RX11 29 11 3 := ⟨_, _, _, rfl, by decide, tb_in11, tbm 332 (by decide +kernel) rfl⟩
set_option maxRecDepth 100000 in
theorem fpX11_29 : FP RX11 29 11 3 true (.object "RainRecorder$Outlook") := ⟨_, _, _, tyX11, rfl, by decide, tb_in11, tbm 332 (by decide +kernel) rfl, tyX11_ok, nmX11, rfl, rfl, fun _ => rfl⟩
set_option maxRecDepth 100000 in
theorem flX11_36 : FL RX11 36 11 4 := ⟨_, _, _, rfl, by decide, tb_in11, tbm 333 (by decide +kernel) rfl⟩
set_option maxRecDepth 100000 in
theorem fpX11_36 : FP RX11 36 11 4 true (.object "RainRecorder$Text") := ⟨_, _, _, tyX11, rfl, by decide, tb_in11, tbm 333 (by decide +kernel) rfl, tyX11_ok, nmX11, rfl, rfl, fun _ => rfl⟩
set_option maxRecDepth 100000 in
theorem flX11_43 : FL RX11 43 11 5 := ⟨_, _, _, rfl, by decide, tb_in11, tbm 334 (by decide +kernel) rfl⟩
set_option maxRecDepth 100000 in
theorem fpX11_43 : FP RX11 43 11 5 true (.object "RainRecorder$Reading") := ⟨_, _, _, tyX11, rfl, by decide, tb_in11, tbm 334 (by decide +kernel) rfl, tyX11_ok, nmX11, rfl, rfl, fun _ => rfl⟩
set_option maxRecDepth 100000 in
theorem gsX11_105 : Cond.fieldLink RX11 105 RX11 "LEAST_VALUES" "[I" ∈ TB := tbm 498 (by decide +kernel) rfl
set_option maxRecDepth 100000 in
theorem gsX11_108 : Cond.fieldLink RX11 108 RX11 "GREATEST_VALUES" "[I" ∈ TB := tbm 500 (by decide +kernel) rfl
set_option maxRecDepth 100000 in
theorem flX12_7 : FL RX12 7 12 0 := ⟨_, _, _, rfl, by decide, tb_in12, tbm 695 (by decide +kernel) rfl⟩
set_option maxRecDepth 100000 in
theorem fpX12_7 : FP RX12 7 12 0 true (.array .int) := ⟨_, _, _, tyX12, rfl, by decide, tb_in12, tbm 695 (by decide +kernel) rfl, tyX12_ok, nmX12, rfl, rfl, fun _ => rfl⟩
set_option maxRecDepth 100000 in
theorem flX12_13 : FL RX12 13 12 1 := ⟨_, _, _, rfl, by decide, tb_in12, tbm 696 (by decide +kernel) rfl⟩
set_option maxRecDepth 100000 in
theorem fpX12_13 : FP RX12 13 12 1 true (.array .int) := ⟨_, _, _, tyX12, rfl, by decide, tb_in12, tbm 696 (by decide +kernel) rfl, tyX12_ok, nmX12, rfl, rfl, fun _ => rfl⟩
set_option maxRecDepth 100000 in
theorem flX12_29 : FL RX12 29 12 2 := ⟨_, _, _, rfl, by decide, tb_in12, tbm 697 (by decide +kernel) rfl⟩
set_option maxRecDepth 100000 in
theorem fpX12_29 : FP RX12 29 12 2 false (.int) := ⟨_, _, _, tyX12, rfl, by decide, tb_in12, tbm 697 (by decide +kernel) rfl, tyX12_ok, nmX12, rfl, rfl, fun _ => rfl⟩
set_option maxRecDepth 100000 in
theorem flX12_16 : FL RX12 16 12 3 := ⟨_, _, _, rfl, by decide, tb_in12, tbm 698 (by decide +kernel) rfl⟩
set_option maxRecDepth 100000 in
theorem fpX12_16 : FP RX12 16 12 3 true (.array .int) := ⟨_, _, _, tyX12, rfl, by decide, tb_in12, tbm 698 (by decide +kernel) rfl, tyX12_ok, nmX12, rfl, rfl, fun _ => rfl⟩
set_option maxRecDepth 100000 in
theorem flX12_19 : FL RX12 19 12 4 := ⟨_, _, _, rfl, by decide, tb_in12, tbm 699 (by decide +kernel) rfl⟩
set_option maxRecDepth 100000 in
theorem fpX12_19 : FP RX12 19 12 4 true (.array .char) := ⟨_, _, _, tyX12, rfl, by decide, tb_in12, tbm 699 (by decide +kernel) rfl, tyX12_ok, nmX12, rfl, rfl, fun _ => rfl⟩
set_option maxRecDepth 100000 in
theorem flX12_91 : FL RX12 91 12 5 := ⟨_, _, _, rfl, by decide, tb_in12, tbm 700 (by decide +kernel) rfl⟩
set_option maxRecDepth 100000 in
theorem fpX12_91 : FP RX12 91 12 5 false (.int) := ⟨_, _, _, tyX12, rfl, by decide, tb_in12, tbm 700 (by decide +kernel) rfl, tyX12_ok, nmX12, rfl, rfl, fun _ => rfl⟩
set_option maxRecDepth 100000 in
theorem flX12_113 : FL RX12 113 12 6 := ⟨_, _, _, rfl, by decide, tb_in12, tbm 701 (by decide +kernel) rfl⟩
set_option maxRecDepth 100000 in
theorem fpX12_113 : FP RX12 113 12 6 false (.int) := ⟨_, _, _, tyX12, rfl, by decide, tb_in12, tbm 701 (by decide +kernel) rfl, tyX12_ok, nmX12, rfl, rfl, fun _ => rfl⟩
set_option maxRecDepth 100000 in
theorem flX12_116 : FL RX12 116 12 7 := ⟨_, _, _, rfl, by decide, tb_in12, tbm 702 (by decide +kernel) rfl⟩
set_option maxRecDepth 100000 in
theorem fpX12_116 : FP RX12 116 12 7 false (.int) := ⟨_, _, _, tyX12, rfl, by decide, tb_in12, tbm 702 (by decide +kernel) rfl, tyX12_ok, nmX12, rfl, rfl, fun _ => rfl⟩
set_option maxRecDepth 100000 in
theorem flX12_23 : FL RX12 23 12 8 := ⟨_, _, _, rfl, by decide, tb_in12, tbm 703 (by decide +kernel) rfl⟩
set_option maxRecDepth 100000 in
theorem fpX12_23 : FP RX12 23 12 8 true (.array .int) := ⟨_, _, _, tyX12, rfl, by decide, tb_in12, tbm 703 (by decide +kernel) rfl, tyX12_ok, nmX12, rfl, rfl, fun _ => rfl⟩
set_option maxRecDepth 100000 in
theorem flX12_119 : FL RX12 119 12 9 := ⟨_, _, _, rfl, by decide, tb_in12, tbm 704 (by decide +kernel) rfl⟩
set_option maxRecDepth 100000 in
theorem fpX12_119 : FP RX12 119 12 9 false (.int) := ⟨_, _, _, tyX12, rfl, by decide, tb_in12, tbm 704 (by decide +kernel) rfl, tyX12_ok, nmX12, rfl, rfl, fun _ => rfl⟩
set_option maxRecDepth 100000 in
theorem flX12_26 : FL RX12 26 12 10 := ⟨_, _, _, rfl, by decide, tb_in12, tbm 705 (by decide +kernel) rfl⟩
set_option maxRecDepth 100000 in
theorem fpX12_26 : FP RX12 26 12 10 true (.array .int) := ⟨_, _, _, tyX12, rfl, by decide, tb_in12, tbm 705 (by decide +kernel) rfl, tyX12_ok, nmX12, rfl, rfl, fun _ => rfl⟩
set_option maxRecDepth 100000 in
theorem flX12_88 : FL RX12 88 12 11 := ⟨_, _, _, rfl, by decide, tb_in12, tbm 706 (by decide +kernel) rfl⟩
set_option maxRecDepth 100000 in
theorem fpX12_88 : FP RX12 88 12 11 false (.int) := ⟨_, _, _, tyX12, rfl, by decide, tb_in12, tbm 706 (by decide +kernel) rfl, tyX12_ok, nmX12, rfl, rfl, fun _ => rfl⟩
set_option maxRecDepth 100000 in
theorem mlL_9 : MLI RL 9 yX11_init cX11_init 1 0 := ⟨⟨tbm 33 (by decide +kernel) rfl, tbm 52 (by decide +kernel) rfl, ⟨by decide, by decide, by decide +kernel⟩, by decide, Or.inl (tbm 50 (by decide +kernel) rfl)⟩, rfl, tbm 51 (by decide +kernel) rfl⟩
set_option maxRecDepth 100000 in
theorem mlX11_9 : MLI RX11 9 yX9_init cX9_init 1 0 := ⟨⟨tbm 34 (by decide +kernel) rfl, tbm 60 (by decide +kernel) rfl, ⟨by decide, by decide, by decide +kernel⟩, by decide, Or.inl (tbm 58 (by decide +kernel) rfl)⟩, rfl, tbm 59 (by decide +kernel) rfl⟩
set_option maxRecDepth 100000 in
theorem mlX9_17 : MLI RX9 17 yX8_init cX8_init 1 0 := ⟨⟨tbm 35 (by decide +kernel) rfl, tbm 66 (by decide +kernel) rfl, ⟨by decide, by decide, by decide +kernel⟩, by decide, Or.inr ⟨"RainRecorder", tnm 64 (by decide +kernel) rfl⟩⟩, rfl, tbm 65 (by decide +kernel) rfl⟩
set_option maxRecDepth 100000 in
theorem mlX9_24 : MLI RX9 24 yX2_init cX2_init 1 0 := ⟨⟨tbm 36 (by decide +kernel) rfl, tbm 90 (by decide +kernel) rfl, ⟨by decide, by decide, by decide +kernel⟩, by decide, Or.inr ⟨"RainRecorder", tnm 88 (by decide +kernel) rfl⟩⟩, rfl, tbm 89 (by decide +kernel) rfl⟩
set_option maxRecDepth 100000 in
theorem mlX9_31 : MLI RX9 31 yX0_init cX0_init 1 0 := ⟨⟨tbm 37 (by decide +kernel) rfl, tbm 105 (by decide +kernel) rfl, ⟨by decide, by decide, by decide +kernel⟩, by decide, Or.inr ⟨"RainRecorder", tnm 103 (by decide +kernel) rfl⟩⟩, rfl, tbm 104 (by decide +kernel) rfl⟩
set_option maxRecDepth 100000 in
theorem mlX9_38 : MLI RX9 38 yX1_init cX1_init 1 0 := ⟨⟨tbm 38 (by decide +kernel) rfl, tbm 138 (by decide +kernel) rfl, ⟨by decide, by decide, by decide +kernel⟩, by decide, Or.inr ⟨"RainRecorder", tnm 136 (by decide +kernel) rfl⟩⟩, rfl, tbm 137 (by decide +kernel) rfl⟩
set_option maxRecDepth 100000 in
theorem mlX9_45 : MLI RX9 45 yX3_init cX3_init 1 0 := ⟨⟨tbm 39 (by decide +kernel) rfl, tbm 156 (by decide +kernel) rfl, ⟨by decide, by decide, by decide +kernel⟩, by decide, Or.inr ⟨"RainRecorder", tnm 154 (by decide +kernel) rfl⟩⟩, rfl, tbm 155 (by decide +kernel) rfl⟩
set_option maxRecDepth 100000 in
theorem mlX9_52 : MLI RX9 52 yX5_init cX5_init 1 0 := ⟨⟨tbm 40 (by decide +kernel) rfl, tbm 175 (by decide +kernel) rfl, ⟨by decide, by decide, by decide +kernel⟩, by decide, Or.inr ⟨"RainRecorder", tnm 173 (by decide +kernel) rfl⟩⟩, rfl, tbm 174 (by decide +kernel) rfl⟩
set_option maxRecDepth 100000 in
theorem mlX9_60 : MLS RX9 60 yX11_copyRow cX11_copyRow 2 none 2 := ⟨⟨tbm 33 (by decide +kernel) rfl, tbm 197 (by decide +kernel) rfl, ⟨by decide, by decide, by decide +kernel⟩, by decide, Or.inr ⟨"RainRecorder", tnm 195 (by decide +kernel) rfl⟩⟩, tbm 196 (by decide +kernel) rfl⟩
set_option maxRecDepth 100000 in
theorem mlX11_264 : MLS RX11 264 yJ9_min_7cf53 cJ9_min_7cf53 2 (some .int) 2 := ⟨⟨tbm 41 (by decide +kernel) rfl, tbm 200 (by decide +kernel) rfl, ⟨by decide, by decide, by decide +kernel⟩, by decide, Or.inl (tbm 198 (by decide +kernel) rfl)⟩, tbm 199 (by decide +kernel) rfl⟩
set_option maxRecDepth 100000 in
theorem mlX11_21 : MLI RX11 21 yX4_init cX4_init 2 0 := ⟨⟨tbm 43 (by decide +kernel) rfl, tbm 249 (by decide +kernel) rfl, ⟨by decide, by decide, by decide +kernel⟩, by decide, Or.inl (tbm 247 (by decide +kernel) rfl)⟩, rfl, tbm 248 (by decide +kernel) rfl⟩
set_option maxRecDepth 100000 in
theorem mlX4_17 : MLI RX4 17 yX9_init cX9_init 1 0 := ⟨⟨tbm 34 (by decide +kernel) rfl, tbm 60 (by decide +kernel) rfl, ⟨by decide, by decide, by decide +kernel⟩, by decide, Or.inl (tbm 253 (by decide +kernel) rfl)⟩, rfl, tbm 59 (by decide +kernel) rfl⟩
set_option maxRecDepth 100000 in
theorem mlX11_28 : MLI RX11 28 yX6_init cX6_init 1 0 := ⟨⟨tbm 44 (by decide +kernel) rfl, tbm 266 (by decide +kernel) rfl, ⟨by decide, by decide, by decide +kernel⟩, by decide, Or.inr ⟨"RainRecorder", tnm 264 (by decide +kernel) rfl⟩⟩, rfl, tbm 265 (by decide +kernel) rfl⟩
set_option maxRecDepth 100000 in
theorem mlX11_35 : MLI RX11 35 yX10_init cX10_init 1 0 := ⟨⟨tbm 45 (by decide +kernel) rfl, tbm 283 (by decide +kernel) rfl, ⟨by decide, by decide, by decide +kernel⟩, by decide, Or.inr ⟨"RainRecorder", tnm 281 (by decide +kernel) rfl⟩⟩, rfl, tbm 282 (by decide +kernel) rfl⟩
set_option maxRecDepth 100000 in
theorem mlX11_42 : MLI RX11 42 yX7_init cX7_init 1 0 := ⟨⟨tbm 46 (by decide +kernel) rfl, tbm 299 (by decide +kernel) rfl, ⟨by decide, by decide, by decide +kernel⟩, by decide, Or.inr ⟨"RainRecorder", tnm 297 (by decide +kernel) rfl⟩⟩, rfl, tbm 298 (by decide +kernel) rfl⟩
set_option maxRecDepth 100000 in
theorem mlL_13 : MLV RL 13 yX11_addShower cX11_addShower 4 (some .int) 3 := ⟨⟨tbm 33 (by decide +kernel) rfl, tbm 351 (by decide +kernel) rfl, ⟨by decide, by decide, by decide +kernel⟩, by decide, Or.inl (tbm 348 (by decide +kernel) rfl)⟩, tbm 348 (by decide +kernel) rfl, tbm 349 (by decide +kernel) rfl, tbm 350 (by decide +kernel) rfl⟩
set_option maxRecDepth 100000 in
theorem mlX11_51 : MLS RX11 51 yX11_isWithin cX11_isWithin 3 (some .boolean) 3 := ⟨⟨tbm 33 (by decide +kernel) rfl, tbm 354 (by decide +kernel) rfl, ⟨by decide, by decide, by decide +kernel⟩, by decide, Or.inl (tbm 352 (by decide +kernel) rfl)⟩, tbm 353 (by decide +kernel) rfl⟩
set_option maxRecDepth 100000 in
theorem mlX11_64 : MLV RX11 64 yX4_keep cX4_keep 2 none 1 := ⟨⟨tbm 43 (by decide +kernel) rfl, tbm 358 (by decide +kernel) rfl, ⟨by decide, by decide, by decide +kernel⟩, by decide, Or.inl (tbm 355 (by decide +kernel) rfl)⟩, tbm 355 (by decide +kernel) rfl, tbm 356 (by decide +kernel) rfl, tbm 357 (by decide +kernel) rfl⟩
set_option maxRecDepth 100000 in
theorem mlX4_22 : MLV RX4 22 yX4_dropOldest cX4_dropOldest 3 none 0 := ⟨⟨tbm 43 (by decide +kernel) rfl, tbm 362 (by decide +kernel) rfl, ⟨by decide, by decide, by decide +kernel⟩, by decide, Or.inl (tbm 359 (by decide +kernel) rfl)⟩, tbm 359 (by decide +kernel) rfl, tbm 361 (by decide +kernel) rfl, tbm 0 (by decide +kernel) rfl⟩
set_option maxRecDepth 100000 in
theorem mlX4_25 : MLV RX4 25 yX9_copyFrom cX9_copyFrom 2 none 1 := ⟨⟨tbm 34 (by decide +kernel) rfl, tbm 366 (by decide +kernel) rfl, ⟨by decide, by decide, by decide +kernel⟩, by decide, Or.inl (tbm 363 (by decide +kernel) rfl)⟩, tbm 363 (by decide +kernel) rfl, tbm 364 (by decide +kernel) rfl, tbm 365 (by decide +kernel) rfl⟩
set_option maxRecDepth 100000 in
theorem mlX9_64 : MLV RX9 64 yX8_copyFrom cX8_copyFrom 2 none 1 := ⟨⟨tbm 35 (by decide +kernel) rfl, tbm 370 (by decide +kernel) rfl, ⟨by decide, by decide, by decide +kernel⟩, by decide, Or.inl (tbm 367 (by decide +kernel) rfl)⟩, tbm 367 (by decide +kernel) rfl, tbm 368 (by decide +kernel) rfl, tbm 369 (by decide +kernel) rfl⟩
set_option maxRecDepth 100000 in
theorem mlX8_21 : MLS RX8 21 yX11_copyRow cX11_copyRow 2 none 2 := ⟨⟨tbm 33 (by decide +kernel) rfl, tbm 197 (by decide +kernel) rfl, ⟨by decide, by decide, by decide +kernel⟩, by decide, Or.inr ⟨"RainRecorder", tnm 371 (by decide +kernel) rfl⟩⟩, tbm 196 (by decide +kernel) rfl⟩
set_option maxRecDepth 100000 in
theorem mlX9_68 : MLV RX9 68 yX2_copyFrom cX2_copyFrom 2 none 1 := ⟨⟨tbm 36 (by decide +kernel) rfl, tbm 375 (by decide +kernel) rfl, ⟨by decide, by decide, by decide +kernel⟩, by decide, Or.inl (tbm 372 (by decide +kernel) rfl)⟩, tbm 372 (by decide +kernel) rfl, tbm 373 (by decide +kernel) rfl, tbm 374 (by decide +kernel) rfl⟩
set_option maxRecDepth 100000 in
theorem mlX9_71 : MLV RX9 71 yX0_copyFrom cX0_copyFrom 2 none 1 := ⟨⟨tbm 37 (by decide +kernel) rfl, tbm 379 (by decide +kernel) rfl, ⟨by decide, by decide, by decide +kernel⟩, by decide, Or.inl (tbm 376 (by decide +kernel) rfl)⟩, tbm 376 (by decide +kernel) rfl, tbm 377 (by decide +kernel) rfl, tbm 378 (by decide +kernel) rfl⟩
set_option maxRecDepth 100000 in
theorem mlX9_74 : MLV RX9 74 yX1_copyFrom cX1_copyFrom 2 none 1 := ⟨⟨tbm 38 (by decide +kernel) rfl, tbm 383 (by decide +kernel) rfl, ⟨by decide, by decide, by decide +kernel⟩, by decide, Or.inl (tbm 380 (by decide +kernel) rfl)⟩, tbm 380 (by decide +kernel) rfl, tbm 381 (by decide +kernel) rfl, tbm 382 (by decide +kernel) rfl⟩
set_option maxRecDepth 100000 in
theorem mlX9_77 : MLV RX9 77 yX3_copyFrom cX3_copyFrom 2 none 1 := ⟨⟨tbm 39 (by decide +kernel) rfl, tbm 387 (by decide +kernel) rfl, ⟨by decide, by decide, by decide +kernel⟩, by decide, Or.inl (tbm 384 (by decide +kernel) rfl)⟩, tbm 384 (by decide +kernel) rfl, tbm 385 (by decide +kernel) rfl, tbm 386 (by decide +kernel) rfl⟩
set_option maxRecDepth 100000 in
theorem mlX3_18 : MLS RX3 18 yX11_copyRow cX11_copyRow 2 none 2 := ⟨⟨tbm 33 (by decide +kernel) rfl, tbm 197 (by decide +kernel) rfl, ⟨by decide, by decide, by decide +kernel⟩, by decide, Or.inr ⟨"RainRecorder", tnm 388 (by decide +kernel) rfl⟩⟩, tbm 196 (by decide +kernel) rfl⟩
set_option maxRecDepth 100000 in
theorem mlX9_80 : MLV RX9 80 yX5_copyFrom cX5_copyFrom 2 none 1 := ⟨⟨tbm 40 (by decide +kernel) rfl, tbm 392 (by decide +kernel) rfl, ⟨by decide, by decide, by decide +kernel⟩, by decide, Or.inl (tbm 389 (by decide +kernel) rfl)⟩, tbm 389 (by decide +kernel) rfl, tbm 390 (by decide +kernel) rfl, tbm 391 (by decide +kernel) rfl⟩
set_option maxRecDepth 100000 in
theorem mlX5_21 : MLS RX5 21 yX11_copyRow cX11_copyRow 2 none 2 := ⟨⟨tbm 33 (by decide +kernel) rfl, tbm 197 (by decide +kernel) rfl, ⟨by decide, by decide, by decide +kernel⟩, by decide, Or.inr ⟨"RainRecorder", tnm 393 (by decide +kernel) rfl⟩⟩, tbm 196 (by decide +kernel) rfl⟩
set_option maxRecDepth 100000 in
theorem mlX11_68 : MLV RX11 68 yX8_insert cX8_insert 5 (some .int) 3 := ⟨⟨tbm 35 (by decide +kernel) rfl, tbm 397 (by decide +kernel) rfl, ⟨by decide, by decide, by decide +kernel⟩, by decide, Or.inl (tbm 394 (by decide +kernel) rfl)⟩, tbm 394 (by decide +kernel) rfl, tbm 395 (by decide +kernel) rfl, tbm 396 (by decide +kernel) rfl⟩
set_option maxRecDepth 100000 in
theorem mlX8_29 : MLV RX8 29 yX8_move cX8_move 3 none 2 := ⟨⟨tbm 35 (by decide +kernel) rfl, tbm 401 (by decide +kernel) rfl, ⟨by decide, by decide, by decide +kernel⟩, by decide, Or.inl (tbm 398 (by decide +kernel) rfl)⟩, tbm 398 (by decide +kernel) rfl, tbm 400 (by decide +kernel) rfl, tbm 1 (by decide +kernel) rfl⟩
set_option maxRecDepth 100000 in
theorem mlL_18 : MLV RL 18 yX11_cancel cX11_cancel 2 (some .int) 1 := ⟨⟨tbm 33 (by decide +kernel) rfl, tbm 405 (by decide +kernel) rfl, ⟨by decide, by decide, by decide +kernel⟩, by decide, Or.inl (tbm 402 (by decide +kernel) rfl)⟩, tbm 402 (by decide +kernel) rfl, tbm 403 (by decide +kernel) rfl, tbm 404 (by decide +kernel) rfl⟩
set_option maxRecDepth 100000 in
theorem mlX11_72 : MLV RX11 72 yX8_has cX8_has 2 (some .boolean) 1 := ⟨⟨tbm 35 (by decide +kernel) rfl, tbm 409 (by decide +kernel) rfl, ⟨by decide, by decide, by decide +kernel⟩, by decide, Or.inl (tbm 406 (by decide +kernel) rfl)⟩, tbm 406 (by decide +kernel) rfl, tbm 407 (by decide +kernel) rfl, tbm 408 (by decide +kernel) rfl⟩
set_option maxRecDepth 100000 in
theorem mlX11_80 : MLV RX11 80 yX8_removeAt cX8_removeAt 3 none 1 := ⟨⟨tbm 35 (by decide +kernel) rfl, tbm 413 (by decide +kernel) rfl, ⟨by decide, by decide, by decide +kernel⟩, by decide, Or.inl (tbm 410 (by decide +kernel) rfl)⟩, tbm 410 (by decide +kernel) rfl, tbm 411 (by decide +kernel) rfl, tbm 412 (by decide +kernel) rfl⟩
set_option maxRecDepth 100000 in
theorem mlX8_33 : MLV RX8 33 yX8_has cX8_has 2 (some .boolean) 1 := ⟨⟨tbm 35 (by decide +kernel) rfl, tbm 409 (by decide +kernel) rfl, ⟨by decide, by decide, by decide +kernel⟩, by decide, Or.inl (tbm 414 (by decide +kernel) rfl)⟩, tbm 414 (by decide +kernel) rfl, tbm 407 (by decide +kernel) rfl, tbm 408 (by decide +kernel) rfl⟩
set_option maxRecDepth 100000 in
theorem mlL_23 : MLV RL 23 yX11_shower cX11_shower 3 (some .int) 2 := ⟨⟨tbm 33 (by decide +kernel) rfl, tbm 418 (by decide +kernel) rfl, ⟨by decide, by decide, by decide +kernel⟩, by decide, Or.inl (tbm 415 (by decide +kernel) rfl)⟩, tbm 415 (by decide +kernel) rfl, tbm 416 (by decide +kernel) rfl, tbm 417 (by decide +kernel) rfl⟩
set_option maxRecDepth 100000 in
theorem mlX11_90 : MLV RX11 90 yX8_ticksToCome cX8_ticksToCome 3 (some .int) 2 := ⟨⟨tbm 35 (by decide +kernel) rfl, tbm 422 (by decide +kernel) rfl, ⟨by decide, by decide, by decide +kernel⟩, by decide, Or.inl (tbm 419 (by decide +kernel) rfl)⟩, tbm 419 (by decide +kernel) rfl, tbm 420 (by decide +kernel) rfl, tbm 421 (by decide +kernel) rfl⟩
set_option maxRecDepth 100000 in
theorem mlX8_37 : MLS RX8 37 yJ9_max_7cf53 cJ9_max_7cf53 2 (some .int) 2 := ⟨⟨tbm 41 (by decide +kernel) rfl, tbm 425 (by decide +kernel) rfl, ⟨by decide, by decide, by decide +kernel⟩, by decide, Or.inl (tbm 423 (by decide +kernel) rfl)⟩, tbm 424 (by decide +kernel) rfl⟩
set_option maxRecDepth 100000 in
theorem mlL_28 : MLV RL 28 yX11_run cX11_run 3 (some .int) 1 := ⟨⟨tbm 33 (by decide +kernel) rfl, tbm 429 (by decide +kernel) rfl, ⟨by decide, by decide, by decide +kernel⟩, by decide, Or.inl (tbm 426 (by decide +kernel) rfl)⟩, tbm 426 (by decide +kernel) rfl, tbm 427 (by decide +kernel) rfl, tbm 428 (by decide +kernel) rfl⟩
set_option maxRecDepth 100000 in
theorem mlX11_94 : MLV RX11 94 yX11_errorOfTicks cX11_errorOfTicks 2 (some .int) 1 := ⟨⟨tbm 33 (by decide +kernel) rfl, tbm 433 (by decide +kernel) rfl, ⟨by decide, by decide, by decide +kernel⟩, by decide, Or.inl (tbm 430 (by decide +kernel) rfl)⟩, tbm 430 (by decide +kernel) rfl, tbm 432 (by decide +kernel) rfl, tbm 2 (by decide +kernel) rfl⟩
set_option maxRecDepth 100000 in
theorem mlX11_98 : MLV RX11 98 yX9_passTicks cX9_passTicks 4 (some .int) 1 := ⟨⟨tbm 34 (by decide +kernel) rfl, tbm 437 (by decide +kernel) rfl, ⟨by decide, by decide, by decide +kernel⟩, by decide, Or.inl (tbm 434 (by decide +kernel) rfl)⟩, tbm 434 (by decide +kernel) rfl, tbm 435 (by decide +kernel) rfl, tbm 436 (by decide +kernel) rfl⟩
set_option maxRecDepth 100000 in
theorem mlX9_90 : MLV RX9 90 yX9_passTick cX9_passTick 4 (some .boolean) 0 := ⟨⟨tbm 34 (by decide +kernel) rfl, tbm 441 (by decide +kernel) rfl, ⟨by decide, by decide, by decide +kernel⟩, by decide, Or.inl (tbm 438 (by decide +kernel) rfl)⟩, tbm 438 (by decide +kernel) rfl, tbm 440 (by decide +kernel) rfl, tbm 3 (by decide +kernel) rfl⟩
set_option maxRecDepth 100000 in
theorem mlX9_94 : MLV RX9 94 yX8_rainIn cX8_rainIn 4 (some .int) 1 := ⟨⟨tbm 35 (by decide +kernel) rfl, tbm 445 (by decide +kernel) rfl, ⟨by decide, by decide, by decide +kernel⟩, by decide, Or.inl (tbm 442 (by decide +kernel) rfl)⟩, tbm 442 (by decide +kernel) rfl, tbm 443 (by decide +kernel) rfl, tbm 444 (by decide +kernel) rfl⟩
set_option maxRecDepth 100000 in
theorem mlX9_98 : MLV RX9 98 yX2_passTick cX2_passTick 6 (some .int) 3 := ⟨⟨tbm 36 (by decide +kernel) rfl, tbm 449 (by decide +kernel) rfl, ⟨by decide, by decide, by decide +kernel⟩, by decide, Or.inl (tbm 446 (by decide +kernel) rfl)⟩, tbm 446 (by decide +kernel) rfl, tbm 447 (by decide +kernel) rfl, tbm 448 (by decide +kernel) rfl⟩
set_option maxRecDepth 100000 in
theorem mlX2_16 : MLS RX2 16 yJ9_max_7cf53 cJ9_max_7cf53 2 (some .int) 2 := ⟨⟨tbm 41 (by decide +kernel) rfl, tbm 425 (by decide +kernel) rfl, ⟨by decide, by decide, by decide +kernel⟩, by decide, Or.inl (tbm 450 (by decide +kernel) rfl)⟩, tbm 424 (by decide +kernel) rfl⟩
set_option maxRecDepth 100000 in
theorem mlX2_22 : MLS RX2 22 yJ9_min_7cf53 cJ9_min_7cf53 2 (some .int) 2 := ⟨⟨tbm 41 (by decide +kernel) rfl, tbm 200 (by decide +kernel) rfl, ⟨by decide, by decide, by decide +kernel⟩, by decide, Or.inl (tbm 451 (by decide +kernel) rfl)⟩, tbm 199 (by decide +kernel) rfl⟩
set_option maxRecDepth 100000 in
theorem mlX9_101 : MLV RX9 101 yX0_passTick cX0_passTick 7 (some .int) 5 := ⟨⟨tbm 37 (by decide +kernel) rfl, tbm 455 (by decide +kernel) rfl, ⟨by decide, by decide, by decide +kernel⟩, by decide, Or.inl (tbm 452 (by decide +kernel) rfl)⟩, tbm 452 (by decide +kernel) rfl, tbm 453 (by decide +kernel) rfl, tbm 454 (by decide +kernel) rfl⟩
set_option maxRecDepth 100000 in
theorem mlX0_30 : MLS RX0 30 yJ9_min_7cf53 cJ9_min_7cf53 2 (some .int) 2 := ⟨⟨tbm 41 (by decide +kernel) rfl, tbm 200 (by decide +kernel) rfl, ⟨by decide, by decide, by decide +kernel⟩, by decide, Or.inl (tbm 456 (by decide +kernel) rfl)⟩, tbm 199 (by decide +kernel) rfl⟩
set_option maxRecDepth 100000 in
theorem mlX0_36 : MLV RX0 36 yX0_tip cX0_tip 4 (some .int) 2 := ⟨⟨tbm 37 (by decide +kernel) rfl, tbm 460 (by decide +kernel) rfl, ⟨by decide, by decide, by decide +kernel⟩, by decide, Or.inl (tbm 457 (by decide +kernel) rfl)⟩, tbm 457 (by decide +kernel) rfl, tbm 459 (by decide +kernel) rfl, tbm 4 (by decide +kernel) rfl⟩
set_option maxRecDepth 100000 in
theorem mlX9_104 : MLV RX9 104 yX9_drumPlace cX9_drumPlace 1 (some .int) 0 := ⟨⟨tbm 34 (by decide +kernel) rfl, tbm 464 (by decide +kernel) rfl, ⟨by decide, by decide, by decide +kernel⟩, by decide, Or.inl (tbm 461 (by decide +kernel) rfl)⟩, tbm 461 (by decide +kernel) rfl, tbm 462 (by decide +kernel) rfl, tbm 463 (by decide +kernel) rfl⟩
set_option maxRecDepth 100000 in
theorem mlX9_121 : MLV RX9 121 yX3_placeOf cX3_placeOf 8 (some .int) 2 := ⟨⟨tbm 39 (by decide +kernel) rfl, tbm 468 (by decide +kernel) rfl, ⟨by decide, by decide, by decide +kernel⟩, by decide, Or.inl (tbm 465 (by decide +kernel) rfl)⟩, tbm 465 (by decide +kernel) rfl, tbm 466 (by decide +kernel) rfl, tbm 467 (by decide +kernel) rfl⟩
set_option maxRecDepth 100000 in
theorem mlX9_108 : MLV RX9 108 yX5_append cX5_append 4 none 3 := ⟨⟨tbm 40 (by decide +kernel) rfl, tbm 472 (by decide +kernel) rfl, ⟨by decide, by decide, by decide +kernel⟩, by decide, Or.inl (tbm 469 (by decide +kernel) rfl)⟩, tbm 469 (by decide +kernel) rfl, tbm 470 (by decide +kernel) rfl, tbm 471 (by decide +kernel) rfl⟩
set_option maxRecDepth 100000 in
theorem mlX5_29 : MLV RX5 29 yX5_removeOldest cX5_removeOldest 1 none 0 := ⟨⟨tbm 40 (by decide +kernel) rfl, tbm 476 (by decide +kernel) rfl, ⟨by decide, by decide, by decide +kernel⟩, by decide, Or.inl (tbm 473 (by decide +kernel) rfl)⟩, tbm 473 (by decide +kernel) rfl, tbm 475 (by decide +kernel) rfl, tbm 5 (by decide +kernel) rfl⟩
set_option maxRecDepth 100000 in
theorem mlX9_112 : MLV RX9 112 yX1_passTick cX1_passTick 1 none 0 := ⟨⟨tbm 38 (by decide +kernel) rfl, tbm 481 (by decide +kernel) rfl, ⟨by decide, by decide, by decide +kernel⟩, by decide, Or.inl (tbm 478 (by decide +kernel) rfl)⟩, tbm 478 (by decide +kernel) rfl, tbm 479 (by decide +kernel) rfl, tbm 480 (by decide +kernel) rfl⟩
set_option maxRecDepth 100000 in
theorem mlX9_114 : MLV RX9 114 yX8_removeEnded cX8_removeEnded 4 none 1 := ⟨⟨tbm 35 (by decide +kernel) rfl, tbm 485 (by decide +kernel) rfl, ⟨by decide, by decide, by decide +kernel⟩, by decide, Or.inl (tbm 482 (by decide +kernel) rfl)⟩, tbm 482 (by decide +kernel) rfl, tbm 483 (by decide +kernel) rfl, tbm 484 (by decide +kernel) rfl⟩
set_option maxRecDepth 100000 in
theorem mlL_32 : MLV RL 32 yX11_undo cX11_undo 1 (some .int) 0 := ⟨⟨tbm 33 (by decide +kernel) rfl, tbm 489 (by decide +kernel) rfl, ⟨by decide, by decide, by decide +kernel⟩, by decide, Or.inl (tbm 486 (by decide +kernel) rfl)⟩, tbm 486 (by decide +kernel) rfl, tbm 487 (by decide +kernel) rfl, tbm 488 (by decide +kernel) rfl⟩
set_option maxRecDepth 100000 in
theorem mlX11_102 : MLV RX11 102 yX4_restoreInto cX4_restoreInto 2 none 1 := ⟨⟨tbm 43 (by decide +kernel) rfl, tbm 493 (by decide +kernel) rfl, ⟨by decide, by decide, by decide +kernel⟩, by decide, Or.inl (tbm 490 (by decide +kernel) rfl)⟩, tbm 490 (by decide +kernel) rfl, tbm 491 (by decide +kernel) rfl, tbm 492 (by decide +kernel) rfl⟩
set_option maxRecDepth 100000 in
theorem mlL_37 : MLV RL 37 yX11_set cX11_set 4 (some .int) 2 := ⟨⟨tbm 33 (by decide +kernel) rfl, tbm 497 (by decide +kernel) rfl, ⟨by decide, by decide, by decide +kernel⟩, by decide, Or.inl (tbm 494 (by decide +kernel) rfl)⟩, tbm 494 (by decide +kernel) rfl, tbm 495 (by decide +kernel) rfl, tbm 496 (by decide +kernel) rfl⟩
set_option maxRecDepth 100000 in
theorem mlL_41 : MLV RL 41 yX11_wind cX11_wind 2 (some .int) 0 := ⟨⟨tbm 33 (by decide +kernel) rfl, tbm 505 (by decide +kernel) rfl, ⟨by decide, by decide, by decide +kernel⟩, by decide, Or.inl (tbm 502 (by decide +kernel) rfl)⟩, tbm 502 (by decide +kernel) rfl, tbm 503 (by decide +kernel) rfl, tbm 504 (by decide +kernel) rfl⟩
set_option maxRecDepth 100000 in
theorem mlL_45 : MLV RL 45 yX11_addGears cX11_addGears 3 (some .int) 2 := ⟨⟨tbm 33 (by decide +kernel) rfl, tbm 509 (by decide +kernel) rfl, ⟨by decide, by decide, by decide +kernel⟩, by decide, Or.inl (tbm 506 (by decide +kernel) rfl)⟩, tbm 506 (by decide +kernel) rfl, tbm 507 (by decide +kernel) rfl, tbm 508 (by decide +kernel) rfl⟩
set_option maxRecDepth 100000 in
theorem mlX11_130 : MLV RX11 130 yX3_append cX3_append 3 none 2 := ⟨⟨tbm 39 (by decide +kernel) rfl, tbm 513 (by decide +kernel) rfl, ⟨by decide, by decide, by decide +kernel⟩, by decide, Or.inl (tbm 510 (by decide +kernel) rfl)⟩, tbm 510 (by decide +kernel) rfl, tbm 511 (by decide +kernel) rfl, tbm 512 (by decide +kernel) rfl⟩
set_option maxRecDepth 100000 in
theorem mlL_49 : MLV RL 49 yX11_removeGears cX11_removeGears 2 (some .int) 1 := ⟨⟨tbm 33 (by decide +kernel) rfl, tbm 517 (by decide +kernel) rfl, ⟨by decide, by decide, by decide +kernel⟩, by decide, Or.inl (tbm 514 (by decide +kernel) rfl)⟩, tbm 514 (by decide +kernel) rfl, tbm 515 (by decide +kernel) rfl, tbm 516 (by decide +kernel) rfl⟩
set_option maxRecDepth 100000 in
theorem mlX11_134 : MLV RX11 134 yX3_has cX3_has 2 (some .boolean) 1 := ⟨⟨tbm 39 (by decide +kernel) rfl, tbm 521 (by decide +kernel) rfl, ⟨by decide, by decide, by decide +kernel⟩, by decide, Or.inl (tbm 518 (by decide +kernel) rfl)⟩, tbm 518 (by decide +kernel) rfl, tbm 519 (by decide +kernel) rfl, tbm 520 (by decide +kernel) rfl⟩
set_option maxRecDepth 100000 in
theorem mlX11_135 : MLV RX11 135 yX3_removeAt cX3_removeAt 3 none 1 := ⟨⟨tbm 39 (by decide +kernel) rfl, tbm 525 (by decide +kernel) rfl, ⟨by decide, by decide, by decide +kernel⟩, by decide, Or.inl (tbm 522 (by decide +kernel) rfl)⟩, tbm 522 (by decide +kernel) rfl, tbm 523 (by decide +kernel) rfl, tbm 524 (by decide +kernel) rfl⟩
set_option maxRecDepth 100000 in
theorem mlX3_26 : MLV RX3 26 yX3_has cX3_has 2 (some .boolean) 1 := ⟨⟨tbm 39 (by decide +kernel) rfl, tbm 521 (by decide +kernel) rfl, ⟨by decide, by decide, by decide +kernel⟩, by decide, Or.inl (tbm 526 (by decide +kernel) rfl)⟩, tbm 526 (by decide +kernel) rfl, tbm 519 (by decide +kernel) rfl, tbm 520 (by decide +kernel) rfl⟩
set_option maxRecDepth 100000 in
theorem mlL_53 : MLV RL 53 yX11_gear cX11_gear 3 (some .int) 2 := ⟨⟨tbm 33 (by decide +kernel) rfl, tbm 530 (by decide +kernel) rfl, ⟨by decide, by decide, by decide +kernel⟩, by decide, Or.inl (tbm 527 (by decide +kernel) rfl)⟩, tbm 527 (by decide +kernel) rfl, tbm 528 (by decide +kernel) rfl, tbm 529 (by decide +kernel) rfl⟩
set_option maxRecDepth 100000 in
theorem mlL_57 : MLV RL 57 yX11_count cX11_count 2 (some .int) 1 := ⟨⟨tbm 33 (by decide +kernel) rfl, tbm 534 (by decide +kernel) rfl, ⟨by decide, by decide, by decide +kernel⟩, by decide, Or.inl (tbm 531 (by decide +kernel) rfl)⟩, tbm 531 (by decide +kernel) rfl, tbm 532 (by decide +kernel) rfl, tbm 533 (by decide +kernel) rfl⟩
set_option maxRecDepth 100000 in
theorem mlX11_149 : MLV RX11 149 yX5_countStorms cX5_countStorms 4 (some .int) 1 := ⟨⟨tbm 40 (by decide +kernel) rfl, tbm 538 (by decide +kernel) rfl, ⟨by decide, by decide, by decide +kernel⟩, by decide, Or.inl (tbm 535 (by decide +kernel) rfl)⟩, tbm 535 (by decide +kernel) rfl, tbm 536 (by decide +kernel) rfl, tbm 537 (by decide +kernel) rfl⟩
set_option maxRecDepth 100000 in
theorem mlX5_51 : MLV RX5 51 yX5_beginsStorm cX5_beginsStorm 3 (some .boolean) 2 := ⟨⟨tbm 40 (by decide +kernel) rfl, tbm 542 (by decide +kernel) rfl, ⟨by decide, by decide, by decide +kernel⟩, by decide, Or.inl (tbm 539 (by decide +kernel) rfl)⟩, tbm 539 (by decide +kernel) rfl, tbm 541 (by decide +kernel) rfl, tbm 6 (by decide +kernel) rfl⟩
set_option maxRecDepth 100000 in
theorem mlX5_42 : MLV RX5 42 yX5_ticksBetween cX5_ticksBetween 3 (some .int) 2 := ⟨⟨tbm 40 (by decide +kernel) rfl, tbm 546 (by decide +kernel) rfl, ⟨by decide, by decide, by decide +kernel⟩, by decide, Or.inl (tbm 543 (by decide +kernel) rfl)⟩, tbm 543 (by decide +kernel) rfl, tbm 544 (by decide +kernel) rfl, tbm 545 (by decide +kernel) rfl⟩
set_option maxRecDepth 100000 in
theorem mlX5_38 : MLV RX5 38 yX5_has cX5_has 2 (some .boolean) 1 := ⟨⟨tbm 40 (by decide +kernel) rfl, tbm 550 (by decide +kernel) rfl, ⟨by decide, by decide, by decide +kernel⟩, by decide, Or.inl (tbm 547 (by decide +kernel) rfl)⟩, tbm 547 (by decide +kernel) rfl, tbm 548 (by decide +kernel) rfl, tbm 549 (by decide +kernel) rfl⟩
set_option maxRecDepth 100000 in
theorem mlX11_174 : MLV RX11 174 yX9_drumPlace cX9_drumPlace 1 (some .int) 0 := ⟨⟨tbm 34 (by decide +kernel) rfl, tbm 464 (by decide +kernel) rfl, ⟨by decide, by decide, by decide +kernel⟩, by decide, Or.inl (tbm 551 (by decide +kernel) rfl)⟩, tbm 551 (by decide +kernel) rfl, tbm 462 (by decide +kernel) rfl, tbm 463 (by decide +kernel) rfl⟩
set_option maxRecDepth 100000 in
theorem mlX11_181 : MLV RX11 181 yX8_rainIn cX8_rainIn 4 (some .int) 1 := ⟨⟨tbm 35 (by decide +kernel) rfl, tbm 445 (by decide +kernel) rfl, ⟨by decide, by decide, by decide +kernel⟩, by decide, Or.inl (tbm 552 (by decide +kernel) rfl)⟩, tbm 552 (by decide +kernel) rfl, tbm 443 (by decide +kernel) rfl, tbm 444 (by decide +kernel) rfl⟩
set_option maxRecDepth 100000 in
theorem mlL_61 : MLV RL 61 yX11_account cX11_account 2 (some .int) 1 := ⟨⟨tbm 33 (by decide +kernel) rfl, tbm 556 (by decide +kernel) rfl, ⟨by decide, by decide, by decide +kernel⟩, by decide, Or.inl (tbm 553 (by decide +kernel) rfl)⟩, tbm 553 (by decide +kernel) rfl, tbm 554 (by decide +kernel) rfl, tbm 555 (by decide +kernel) rfl⟩
set_option maxRecDepth 100000 in
theorem mlX11_184 : MLV RX11 184 yX9_accountOf cX9_accountOf 2 (some .int) 1 := ⟨⟨tbm 34 (by decide +kernel) rfl, tbm 560 (by decide +kernel) rfl, ⟨by decide, by decide, by decide +kernel⟩, by decide, Or.inl (tbm 557 (by decide +kernel) rfl)⟩, tbm 557 (by decide +kernel) rfl, tbm 558 (by decide +kernel) rfl, tbm 559 (by decide +kernel) rfl⟩
set_option maxRecDepth 100000 in
theorem mlL_65 : MLV RL 65 yX11_mark cX11_mark 3 (some .int) 2 := ⟨⟨tbm 33 (by decide +kernel) rfl, tbm 564 (by decide +kernel) rfl, ⟨by decide, by decide, by decide +kernel⟩, by decide, Or.inl (tbm 561 (by decide +kernel) rfl)⟩, tbm 561 (by decide +kernel) rfl, tbm 562 (by decide +kernel) rfl, tbm 563 (by decide +kernel) rfl⟩
set_option maxRecDepth 100000 in
theorem mlX11_187 : MLV RX11 187 yX5_has cX5_has 2 (some .boolean) 1 := ⟨⟨tbm 40 (by decide +kernel) rfl, tbm 550 (by decide +kernel) rfl, ⟨by decide, by decide, by decide +kernel⟩, by decide, Or.inl (tbm 565 (by decide +kernel) rfl)⟩, tbm 565 (by decide +kernel) rfl, tbm 548 (by decide +kernel) rfl, tbm 549 (by decide +kernel) rfl⟩
set_option maxRecDepth 100000 in
theorem mlL_69 : MLV RL 69 yX11_storm cX11_storm 6 (some .int) 2 := ⟨⟨tbm 33 (by decide +kernel) rfl, tbm 569 (by decide +kernel) rfl, ⟨by decide, by decide, by decide +kernel⟩, by decide, Or.inl (tbm 566 (by decide +kernel) rfl)⟩, tbm 566 (by decide +kernel) rfl, tbm 567 (by decide +kernel) rfl, tbm 568 (by decide +kernel) rfl⟩
set_option maxRecDepth 100000 in
theorem mlX11_197 : MLV RX11 197 yX5_firstOfStorm cX5_firstOfStorm 5 (some .int) 2 := ⟨⟨tbm 40 (by decide +kernel) rfl, tbm 573 (by decide +kernel) rfl, ⟨by decide, by decide, by decide +kernel⟩, by decide, Or.inl (tbm 570 (by decide +kernel) rfl)⟩, tbm 570 (by decide +kernel) rfl, tbm 571 (by decide +kernel) rfl, tbm 572 (by decide +kernel) rfl⟩
set_option maxRecDepth 100000 in
theorem mlX11_200 : MLV RX11 200 yX5_endOfStorm cX5_endOfStorm 4 (some .int) 2 := ⟨⟨tbm 40 (by decide +kernel) rfl, tbm 577 (by decide +kernel) rfl, ⟨by decide, by decide, by decide +kernel⟩, by decide, Or.inl (tbm 574 (by decide +kernel) rfl)⟩, tbm 574 (by decide +kernel) rfl, tbm 575 (by decide +kernel) rfl, tbm 576 (by decide +kernel) rfl⟩
set_option maxRecDepth 100000 in
theorem mlX11_203 : MLV RX11 203 yX5_ticksBetween cX5_ticksBetween 3 (some .int) 2 := ⟨⟨tbm 40 (by decide +kernel) rfl, tbm 546 (by decide +kernel) rfl, ⟨by decide, by decide, by decide +kernel⟩, by decide, Or.inl (tbm 578 (by decide +kernel) rfl)⟩, tbm 578 (by decide +kernel) rfl, tbm 544 (by decide +kernel) rfl, tbm 545 (by decide +kernel) rfl⟩
set_option maxRecDepth 100000 in
theorem mlX11_206 : MLV RX11 206 yX11_amountOf cX11_amountOf 3 (some .int) 2 := ⟨⟨tbm 33 (by decide +kernel) rfl, tbm 582 (by decide +kernel) rfl, ⟨by decide, by decide, by decide +kernel⟩, by decide, Or.inl (tbm 579 (by decide +kernel) rfl)⟩, tbm 579 (by decide +kernel) rfl, tbm 581 (by decide +kernel) rfl, tbm 7 (by decide +kernel) rfl⟩
set_option maxRecDepth 100000 in
theorem mlX11_209 : MLV RX11 209 yX11_lossOf cX11_lossOf 3 (some .int) 2 := ⟨⟨tbm 33 (by decide +kernel) rfl, tbm 586 (by decide +kernel) rfl, ⟨by decide, by decide, by decide +kernel⟩, by decide, Or.inl (tbm 583 (by decide +kernel) rfl)⟩, tbm 583 (by decide +kernel) rfl, tbm 585 (by decide +kernel) rfl, tbm 8 (by decide +kernel) rfl⟩
set_option maxRecDepth 100000 in
theorem mlX11_258 : MLV RX11 258 yX5_lossBetweenTips cX5_lossBetweenTips 6 (some .int) 3 := ⟨⟨tbm 40 (by decide +kernel) rfl, tbm 590 (by decide +kernel) rfl, ⟨by decide, by decide, by decide +kernel⟩, by decide, Or.inl (tbm 587 (by decide +kernel) rfl)⟩, tbm 587 (by decide +kernel) rfl, tbm 588 (by decide +kernel) rfl, tbm 589 (by decide +kernel) rfl⟩
set_option maxRecDepth 100000 in
theorem mlX5_55 : MLS RX5 55 yX11_quotient cX11_quotient 2 (some .int) 2 := ⟨⟨tbm 33 (by decide +kernel) rfl, tbm 593 (by decide +kernel) rfl, ⟨by decide, by decide, by decide +kernel⟩, by decide, Or.inr ⟨"RainRecorder", tnm 591 (by decide +kernel) rfl⟩⟩, tbm 592 (by decide +kernel) rfl⟩
set_option maxRecDepth 100000 in
theorem mlX11_261 : MLS RX11 261 yJ9_floorDiv_7cf53 cJ9_floorDiv_7cf53 3 (some .int) 2 := ⟨⟨tbm 41 (by decide +kernel) rfl, tbm 596 (by decide +kernel) rfl, ⟨by decide, by decide, by decide +kernel⟩, by decide, Or.inl (tbm 594 (by decide +kernel) rfl)⟩, tbm 595 (by decide +kernel) rfl⟩
set_option maxRecDepth 100000 in
theorem mlX11_212 : MLV RX11 212 yX5_peak cX5_peak 6 (some .int) 2 := ⟨⟨tbm 40 (by decide +kernel) rfl, tbm 600 (by decide +kernel) rfl, ⟨by decide, by decide, by decide +kernel⟩, by decide, Or.inl (tbm 597 (by decide +kernel) rfl)⟩, tbm 597 (by decide +kernel) rfl, tbm 598 (by decide +kernel) rfl, tbm 599 (by decide +kernel) rfl⟩
set_option maxRecDepth 100000 in
theorem mlX5_46 : MLS RX5 46 yJ9_max_7cf53 cJ9_max_7cf53 2 (some .int) 2 := ⟨⟨tbm 41 (by decide +kernel) rfl, tbm 425 (by decide +kernel) rfl, ⟨by decide, by decide, by decide +kernel⟩, by decide, Or.inl (tbm 601 (by decide +kernel) rfl)⟩, tbm 424 (by decide +kernel) rfl⟩
set_option maxRecDepth 100000 in
theorem mlL_73 : MLV RL 73 yX11_greatestStorm cX11_greatestStorm 9 (some .int) 0 := ⟨⟨tbm 33 (by decide +kernel) rfl, tbm 605 (by decide +kernel) rfl, ⟨by decide, by decide, by decide +kernel⟩, by decide, Or.inl (tbm 602 (by decide +kernel) rfl)⟩, tbm 602 (by decide +kernel) rfl, tbm 603 (by decide +kernel) rfl, tbm 604 (by decide +kernel) rfl⟩
set_option maxRecDepth 100000 in
theorem mlL_77 : MLV RL 77 yX11_gapForOne cX11_gapForOne 2 (some .int) 0 := ⟨⟨tbm 33 (by decide +kernel) rfl, tbm 609 (by decide +kernel) rfl, ⟨by decide, by decide, by decide +kernel⟩, by decide, Or.inl (tbm 606 (by decide +kernel) rfl)⟩, tbm 606 (by decide +kernel) rfl, tbm 607 (by decide +kernel) rfl, tbm 608 (by decide +kernel) rfl⟩
set_option maxRecDepth 100000 in
theorem mlX11_215 : MLV RX11 215 yX5_widestGap cX5_widestGap 3 (some .int) 0 := ⟨⟨tbm 40 (by decide +kernel) rfl, tbm 613 (by decide +kernel) rfl, ⟨by decide, by decide, by decide +kernel⟩, by decide, Or.inl (tbm 610 (by decide +kernel) rfl)⟩, tbm 610 (by decide +kernel) rfl, tbm 611 (by decide +kernel) rfl, tbm 612 (by decide +kernel) rfl⟩
set_option maxRecDepth 100000 in
theorem mlX11_218 : MLS RX11 218 yJ9_max_7cf53 cJ9_max_7cf53 2 (some .int) 2 := ⟨⟨tbm 41 (by decide +kernel) rfl, tbm 425 (by decide +kernel) rfl, ⟨by decide, by decide, by decide +kernel⟩, by decide, Or.inl (tbm 614 (by decide +kernel) rfl)⟩, tbm 424 (by decide +kernel) rfl⟩
set_option maxRecDepth 100000 in
theorem mlL_81 : MLV RL 81 yX11_ifRun cX11_ifRun 5 (some .int) 2 := ⟨⟨tbm 33 (by decide +kernel) rfl, tbm 618 (by decide +kernel) rfl, ⟨by decide, by decide, by decide +kernel⟩, by decide, Or.inl (tbm 615 (by decide +kernel) rfl)⟩, tbm 615 (by decide +kernel) rfl, tbm 616 (by decide +kernel) rfl, tbm 617 (by decide +kernel) rfl⟩
set_option maxRecDepth 100000 in
theorem mlX11_223 : MLV RX11 223 yX9_copyFrom cX9_copyFrom 2 none 1 := ⟨⟨tbm 34 (by decide +kernel) rfl, tbm 366 (by decide +kernel) rfl, ⟨by decide, by decide, by decide +kernel⟩, by decide, Or.inl (tbm 619 (by decide +kernel) rfl)⟩, tbm 619 (by decide +kernel) rfl, tbm 364 (by decide +kernel) rfl, tbm 365 (by decide +kernel) rfl⟩
set_option maxRecDepth 100000 in
theorem mlL_85 : MLV RL 85 yX11_capacityFor cX11_capacityFor 5 (some .int) 2 := ⟨⟨tbm 33 (by decide +kernel) rfl, tbm 623 (by decide +kernel) rfl, ⟨by decide, by decide, by decide +kernel⟩, by decide, Or.inl (tbm 620 (by decide +kernel) rfl)⟩, tbm 620 (by decide +kernel) rfl, tbm 621 (by decide +kernel) rfl, tbm 622 (by decide +kernel) rfl⟩
set_option maxRecDepth 100000 in
theorem mlX11_227 : MLV RX11 227 yX6_lookAhead cX6_lookAhead 5 none 2 := ⟨⟨tbm 44 (by decide +kernel) rfl, tbm 628 (by decide +kernel) rfl, ⟨by decide, by decide, by decide +kernel⟩, by decide, Or.inl (tbm 625 (by decide +kernel) rfl)⟩, tbm 625 (by decide +kernel) rfl, tbm 626 (by decide +kernel) rfl, tbm 627 (by decide +kernel) rfl⟩
set_option maxRecDepth 100000 in
theorem mlX6_19 : MLS RX6 19 yJ9_min_7cf53 cJ9_min_7cf53 2 (some .int) 2 := ⟨⟨tbm 41 (by decide +kernel) rfl, tbm 200 (by decide +kernel) rfl, ⟨by decide, by decide, by decide +kernel⟩, by decide, Or.inl (tbm 629 (by decide +kernel) rfl)⟩, tbm 199 (by decide +kernel) rfl⟩
set_option maxRecDepth 100000 in
theorem mlX6_38 : MLV RX6 38 yX8_rainIn cX8_rainIn 4 (some .int) 1 := ⟨⟨tbm 35 (by decide +kernel) rfl, tbm 445 (by decide +kernel) rfl, ⟨by decide, by decide, by decide +kernel⟩, by decide, Or.inl (tbm 630 (by decide +kernel) rfl)⟩, tbm 630 (by decide +kernel) rfl, tbm 443 (by decide +kernel) rfl, tbm 444 (by decide +kernel) rfl⟩
set_option maxRecDepth 100000 in
theorem mlX6_51 : MLV RX6 51 yX2_passTick cX2_passTick 6 (some .int) 3 := ⟨⟨tbm 36 (by decide +kernel) rfl, tbm 449 (by decide +kernel) rfl, ⟨by decide, by decide, by decide +kernel⟩, by decide, Or.inl (tbm 631 (by decide +kernel) rfl)⟩, tbm 631 (by decide +kernel) rfl, tbm 447 (by decide +kernel) rfl, tbm 448 (by decide +kernel) rfl⟩
set_option maxRecDepth 100000 in
theorem mlX11_231 : MLV RX11 231 yX0_copyFrom cX0_copyFrom 2 none 1 := ⟨⟨tbm 37 (by decide +kernel) rfl, tbm 379 (by decide +kernel) rfl, ⟨by decide, by decide, by decide +kernel⟩, by decide, Or.inl (tbm 632 (by decide +kernel) rfl)⟩, tbm 632 (by decide +kernel) rfl, tbm 377 (by decide +kernel) rfl, tbm 378 (by decide +kernel) rfl⟩
set_option maxRecDepth 100000 in
theorem mlX11_234 : MLV RX11 234 yX6_losesAtMost cX6_losesAtMost 9 (some .boolean) 3 := ⟨⟨tbm 44 (by decide +kernel) rfl, tbm 636 (by decide +kernel) rfl, ⟨by decide, by decide, by decide +kernel⟩, by decide, Or.inl (tbm 633 (by decide +kernel) rfl)⟩, tbm 633 (by decide +kernel) rfl, tbm 634 (by decide +kernel) rfl, tbm 635 (by decide +kernel) rfl⟩
set_option maxRecDepth 100000 in
theorem mlX6_69 : MLV RX6 69 yX0_passTick cX0_passTick 7 (some .int) 5 := ⟨⟨tbm 37 (by decide +kernel) rfl, tbm 455 (by decide +kernel) rfl, ⟨by decide, by decide, by decide +kernel⟩, by decide, Or.inl (tbm 637 (by decide +kernel) rfl)⟩, tbm 637 (by decide +kernel) rfl, tbm 453 (by decide +kernel) rfl, tbm 454 (by decide +kernel) rfl⟩
set_option maxRecDepth 100000 in
theorem mlL_89 : MLV RL 89 yX11_untilStop cX11_untilStop 1 (some .int) 0 := ⟨⟨tbm 33 (by decide +kernel) rfl, tbm 641 (by decide +kernel) rfl, ⟨by decide, by decide, by decide +kernel⟩, by decide, Or.inl (tbm 638 (by decide +kernel) rfl)⟩, tbm 638 (by decide +kernel) rfl, tbm 639 (by decide +kernel) rfl, tbm 640 (by decide +kernel) rfl⟩
set_option maxRecDepth 100000 in
theorem mlL_93 : MLV RL 93 yX11_gearsFor cX11_gearsFor 5 (some .int) 1 := ⟨⟨tbm 33 (by decide +kernel) rfl, tbm 645 (by decide +kernel) rfl, ⟨by decide, by decide, by decide +kernel⟩, by decide, Or.inl (tbm 642 (by decide +kernel) rfl)⟩, tbm 642 (by decide +kernel) rfl, tbm 643 (by decide +kernel) rfl, tbm 644 (by decide +kernel) rfl⟩
set_option maxRecDepth 100000 in
theorem mlX11_238 : MLS RX11 238 yX11_quotient cX11_quotient 2 (some .int) 2 := ⟨⟨tbm 33 (by decide +kernel) rfl, tbm 593 (by decide +kernel) rfl, ⟨by decide, by decide, by decide +kernel⟩, by decide, Or.inl (tbm 646 (by decide +kernel) rfl)⟩, tbm 592 (by decide +kernel) rfl⟩
set_option maxRecDepth 100000 in
theorem mlL_97 : MLV RL 97 yX11_type cX11_type 2 (some .int) 1 := ⟨⟨tbm 33 (by decide +kernel) rfl, tbm 650 (by decide +kernel) rfl, ⟨by decide, by decide, by decide +kernel⟩, by decide, Or.inl (tbm 647 (by decide +kernel) rfl)⟩, tbm 647 (by decide +kernel) rfl, tbm 648 (by decide +kernel) rfl, tbm 649 (by decide +kernel) rfl⟩
set_option maxRecDepth 100000 in
theorem mlX11_241 : MLV RX11 241 yX10_append cX10_append 2 none 1 := ⟨⟨tbm 45 (by decide +kernel) rfl, tbm 654 (by decide +kernel) rfl, ⟨by decide, by decide, by decide +kernel⟩, by decide, Or.inl (tbm 651 (by decide +kernel) rfl)⟩, tbm 651 (by decide +kernel) rfl, tbm 652 (by decide +kernel) rfl, tbm 653 (by decide +kernel) rfl⟩
set_option maxRecDepth 100000 in
theorem mlL_101 : MLV RL 101 yX11_clearText cX11_clearText 2 (some .int) 0 := ⟨⟨tbm 33 (by decide +kernel) rfl, tbm 658 (by decide +kernel) rfl, ⟨by decide, by decide, by decide +kernel⟩, by decide, Or.inl (tbm 655 (by decide +kernel) rfl)⟩, tbm 655 (by decide +kernel) rfl, tbm 656 (by decide +kernel) rfl, tbm 657 (by decide +kernel) rfl⟩
set_option maxRecDepth 100000 in
theorem mlL_105 : MLV RL 105 yX11_fault cX11_fault 2 (some .int) 1 := ⟨⟨tbm 33 (by decide +kernel) rfl, tbm 662 (by decide +kernel) rfl, ⟨by decide, by decide, by decide +kernel⟩, by decide, Or.inl (tbm 659 (by decide +kernel) rfl)⟩, tbm 659 (by decide +kernel) rfl, tbm 660 (by decide +kernel) rfl, tbm 661 (by decide +kernel) rfl⟩
set_option maxRecDepth 100000 in
theorem mlX11_244 : MLV RX11 244 yX7_read cX7_read 5 none 3 := ⟨⟨tbm 46 (by decide +kernel) rfl, tbm 666 (by decide +kernel) rfl, ⟨by decide, by decide, by decide +kernel⟩, by decide, Or.inl (tbm 663 (by decide +kernel) rfl)⟩, tbm 663 (by decide +kernel) rfl, tbm 664 (by decide +kernel) rfl, tbm 665 (by decide +kernel) rfl⟩
set_option maxRecDepth 100000 in
theorem mlX7_39 : MLV RX7 39 yX7_readShower cX7_readShower 7 none 3 := ⟨⟨tbm 46 (by decide +kernel) rfl, tbm 670 (by decide +kernel) rfl, ⟨by decide, by decide, by decide +kernel⟩, by decide, Or.inl (tbm 667 (by decide +kernel) rfl)⟩, tbm 667 (by decide +kernel) rfl, tbm 669 (by decide +kernel) rfl, tbm 9 (by decide +kernel) rfl⟩
set_option maxRecDepth 100000 in
theorem mlX7_43 : MLV RX7 43 yX7_readNumber cX7_readNumber 5 (some .int) 2 := ⟨⟨tbm 46 (by decide +kernel) rfl, tbm 674 (by decide +kernel) rfl, ⟨by decide, by decide, by decide +kernel⟩, by decide, Or.inl (tbm 671 (by decide +kernel) rfl)⟩, tbm 671 (by decide +kernel) rfl, tbm 673 (by decide +kernel) rfl, tbm 10 (by decide +kernel) rfl⟩
set_option maxRecDepth 100000 in
theorem mlX7_51 : MLV RX7 51 yX10_hasDigitAt cX10_hasDigitAt 3 (some .boolean) 1 := ⟨⟨tbm 45 (by decide +kernel) rfl, tbm 678 (by decide +kernel) rfl, ⟨by decide, by decide, by decide +kernel⟩, by decide, Or.inl (tbm 675 (by decide +kernel) rfl)⟩, tbm 675 (by decide +kernel) rfl, tbm 676 (by decide +kernel) rfl, tbm 677 (by decide +kernel) rfl⟩
set_option maxRecDepth 100000 in
theorem mlX10_19 : MLV RX10 19 yX10_characterAt cX10_characterAt 2 (some .char) 1 := ⟨⟨tbm 45 (by decide +kernel) rfl, tbm 682 (by decide +kernel) rfl, ⟨by decide, by decide, by decide +kernel⟩, by decide, Or.inl (tbm 679 (by decide +kernel) rfl)⟩, tbm 679 (by decide +kernel) rfl, tbm 680 (by decide +kernel) rfl, tbm 681 (by decide +kernel) rfl⟩
set_option maxRecDepth 100000 in
theorem mlX7_55 : MLV RX7 55 yX10_characterAt cX10_characterAt 2 (some .char) 1 := ⟨⟨tbm 45 (by decide +kernel) rfl, tbm 682 (by decide +kernel) rfl, ⟨by decide, by decide, by decide +kernel⟩, by decide, Or.inl (tbm 683 (by decide +kernel) rfl)⟩, tbm 683 (by decide +kernel) rfl, tbm 680 (by decide +kernel) rfl, tbm 681 (by decide +kernel) rfl⟩
set_option maxRecDepth 100000 in
theorem mlX7_47 : MLS RX7 47 yX11_isWithin cX11_isWithin 3 (some .boolean) 3 := ⟨⟨tbm 33 (by decide +kernel) rfl, tbm 354 (by decide +kernel) rfl, ⟨by decide, by decide, by decide +kernel⟩, by decide, Or.inr ⟨"RainRecorder", tnm 684 (by decide +kernel) rfl⟩⟩, tbm 353 (by decide +kernel) rfl⟩
set_option maxRecDepth 100000 in
theorem mlL_109 : MLV RL 109 yX11_lay cX11_lay 2 (some .int) 0 := ⟨⟨tbm 33 (by decide +kernel) rfl, tbm 688 (by decide +kernel) rfl, ⟨by decide, by decide, by decide +kernel⟩, by decide, Or.inl (tbm 685 (by decide +kernel) rfl)⟩, tbm 685 (by decide +kernel) rfl, tbm 686 (by decide +kernel) rfl, tbm 687 (by decide +kernel) rfl⟩
set_option maxRecDepth 100000 in
theorem mlL_12 : MLI RL 12 yX12_init cX12_init 1 0 := ⟨⟨tbm 47 (by decide +kernel) rfl, tbm 693 (by decide +kernel) rfl, ⟨by decide, by decide, by decide +kernel⟩, by decide, Or.inl (tbm 691 (by decide +kernel) rfl)⟩, rfl, tbm 692 (by decide +kernel) rfl⟩
set_option maxRecDepth 100000 in
theorem mlL_17 : MLV RL 17 yX12_addShower cX12_addShower 4 (some .int) 3 := ⟨⟨tbm 47 (by decide +kernel) rfl, tbm 735 (by decide +kernel) rfl, ⟨by decide, by decide, by decide +kernel⟩, by decide, Or.inl (tbm 732 (by decide +kernel) rfl)⟩, tbm 732 (by decide +kernel) rfl, tbm 733 (by decide +kernel) rfl, tbm 734 (by decide +kernel) rfl⟩
set_option maxRecDepth 100000 in
theorem mlX12_33 : MLS RX12 33 yX12_in cX12_in 3 (some .boolean) 3 := ⟨⟨tbm 47 (by decide +kernel) rfl, tbm 738 (by decide +kernel) rfl, ⟨by decide, by decide, by decide +kernel⟩, by decide, Or.inl (tbm 736 (by decide +kernel) rfl)⟩, tbm 737 (by decide +kernel) rfl⟩
set_option maxRecDepth 100000 in
theorem mlX12_63 : MLV RX12 63 yX12_records cX12_records 2 none 0 := ⟨⟨tbm 47 (by decide +kernel) rfl, tbm 742 (by decide +kernel) rfl, ⟨by decide, by decide, by decide +kernel⟩, by decide, Or.inl (tbm 739 (by decide +kernel) rfl)⟩, tbm 739 (by decide +kernel) rfl, tbm 741 (by decide +kernel) rfl, tbm 11 (by decide +kernel) rfl⟩
set_option maxRecDepth 100000 in
theorem mlX12_66 : MLV RX12 66 yX12_puts cX12_puts 6 (some .int) 3 := ⟨⟨tbm 47 (by decide +kernel) rfl, tbm 746 (by decide +kernel) rfl, ⟨by decide, by decide, by decide +kernel⟩, by decide, Or.inl (tbm 743 (by decide +kernel) rfl)⟩, tbm 743 (by decide +kernel) rfl, tbm 745 (by decide +kernel) rfl, tbm 12 (by decide +kernel) rfl⟩
set_option maxRecDepth 100000 in
theorem mlL_22 : MLV RL 22 yX12_cancel cX12_cancel 2 (some .int) 1 := ⟨⟨tbm 47 (by decide +kernel) rfl, tbm 750 (by decide +kernel) rfl, ⟨by decide, by decide, by decide +kernel⟩, by decide, Or.inl (tbm 747 (by decide +kernel) rfl)⟩, tbm 747 (by decide +kernel) rfl, tbm 748 (by decide +kernel) rfl, tbm 749 (by decide +kernel) rfl⟩
set_option maxRecDepth 100000 in
theorem mlX12_70 : MLV RX12 70 yX12_isShower cX12_isShower 2 (some .boolean) 1 := ⟨⟨tbm 47 (by decide +kernel) rfl, tbm 754 (by decide +kernel) rfl, ⟨by decide, by decide, by decide +kernel⟩, by decide, Or.inl (tbm 751 (by decide +kernel) rfl)⟩, tbm 751 (by decide +kernel) rfl, tbm 753 (by decide +kernel) rfl, tbm 13 (by decide +kernel) rfl⟩
set_option maxRecDepth 100000 in
theorem mlX12_56 : MLV RX12 56 yX12_dropsShower cX12_dropsShower 4 none 1 := ⟨⟨tbm 47 (by decide +kernel) rfl, tbm 758 (by decide +kernel) rfl, ⟨by decide, by decide, by decide +kernel⟩, by decide, Or.inl (tbm 755 (by decide +kernel) rfl)⟩, tbm 755 (by decide +kernel) rfl, tbm 757 (by decide +kernel) rfl, tbm 14 (by decide +kernel) rfl⟩
set_option maxRecDepth 100000 in
theorem mlL_27 : MLV RL 27 yX12_shower cX12_shower 4 (some .int) 2 := ⟨⟨tbm 47 (by decide +kernel) rfl, tbm 762 (by decide +kernel) rfl, ⟨by decide, by decide, by decide +kernel⟩, by decide, Or.inl (tbm 759 (by decide +kernel) rfl)⟩, tbm 759 (by decide +kernel) rfl, tbm 760 (by decide +kernel) rfl, tbm 761 (by decide +kernel) rfl⟩
set_option maxRecDepth 100000 in
theorem mlL_31 : MLV RL 31 yX12_run cX12_run 2 (some .int) 1 := ⟨⟨tbm 47 (by decide +kernel) rfl, tbm 766 (by decide +kernel) rfl, ⟨by decide, by decide, by decide +kernel⟩, by decide, Or.inl (tbm 763 (by decide +kernel) rfl)⟩, tbm 763 (by decide +kernel) rfl, tbm 764 (by decide +kernel) rfl, tbm 765 (by decide +kernel) rfl⟩
set_option maxRecDepth 100000 in
theorem mlX12_74 : MLV RX12 74 yX12_goes cX12_goes 4 (some .int) 1 := ⟨⟨tbm 47 (by decide +kernel) rfl, tbm 770 (by decide +kernel) rfl, ⟨by decide, by decide, by decide +kernel⟩, by decide, Or.inl (tbm 767 (by decide +kernel) rfl)⟩, tbm 767 (by decide +kernel) rfl, tbm 769 (by decide +kernel) rfl, tbm 15 (by decide +kernel) rfl⟩
set_option maxRecDepth 100000 in
theorem mlX12_59 : MLV RX12 59 yX12_ticks cX12_ticks 7 (some .boolean) 0 := ⟨⟨tbm 47 (by decide +kernel) rfl, tbm 774 (by decide +kernel) rfl, ⟨by decide, by decide, by decide +kernel⟩, by decide, Or.inl (tbm 771 (by decide +kernel) rfl)⟩, tbm 771 (by decide +kernel) rfl, tbm 773 (by decide +kernel) rfl, tbm 16 (by decide +kernel) rfl⟩
set_option maxRecDepth 100000 in
theorem mlX12_45 : MLV RX12 45 yX12_rain cX12_rain 3 (some .int) 0 := ⟨⟨tbm 47 (by decide +kernel) rfl, tbm 778 (by decide +kernel) rfl, ⟨by decide, by decide, by decide +kernel⟩, by decide, Or.inl (tbm 775 (by decide +kernel) rfl)⟩, tbm 775 (by decide +kernel) rfl, tbm 777 (by decide +kernel) rfl, tbm 17 (by decide +kernel) rfl⟩
set_option maxRecDepth 100000 in
theorem mlX12_41 : MLS RX12 41 yX12_less cX12_less 2 (some .int) 2 := ⟨⟨tbm 47 (by decide +kernel) rfl, tbm 781 (by decide +kernel) rfl, ⟨by decide, by decide, by decide +kernel⟩, by decide, Or.inl (tbm 779 (by decide +kernel) rfl)⟩, tbm 780 (by decide +kernel) rfl⟩
set_option maxRecDepth 100000 in
theorem mlX12_48 : MLV RX12 48 yX12_dries cX12_dries 4 none 2 := ⟨⟨tbm 47 (by decide +kernel) rfl, tbm 785 (by decide +kernel) rfl, ⟨by decide, by decide, by decide +kernel⟩, by decide, Or.inl (tbm 782 (by decide +kernel) rfl)⟩, tbm 782 (by decide +kernel) rfl, tbm 784 (by decide +kernel) rfl, tbm 18 (by decide +kernel) rfl⟩
set_option maxRecDepth 100000 in
theorem mlX12_52 : MLV RX12 52 yX12_marks cX12_marks 4 none 1 := ⟨⟨tbm 47 (by decide +kernel) rfl, tbm 789 (by decide +kernel) rfl, ⟨by decide, by decide, by decide +kernel⟩, by decide, Or.inl (tbm 786 (by decide +kernel) rfl)⟩, tbm 786 (by decide +kernel) rfl, tbm 788 (by decide +kernel) rfl, tbm 19 (by decide +kernel) rfl⟩
set_option maxRecDepth 100000 in
theorem mlX12_37 : MLV RX12 37 yX12_place cX12_place 6 (some .int) 0 := ⟨⟨tbm 47 (by decide +kernel) rfl, tbm 793 (by decide +kernel) rfl, ⟨by decide, by decide, by decide +kernel⟩, by decide, Or.inl (tbm 790 (by decide +kernel) rfl)⟩, tbm 790 (by decide +kernel) rfl, tbm 792 (by decide +kernel) rfl, tbm 20 (by decide +kernel) rfl⟩
set_option maxRecDepth 100000 in
theorem mlL_36 : MLV RL 36 yX12_undo cX12_undo 2 (some .int) 0 := ⟨⟨tbm 47 (by decide +kernel) rfl, tbm 797 (by decide +kernel) rfl, ⟨by decide, by decide, by decide +kernel⟩, by decide, Or.inl (tbm 794 (by decide +kernel) rfl)⟩, tbm 794 (by decide +kernel) rfl, tbm 795 (by decide +kernel) rfl, tbm 796 (by decide +kernel) rfl⟩
set_option maxRecDepth 100000 in
theorem mlL_40 : MLV RL 40 yX12_set cX12_set 4 (some .int) 2 := ⟨⟨tbm 47 (by decide +kernel) rfl, tbm 801 (by decide +kernel) rfl, ⟨by decide, by decide, by decide +kernel⟩, by decide, Or.inl (tbm 798 (by decide +kernel) rfl)⟩, tbm 798 (by decide +kernel) rfl, tbm 799 (by decide +kernel) rfl, tbm 800 (by decide +kernel) rfl⟩
set_option maxRecDepth 100000 in
theorem mlX12_78 : MLS RX12 78 yX12_isSetting cX12_isSetting 2 (some .boolean) 2 := ⟨⟨tbm 47 (by decide +kernel) rfl, tbm 804 (by decide +kernel) rfl, ⟨by decide, by decide, by decide +kernel⟩, by decide, Or.inl (tbm 802 (by decide +kernel) rfl)⟩, tbm 803 (by decide +kernel) rfl⟩
set_option maxRecDepth 100000 in
theorem mlL_44 : MLV RL 44 yX12_wind cX12_wind 2 (some .int) 0 := ⟨⟨tbm 47 (by decide +kernel) rfl, tbm 808 (by decide +kernel) rfl, ⟨by decide, by decide, by decide +kernel⟩, by decide, Or.inl (tbm 805 (by decide +kernel) rfl)⟩, tbm 805 (by decide +kernel) rfl, tbm 806 (by decide +kernel) rfl, tbm 807 (by decide +kernel) rfl⟩
set_option maxRecDepth 100000 in
theorem mlL_48 : MLV RL 48 yX12_addGears cX12_addGears 3 (some .int) 2 := ⟨⟨tbm 47 (by decide +kernel) rfl, tbm 812 (by decide +kernel) rfl, ⟨by decide, by decide, by decide +kernel⟩, by decide, Or.inl (tbm 809 (by decide +kernel) rfl)⟩, tbm 809 (by decide +kernel) rfl, tbm 810 (by decide +kernel) rfl, tbm 811 (by decide +kernel) rfl⟩
set_option maxRecDepth 100000 in
theorem mlL_52 : MLV RL 52 yX12_removeGears cX12_removeGears 3 (some .int) 1 := ⟨⟨tbm 47 (by decide +kernel) rfl, tbm 816 (by decide +kernel) rfl, ⟨by decide, by decide, by decide +kernel⟩, by decide, Or.inl (tbm 813 (by decide +kernel) rfl)⟩, tbm 813 (by decide +kernel) rfl, tbm 814 (by decide +kernel) rfl, tbm 815 (by decide +kernel) rfl⟩
set_option maxRecDepth 100000 in
theorem mlX12_82 : MLV RX12 82 yX12_isPair cX12_isPair 2 (some .boolean) 1 := ⟨⟨tbm 47 (by decide +kernel) rfl, tbm 820 (by decide +kernel) rfl, ⟨by decide, by decide, by decide +kernel⟩, by decide, Or.inl (tbm 817 (by decide +kernel) rfl)⟩, tbm 817 (by decide +kernel) rfl, tbm 819 (by decide +kernel) rfl, tbm 21 (by decide +kernel) rfl⟩
set_option maxRecDepth 100000 in
theorem mlL_56 : MLV RL 56 yX12_gear cX12_gear 3 (some .int) 2 := ⟨⟨tbm 47 (by decide +kernel) rfl, tbm 824 (by decide +kernel) rfl, ⟨by decide, by decide, by decide +kernel⟩, by decide, Or.inl (tbm 821 (by decide +kernel) rfl)⟩, tbm 821 (by decide +kernel) rfl, tbm 822 (by decide +kernel) rfl, tbm 823 (by decide +kernel) rfl⟩
set_option maxRecDepth 100000 in
theorem mlL_60 : MLV RL 60 yX12_count cX12_count 2 (some .int) 1 := ⟨⟨tbm 47 (by decide +kernel) rfl, tbm 828 (by decide +kernel) rfl, ⟨by decide, by decide, by decide +kernel⟩, by decide, Or.inl (tbm 825 (by decide +kernel) rfl)⟩, tbm 825 (by decide +kernel) rfl, tbm 826 (by decide +kernel) rfl, tbm 827 (by decide +kernel) rfl⟩
set_option maxRecDepth 100000 in
theorem mlX12_85 : MLV RX12 85 yX12_parts cX12_parts 2 none 0 := ⟨⟨tbm 47 (by decide +kernel) rfl, tbm 832 (by decide +kernel) rfl, ⟨by decide, by decide, by decide +kernel⟩, by decide, Or.inl (tbm 829 (by decide +kernel) rfl)⟩, tbm 829 (by decide +kernel) rfl, tbm 831 (by decide +kernel) rfl, tbm 22 (by decide +kernel) rfl⟩
set_option maxRecDepth 100000 in
theorem mlX12_94 : MLV RX12 94 yX12_apart cX12_apart 2 (some .int) 1 := ⟨⟨tbm 47 (by decide +kernel) rfl, tbm 836 (by decide +kernel) rfl, ⟨by decide, by decide, by decide +kernel⟩, by decide, Or.inl (tbm 833 (by decide +kernel) rfl)⟩, tbm 833 (by decide +kernel) rfl, tbm 835 (by decide +kernel) rfl, tbm 23 (by decide +kernel) rfl⟩
set_option maxRecDepth 100000 in
theorem mlL_64 : MLV RL 64 yX12_account cX12_account 2 (some .int) 1 := ⟨⟨tbm 47 (by decide +kernel) rfl, tbm 840 (by decide +kernel) rfl, ⟨by decide, by decide, by decide +kernel⟩, by decide, Or.inl (tbm 837 (by decide +kernel) rfl)⟩, tbm 837 (by decide +kernel) rfl, tbm 838 (by decide +kernel) rfl, tbm 839 (by decide +kernel) rfl⟩
set_option maxRecDepth 100000 in
theorem mlL_68 : MLV RL 68 yX12_mark cX12_mark 3 (some .int) 2 := ⟨⟨tbm 47 (by decide +kernel) rfl, tbm 844 (by decide +kernel) rfl, ⟨by decide, by decide, by decide +kernel⟩, by decide, Or.inl (tbm 841 (by decide +kernel) rfl)⟩, tbm 841 (by decide +kernel) rfl, tbm 842 (by decide +kernel) rfl, tbm 843 (by decide +kernel) rfl⟩
set_option maxRecDepth 100000 in
theorem mlL_72 : MLV RL 72 yX12_storm cX12_storm 4 (some .int) 2 := ⟨⟨tbm 47 (by decide +kernel) rfl, tbm 848 (by decide +kernel) rfl, ⟨by decide, by decide, by decide +kernel⟩, by decide, Or.inl (tbm 845 (by decide +kernel) rfl)⟩, tbm 845 (by decide +kernel) rfl, tbm 846 (by decide +kernel) rfl, tbm 847 (by decide +kernel) rfl⟩
set_option maxRecDepth 100000 in
theorem mlX12_97 : MLV RX12 97 yX12_amountOf cX12_amountOf 2 (some .int) 1 := ⟨⟨tbm 47 (by decide +kernel) rfl, tbm 852 (by decide +kernel) rfl, ⟨by decide, by decide, by decide +kernel⟩, by decide, Or.inl (tbm 849 (by decide +kernel) rfl)⟩, tbm 849 (by decide +kernel) rfl, tbm 851 (by decide +kernel) rfl, tbm 24 (by decide +kernel) rfl⟩
set_option maxRecDepth 100000 in
theorem mlX12_100 : MLV RX12 100 yX12_lossOf cX12_lossOf 4 (some .int) 1 := ⟨⟨tbm 47 (by decide +kernel) rfl, tbm 856 (by decide +kernel) rfl, ⟨by decide, by decide, by decide +kernel⟩, by decide, Or.inl (tbm 853 (by decide +kernel) rfl)⟩, tbm 853 (by decide +kernel) rfl, tbm 855 (by decide +kernel) rfl, tbm 25 (by decide +kernel) rfl⟩
set_option maxRecDepth 100000 in
theorem mlX12_103 : MLV RX12 103 yX12_peakOf cX12_peakOf 6 (some .int) 1 := ⟨⟨tbm 47 (by decide +kernel) rfl, tbm 860 (by decide +kernel) rfl, ⟨by decide, by decide, by decide +kernel⟩, by decide, Or.inl (tbm 857 (by decide +kernel) rfl)⟩, tbm 857 (by decide +kernel) rfl, tbm 859 (by decide +kernel) rfl, tbm 26 (by decide +kernel) rfl⟩
set_option maxRecDepth 100000 in
theorem mlL_76 : MLV RL 76 yX12_greatestStorm cX12_greatestStorm 5 (some .int) 0 := ⟨⟨tbm 47 (by decide +kernel) rfl, tbm 864 (by decide +kernel) rfl, ⟨by decide, by decide, by decide +kernel⟩, by decide, Or.inl (tbm 861 (by decide +kernel) rfl)⟩, tbm 861 (by decide +kernel) rfl, tbm 862 (by decide +kernel) rfl, tbm 863 (by decide +kernel) rfl⟩
set_option maxRecDepth 100000 in
theorem mlL_80 : MLV RL 80 yX12_gapForOne cX12_gapForOne 3 (some .int) 0 := ⟨⟨tbm 47 (by decide +kernel) rfl, tbm 868 (by decide +kernel) rfl, ⟨by decide, by decide, by decide +kernel⟩, by decide, Or.inl (tbm 865 (by decide +kernel) rfl)⟩, tbm 865 (by decide +kernel) rfl, tbm 866 (by decide +kernel) rfl, tbm 867 (by decide +kernel) rfl⟩
set_option maxRecDepth 100000 in
theorem mlL_84 : MLV RL 84 yX12_ifRun cX12_ifRun 5 (some .int) 2 := ⟨⟨tbm 47 (by decide +kernel) rfl, tbm 872 (by decide +kernel) rfl, ⟨by decide, by decide, by decide +kernel⟩, by decide, Or.inl (tbm 869 (by decide +kernel) rfl)⟩, tbm 869 (by decide +kernel) rfl, tbm 870 (by decide +kernel) rfl, tbm 871 (by decide +kernel) rfl⟩
set_option maxRecDepth 100000 in
theorem mlX12_106 : MLV RX12 106 yX12_keeps cX12_keeps 2 none 0 := ⟨⟨tbm 47 (by decide +kernel) rfl, tbm 876 (by decide +kernel) rfl, ⟨by decide, by decide, by decide +kernel⟩, by decide, Or.inl (tbm 873 (by decide +kernel) rfl)⟩, tbm 873 (by decide +kernel) rfl, tbm 875 (by decide +kernel) rfl, tbm 27 (by decide +kernel) rfl⟩
set_option maxRecDepth 100000 in
theorem mlX12_109 : MLV RX12 109 yX12_restores cX12_restores 2 none 0 := ⟨⟨tbm 47 (by decide +kernel) rfl, tbm 880 (by decide +kernel) rfl, ⟨by decide, by decide, by decide +kernel⟩, by decide, Or.inl (tbm 877 (by decide +kernel) rfl)⟩, tbm 877 (by decide +kernel) rfl, tbm 879 (by decide +kernel) rfl, tbm 28 (by decide +kernel) rfl⟩
set_option maxRecDepth 100000 in
theorem mlL_88 : MLV RL 88 yX12_capacityFor cX12_capacityFor 6 (some .int) 2 := ⟨⟨tbm 47 (by decide +kernel) rfl, tbm 884 (by decide +kernel) rfl, ⟨by decide, by decide, by decide +kernel⟩, by decide, Or.inl (tbm 881 (by decide +kernel) rfl)⟩, tbm 881 (by decide +kernel) rfl, tbm 882 (by decide +kernel) rfl, tbm 883 (by decide +kernel) rfl⟩
set_option maxRecDepth 100000 in
theorem mlL_92 : MLV RL 92 yX12_untilStop cX12_untilStop 1 (some .int) 0 := ⟨⟨tbm 47 (by decide +kernel) rfl, tbm 889 (by decide +kernel) rfl, ⟨by decide, by decide, by decide +kernel⟩, by decide, Or.inl (tbm 886 (by decide +kernel) rfl)⟩, tbm 886 (by decide +kernel) rfl, tbm 887 (by decide +kernel) rfl, tbm 888 (by decide +kernel) rfl⟩
set_option maxRecDepth 100000 in
theorem mlL_96 : MLV RL 96 yX12_gearsFor cX12_gearsFor 4 (some .int) 1 := ⟨⟨tbm 47 (by decide +kernel) rfl, tbm 893 (by decide +kernel) rfl, ⟨by decide, by decide, by decide +kernel⟩, by decide, Or.inl (tbm 890 (by decide +kernel) rfl)⟩, tbm 890 (by decide +kernel) rfl, tbm 891 (by decide +kernel) rfl, tbm 892 (by decide +kernel) rfl⟩
set_option maxRecDepth 100000 in
theorem mlL_100 : MLV RL 100 yX12_type cX12_type 2 (some .int) 1 := ⟨⟨tbm 47 (by decide +kernel) rfl, tbm 897 (by decide +kernel) rfl, ⟨by decide, by decide, by decide +kernel⟩, by decide, Or.inl (tbm 894 (by decide +kernel) rfl)⟩, tbm 894 (by decide +kernel) rfl, tbm 895 (by decide +kernel) rfl, tbm 896 (by decide +kernel) rfl⟩
set_option maxRecDepth 100000 in
theorem mlL_104 : MLV RL 104 yX12_clearText cX12_clearText 2 (some .int) 0 := ⟨⟨tbm 47 (by decide +kernel) rfl, tbm 901 (by decide +kernel) rfl, ⟨by decide, by decide, by decide +kernel⟩, by decide, Or.inl (tbm 898 (by decide +kernel) rfl)⟩, tbm 898 (by decide +kernel) rfl, tbm 899 (by decide +kernel) rfl, tbm 900 (by decide +kernel) rfl⟩
set_option maxRecDepth 100000 in
theorem mlL_108 : MLV RL 108 yX12_fault cX12_fault 3 (some .int) 1 := ⟨⟨tbm 47 (by decide +kernel) rfl, tbm 905 (by decide +kernel) rfl, ⟨by decide, by decide, by decide +kernel⟩, by decide, Or.inl (tbm 902 (by decide +kernel) rfl)⟩, tbm 902 (by decide +kernel) rfl, tbm 903 (by decide +kernel) rfl, tbm 904 (by decide +kernel) rfl⟩
set_option maxRecDepth 100000 in
theorem mlX12_129 : MLV RX12 129 yX12_faulty cX12_faulty 2 (some .int) 0 := ⟨⟨tbm 47 (by decide +kernel) rfl, tbm 909 (by decide +kernel) rfl, ⟨by decide, by decide, by decide +kernel⟩, by decide, Or.inl (tbm 906 (by decide +kernel) rfl)⟩, tbm 906 (by decide +kernel) rfl, tbm 908 (by decide +kernel) rfl, tbm 29 (by decide +kernel) rfl⟩
set_option maxRecDepth 100000 in
theorem mlX12_126 : MLV RX12 126 yX12_readsShower cX12_readsShower 3 (some .boolean) 0 := ⟨⟨tbm 47 (by decide +kernel) rfl, tbm 913 (by decide +kernel) rfl, ⟨by decide, by decide, by decide +kernel⟩, by decide, Or.inl (tbm 910 (by decide +kernel) rfl)⟩, tbm 910 (by decide +kernel) rfl, tbm 912 (by decide +kernel) rfl, tbm 30 (by decide +kernel) rfl⟩
set_option maxRecDepth 100000 in
theorem mlX12_122 : MLV RX12 122 yX12_takes cX12_takes 6 (some .boolean) 2 := ⟨⟨tbm 47 (by decide +kernel) rfl, tbm 917 (by decide +kernel) rfl, ⟨by decide, by decide, by decide +kernel⟩, by decide, Or.inl (tbm 914 (by decide +kernel) rfl)⟩, tbm 914 (by decide +kernel) rfl, tbm 916 (by decide +kernel) rfl, tbm 31 (by decide +kernel) rfl⟩
set_option maxRecDepth 100000 in
theorem mlL_112 : MLV RL 112 yX12_lay cX12_lay 2 (some .int) 0 := ⟨⟨tbm 47 (by decide +kernel) rfl, tbm 921 (by decide +kernel) rfl, ⟨by decide, by decide, by decide +kernel⟩, by decide, Or.inl (tbm 918 (by decide +kernel) rfl)⟩, tbm 918 (by decide +kernel) rfl, tbm 919 (by decide +kernel) rfl, tbm 920 (by decide +kernel) rfl⟩
set_option maxRecDepth 100000 in
theorem kcX11_226 : Cond.constant RX11 226 (Int32.ofInt 100000) ∈ TB := tbm 624 (by decide +kernel) rfl
set_option maxRecDepth 100000 in
theorem kcX12_112 : Cond.constant RX12 112 (Int32.ofInt 100000) ∈ TB := tbm 885 (by decide +kernel) rfl
