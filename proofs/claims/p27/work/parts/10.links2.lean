set_option maxRecDepth 100000 in
theorem nwL_10 : NW RL 10 11 6 [.null, .null, .null, .null, .null, .null] := ⟨_, _, tyX11, rfl, tb_in11, tbm 24 (by decide +kernel) rfl, tbm 25 (by decide +kernel) rfl, tbm 10 (by decide +kernel) rfl, tyX11_ok, fun j hj => by rcases (show j = 0 ∨ j = 1 ∨ j = 2 ∨ j = 3 ∨ j = 4 ∨ j = 5 by omega) with rfl | rfl | rfl | rfl | rfl | rfl <;> rfl⟩
set_option maxRecDepth 100000 in
theorem nwX11_7 : NW RX11 7 9 9 [.null, .null, .null, .null, .null, .null, .null, .int (iI 0), .int (iI 0)] := ⟨_, _, tyX9, rfl, tb_in9, tbm 32 (by decide +kernel) rfl, tbm 33 (by decide +kernel) rfl, tbm 11 (by decide +kernel) rfl, tyX9_ok, fun j hj => by rcases (show j = 0 ∨ j = 1 ∨ j = 2 ∨ j = 3 ∨ j = 4 ∨ j = 5 ∨ j = 6 ∨ j = 7 ∨ j = 8 by omega) with rfl | rfl | rfl | rfl | rfl | rfl | rfl | rfl | rfl <;> rfl⟩
set_option maxRecDepth 100000 in
theorem nwX9_15 : NW RX9 15 8 4 [.null, .null, .null, .int (iI 0)] := ⟨_, _, tyX8, rfl, tb_in8, tbm 38 (by decide +kernel) rfl, tbm 39 (by decide +kernel) rfl, tbm 12 (by decide +kernel) rfl, tyX8_ok, fun j hj => by rcases (show j = 0 ∨ j = 1 ∨ j = 2 ∨ j = 3 by omega) with rfl | rfl | rfl | rfl <;> rfl⟩
set_option maxRecDepth 100000 in
theorem nwX9_22 : NW RX9 22 2 2 [.int (iI 0), .int (iI 0)] := ⟨_, _, tyX2, rfl, tb_in2, tbm 62 (by decide +kernel) rfl, tbm 63 (by decide +kernel) rfl, tbm 13 (by decide +kernel) rfl, tyX2_ok, fun j hj => by rcases (show j = 0 ∨ j = 1 by omega) with rfl | rfl <;> rfl⟩
set_option maxRecDepth 100000 in
theorem nwX9_29 : NW RX9 29 0 6 [.int (iI 0), .int (iI 0), .int (iI 0), .int (iI 0), .int (iI 0), .int (iI 0)] := ⟨_, _, tyX0, rfl, tb_in0, tbm 77 (by decide +kernel) rfl, tbm 78 (by decide +kernel) rfl, tbm 14 (by decide +kernel) rfl, tyX0_ok, fun j hj => by rcases (show j = 0 ∨ j = 1 ∨ j = 2 ∨ j = 3 ∨ j = 4 ∨ j = 5 by omega) with rfl | rfl | rfl | rfl | rfl | rfl <;> rfl⟩
set_option maxRecDepth 100000 in
theorem nwX9_36 : NW RX9 36 1 2 [.int (iI 0), .int (iI 0)] := ⟨_, _, tyX1, rfl, tb_in1, tbm 110 (by decide +kernel) rfl, tbm 111 (by decide +kernel) rfl, tbm 15 (by decide +kernel) rfl, tyX1_ok, fun j hj => by rcases (show j = 0 ∨ j = 1 by omega) with rfl | rfl <;> rfl⟩
set_option maxRecDepth 100000 in
theorem nwX9_43 : NW RX9 43 3 3 [.null, .null, .int (iI 0)] := ⟨_, _, tyX3, rfl, tb_in3, tbm 128 (by decide +kernel) rfl, tbm 129 (by decide +kernel) rfl, tbm 16 (by decide +kernel) rfl, tyX3_ok, fun j hj => by rcases (show j = 0 ∨ j = 1 ∨ j = 2 by omega) with rfl | rfl | rfl <;> rfl⟩
set_option maxRecDepth 100000 in
theorem nwX9_50 : NW RX9 50 5 4 [.null, .null, .null, .int (iI 0)] := ⟨_, _, tyX5, rfl, tb_in5, tbm 145 (by decide +kernel) rfl, tbm 146 (by decide +kernel) rfl, tbm 17 (by decide +kernel) rfl, tyX5_ok, fun j hj => by rcases (show j = 0 ∨ j = 1 ∨ j = 2 ∨ j = 3 by omega) with rfl | rfl | rfl | rfl <;> rfl⟩
set_option maxRecDepth 100000 in
theorem nwX11_19 : NW RX11 19 4 2 [.null, .int (iI 0)] := ⟨_, _, tyX4, rfl, tb_in4, tbm 219 (by decide +kernel) rfl, tbm 220 (by decide +kernel) rfl, tbm 20 (by decide +kernel) rfl, tyX4_ok, fun j hj => by rcases (show j = 0 ∨ j = 1 by omega) with rfl | rfl <;> rfl⟩
set_option maxRecDepth 100000 in
theorem nwX4_9 : NW RX4 9 9 9 [.null, .null, .null, .null, .null, .null, .null, .int (iI 0), .int (iI 0)] := ⟨_, _, tyX9, rfl, tb_in9, tbm 225 (by decide +kernel) rfl, tbm 33 (by decide +kernel) rfl, tbm 11 (by decide +kernel) rfl, tyX9_ok, fun j hj => by rcases (show j = 0 ∨ j = 1 ∨ j = 2 ∨ j = 3 ∨ j = 4 ∨ j = 5 ∨ j = 6 ∨ j = 7 ∨ j = 8 by omega) with rfl | rfl | rfl | rfl | rfl | rfl | rfl | rfl | rfl <;> rfl⟩
set_option maxRecDepth 100000 in
theorem nwX11_26 : NW RX11 26 6 3 [.null, .null, .int (iI 0)] := ⟨_, _, tyX6, rfl, tb_in6, tbm 236 (by decide +kernel) rfl, tbm 237 (by decide +kernel) rfl, tbm 21 (by decide +kernel) rfl, tyX6_ok, fun j hj => by rcases (show j = 0 ∨ j = 1 ∨ j = 2 by omega) with rfl | rfl | rfl <;> rfl⟩
set_option maxRecDepth 100000 in
theorem nwX11_33 : NW RX11 33 10 2 [.null, .int (iI 0)] := ⟨_, _, tyX10, rfl, tb_in10, tbm 253 (by decide +kernel) rfl, tbm 254 (by decide +kernel) rfl, tbm 22 (by decide +kernel) rfl, tyX10_ok, fun j hj => by rcases (show j = 0 ∨ j = 1 by omega) with rfl | rfl <;> rfl⟩
set_option maxRecDepth 100000 in
theorem nwX11_40 : NW RX11 40 7 7 [.null, .null, .null, .int (iI 0), .int (iI 0), .int (iI 0), .int (iI 0)] := ⟨_, _, tyX7, rfl, tb_in7, tbm 267 (by decide +kernel) rfl, tbm 268 (by decide +kernel) rfl, tbm 23 (by decide +kernel) rfl, tyX7_ok, fun j hj => by rcases (show j = 0 ∨ j = 1 ∨ j = 2 ∨ j = 3 ∨ j = 4 ∨ j = 5 ∨ j = 6 by omega) with rfl | rfl | rfl | rfl | rfl | rfl | rfl <;> rfl⟩
set_option maxRecDepth 100000 in
theorem oiX11_1 : Cond.methodLink RX11 1 Lib.objectInit ∈ TB := tbm 29 (by decide +kernel) rfl
set_option maxRecDepth 100000 in
theorem oiX9_3 : Cond.methodLink RX9 3 Lib.objectInit ∈ TB := tbm 37 (by decide +kernel) rfl
set_option maxRecDepth 100000 in
theorem oiX8_3 : Cond.methodLink RX8 3 Lib.objectInit ∈ TB := tbm 43 (by decide +kernel) rfl
set_option maxRecDepth 100000 in
theorem oiX2_1 : Cond.methodLink RX2 1 Lib.objectInit ∈ TB := tbm 67 (by decide +kernel) rfl
set_option maxRecDepth 100000 in
theorem oiX0_3 : Cond.methodLink RX0 3 Lib.objectInit ∈ TB := tbm 82 (by decide +kernel) rfl
set_option maxRecDepth 100000 in
theorem oiX1_3 : Cond.methodLink RX1 3 Lib.objectInit ∈ TB := tbm 115 (by decide +kernel) rfl
set_option maxRecDepth 100000 in
theorem oiX3_3 : Cond.methodLink RX3 3 Lib.objectInit ∈ TB := tbm 133 (by decide +kernel) rfl
set_option maxRecDepth 100000 in
theorem oiX5_3 : Cond.methodLink RX5 3 Lib.objectInit ∈ TB := tbm 150 (by decide +kernel) rfl
set_option maxRecDepth 100000 in
theorem acX11_267 : Cond.methodLink RX11 267 arraycopyName ∈ TB := tbm 175 (by decide +kernel) rfl
set_option maxRecDepth 100000 in
theorem oiX4_3 : Cond.methodLink RX4 3 Lib.objectInit ∈ TB := tbm 224 (by decide +kernel) rfl
set_option maxRecDepth 100000 in
theorem oiX6_3 : Cond.methodLink RX6 3 Lib.objectInit ∈ TB := tbm 241 (by decide +kernel) rfl
set_option maxRecDepth 100000 in
theorem oiX10_3 : Cond.methodLink RX10 3 Lib.objectInit ∈ TB := tbm 258 (by decide +kernel) rfl
set_option maxRecDepth 100000 in
theorem oiX7_3 : Cond.methodLink RX7 3 Lib.objectInit ∈ TB := tbm 272 (by decide +kernel) rfl
set_option maxRecDepth 100000 in
theorem acX5_32 : Cond.methodLink RX5 32 arraycopyName ∈ TB := tbm 431 (by decide +kernel) rfl
set_option maxRecDepth 100000 in
theorem ac_n : Cond.native arraycopyName ∈ TB := tbm 177 (by decide +kernel) rfl
set_option maxRecDepth 100000 in
theorem ac_s : Cond.static arraycopyName ∈ TB := tbm 176 (by decide +kernel) rfl
set_option maxRecDepth 100000 in
theorem ac_i : Cond.initialized "java/lang/System" ∈ TB := tbm 19 (by decide +kernel) rfl
set_option maxRecDepth 100000 in
theorem oi_i : Cond.instanceMethod Lib.objectInit ∈ TB := tbm 30 (by decide +kernel) rfl
set_option maxRecDepth 100000 in
theorem oi_c : Cond.code Lib.objectInit ⟨#[0xb1]⟩ 1 none ∈ TB := tbm 31 (by decide +kernel) rfl
set_option maxRecDepth 100000 in
theorem aw_int : Cond.arrayClass .int ∈ TB := tbm 61 (by decide +kernel) rfl
set_option maxRecDepth 100000 in
theorem aw_char : Cond.arrayClass .char ∈ TB := tbm 266 (by decide +kernel) rfl
set_option maxRecDepth 100000 in
theorem aw_boolean : Cond.arrayClass .boolean ∈ TB := tbm 252 (by decide +kernel) rfl
set_option maxRecDepth 100000 in
theorem gnX1_9 : Cond.fieldLinkNest RX1 9 RX11 "FIRST_VALUES" "[I" "RainRecorder" ∈ TN := tnm 116 (by decide +kernel) rfl
set_option maxRecDepth 100000 in
theorem gnX9_57 : Cond.fieldLinkNest RX9 57 RX11 "FIRST_VALUES" "[I" "RainRecorder" ∈ TN := tnm 168 (by decide +kernel) rfl
