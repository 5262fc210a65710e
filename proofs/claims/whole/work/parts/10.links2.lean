set_option maxRecDepth 100000 in
theorem nwL_7 : NW RL 7 11 6 [.null, .null, .null, .null, .null, .null] := ⟨_, _, tyX11, rfl, tb_in11, tbm 48 (by decide +kernel) rfl, tbm 49 (by decide +kernel) rfl, tbm 33 (by decide +kernel) rfl, tyX11_ok, fun j hj => by rcases (show j = 0 ∨ j = 1 ∨ j = 2 ∨ j = 3 ∨ j = 4 ∨ j = 5 by omega) with rfl | rfl | rfl | rfl | rfl | rfl <;> rfl⟩
set_option maxRecDepth 100000 in
theorem nwX11_7 : NW RX11 7 9 9 [.null, .null, .null, .null, .null, .null, .null, .int (iI 0), .int (iI 0)] := ⟨_, _, tyX9, rfl, tb_in9, tbm 56 (by decide +kernel) rfl, tbm 57 (by decide +kernel) rfl, tbm 34 (by decide +kernel) rfl, tyX9_ok, fun j hj => by rcases (show j = 0 ∨ j = 1 ∨ j = 2 ∨ j = 3 ∨ j = 4 ∨ j = 5 ∨ j = 6 ∨ j = 7 ∨ j = 8 by omega) with rfl | rfl | rfl | rfl | rfl | rfl | rfl | rfl | rfl <;> rfl⟩
set_option maxRecDepth 100000 in
theorem nwX9_15 : NW RX9 15 8 4 [.null, .null, .null, .int (iI 0)] := ⟨_, _, tyX8, rfl, tb_in8, tbm 62 (by decide +kernel) rfl, tbm 63 (by decide +kernel) rfl, tbm 35 (by decide +kernel) rfl, tyX8_ok, fun j hj => by rcases (show j = 0 ∨ j = 1 ∨ j = 2 ∨ j = 3 by omega) with rfl | rfl | rfl | rfl <;> rfl⟩
set_option maxRecDepth 100000 in
theorem nwX9_22 : NW RX9 22 2 2 [.int (iI 0), .int (iI 0)] := ⟨_, _, tyX2, rfl, tb_in2, tbm 86 (by decide +kernel) rfl, tbm 87 (by decide +kernel) rfl, tbm 36 (by decide +kernel) rfl, tyX2_ok, fun j hj => by rcases (show j = 0 ∨ j = 1 by omega) with rfl | rfl <;> rfl⟩
set_option maxRecDepth 100000 in
theorem nwX9_29 : NW RX9 29 0 6 [.int (iI 0), .int (iI 0), .int (iI 0), .int (iI 0), .int (iI 0), .int (iI 0)] := ⟨_, _, tyX0, rfl, tb_in0, tbm 101 (by decide +kernel) rfl, tbm 102 (by decide +kernel) rfl, tbm 37 (by decide +kernel) rfl, tyX0_ok, fun j hj => by rcases (show j = 0 ∨ j = 1 ∨ j = 2 ∨ j = 3 ∨ j = 4 ∨ j = 5 by omega) with rfl | rfl | rfl | rfl | rfl | rfl <;> rfl⟩
set_option maxRecDepth 100000 in
theorem nwX9_36 : NW RX9 36 1 2 [.int (iI 0), .int (iI 0)] := ⟨_, _, tyX1, rfl, tb_in1, tbm 134 (by decide +kernel) rfl, tbm 135 (by decide +kernel) rfl, tbm 38 (by decide +kernel) rfl, tyX1_ok, fun j hj => by rcases (show j = 0 ∨ j = 1 by omega) with rfl | rfl <;> rfl⟩
set_option maxRecDepth 100000 in
theorem nwX9_43 : NW RX9 43 3 3 [.null, .null, .int (iI 0)] := ⟨_, _, tyX3, rfl, tb_in3, tbm 152 (by decide +kernel) rfl, tbm 153 (by decide +kernel) rfl, tbm 39 (by decide +kernel) rfl, tyX3_ok, fun j hj => by rcases (show j = 0 ∨ j = 1 ∨ j = 2 by omega) with rfl | rfl | rfl <;> rfl⟩
set_option maxRecDepth 100000 in
theorem nwX9_50 : NW RX9 50 5 4 [.null, .null, .null, .int (iI 0)] := ⟨_, _, tyX5, rfl, tb_in5, tbm 171 (by decide +kernel) rfl, tbm 172 (by decide +kernel) rfl, tbm 40 (by decide +kernel) rfl, tyX5_ok, fun j hj => by rcases (show j = 0 ∨ j = 1 ∨ j = 2 ∨ j = 3 by omega) with rfl | rfl | rfl | rfl <;> rfl⟩
set_option maxRecDepth 100000 in
theorem nwX11_19 : NW RX11 19 4 2 [.null, .int (iI 0)] := ⟨_, _, tyX4, rfl, tb_in4, tbm 245 (by decide +kernel) rfl, tbm 246 (by decide +kernel) rfl, tbm 43 (by decide +kernel) rfl, tyX4_ok, fun j hj => by rcases (show j = 0 ∨ j = 1 by omega) with rfl | rfl <;> rfl⟩
set_option maxRecDepth 100000 in
theorem nwX4_9 : NW RX4 9 9 9 [.null, .null, .null, .null, .null, .null, .null, .int (iI 0), .int (iI 0)] := ⟨_, _, tyX9, rfl, tb_in9, tbm 251 (by decide +kernel) rfl, tbm 57 (by decide +kernel) rfl, tbm 34 (by decide +kernel) rfl, tyX9_ok, fun j hj => by rcases (show j = 0 ∨ j = 1 ∨ j = 2 ∨ j = 3 ∨ j = 4 ∨ j = 5 ∨ j = 6 ∨ j = 7 ∨ j = 8 by omega) with rfl | rfl | rfl | rfl | rfl | rfl | rfl | rfl | rfl <;> rfl⟩
set_option maxRecDepth 100000 in
theorem nwX11_26 : NW RX11 26 6 3 [.null, .null, .int (iI 0)] := ⟨_, _, tyX6, rfl, tb_in6, tbm 262 (by decide +kernel) rfl, tbm 263 (by decide +kernel) rfl, tbm 44 (by decide +kernel) rfl, tyX6_ok, fun j hj => by rcases (show j = 0 ∨ j = 1 ∨ j = 2 by omega) with rfl | rfl | rfl <;> rfl⟩
set_option maxRecDepth 100000 in
theorem nwX11_33 : NW RX11 33 10 2 [.null, .int (iI 0)] := ⟨_, _, tyX10, rfl, tb_in10, tbm 279 (by decide +kernel) rfl, tbm 280 (by decide +kernel) rfl, tbm 45 (by decide +kernel) rfl, tyX10_ok, fun j hj => by rcases (show j = 0 ∨ j = 1 by omega) with rfl | rfl <;> rfl⟩
set_option maxRecDepth 100000 in
theorem nwX11_40 : NW RX11 40 7 7 [.null, .null, .null, .int (iI 0), .int (iI 0), .int (iI 0), .int (iI 0)] := ⟨_, _, tyX7, rfl, tb_in7, tbm 295 (by decide +kernel) rfl, tbm 296 (by decide +kernel) rfl, tbm 46 (by decide +kernel) rfl, tyX7_ok, fun j hj => by rcases (show j = 0 ∨ j = 1 ∨ j = 2 ∨ j = 3 ∨ j = 4 ∨ j = 5 ∨ j = 6 by omega) with rfl | rfl | rfl | rfl | rfl | rfl | rfl <;> rfl⟩
set_option maxRecDepth 100000 in
theorem nwL_10 : NW RL 10 12 12 [.null, .null, .int (iI 0), .null, .null, .int (iI 0), .int (iI 0), .int (iI 0), .null, .int (iI 0), .null, .int (iI 0)] := ⟨_, _, tyX12, rfl, tb_in12, tbm 689 (by decide +kernel) rfl, tbm 690 (by decide +kernel) rfl, tbm 47 (by decide +kernel) rfl, tyX12_ok, fun j hj => by rcases (show j = 0 ∨ j = 1 ∨ j = 2 ∨ j = 3 ∨ j = 4 ∨ j = 5 ∨ j = 6 ∨ j = 7 ∨ j = 8 ∨ j = 9 ∨ j = 10 ∨ j = 11 by omega) with rfl | rfl | rfl | rfl | rfl | rfl | rfl | rfl | rfl | rfl | rfl | rfl <;> rfl⟩
set_option maxRecDepth 100000 in
theorem oiX11_1 : Cond.methodLink RX11 1 Lib.objectInit ∈ TB := tbm 53 (by decide +kernel) rfl
set_option maxRecDepth 100000 in
theorem oiX9_3 : Cond.methodLink RX9 3 Lib.objectInit ∈ TB := tbm 61 (by decide +kernel) rfl
set_option maxRecDepth 100000 in
theorem oiX8_3 : Cond.methodLink RX8 3 Lib.objectInit ∈ TB := tbm 67 (by decide +kernel) rfl
set_option maxRecDepth 100000 in
theorem oiX2_1 : Cond.methodLink RX2 1 Lib.objectInit ∈ TB := tbm 91 (by decide +kernel) rfl
set_option maxRecDepth 100000 in
theorem oiX0_3 : Cond.methodLink RX0 3 Lib.objectInit ∈ TB := tbm 106 (by decide +kernel) rfl
set_option maxRecDepth 100000 in
theorem oiX1_3 : Cond.methodLink RX1 3 Lib.objectInit ∈ TB := tbm 139 (by decide +kernel) rfl
set_option maxRecDepth 100000 in
theorem oiX3_3 : Cond.methodLink RX3 3 Lib.objectInit ∈ TB := tbm 157 (by decide +kernel) rfl
set_option maxRecDepth 100000 in
theorem oiX5_3 : Cond.methodLink RX5 3 Lib.objectInit ∈ TB := tbm 176 (by decide +kernel) rfl
set_option maxRecDepth 100000 in
theorem acX11_267 : Cond.methodLink RX11 267 arraycopyName ∈ TB := tbm 201 (by decide +kernel) rfl
set_option maxRecDepth 100000 in
theorem oiX4_3 : Cond.methodLink RX4 3 Lib.objectInit ∈ TB := tbm 250 (by decide +kernel) rfl
set_option maxRecDepth 100000 in
theorem oiX6_3 : Cond.methodLink RX6 3 Lib.objectInit ∈ TB := tbm 267 (by decide +kernel) rfl
set_option maxRecDepth 100000 in
theorem oiX10_3 : Cond.methodLink RX10 3 Lib.objectInit ∈ TB := tbm 284 (by decide +kernel) rfl
set_option maxRecDepth 100000 in
theorem oiX7_3 : Cond.methodLink RX7 3 Lib.objectInit ∈ TB := tbm 300 (by decide +kernel) rfl
set_option maxRecDepth 100000 in
theorem acX5_32 : Cond.methodLink RX5 32 arraycopyName ∈ TB := tbm 477 (by decide +kernel) rfl
set_option maxRecDepth 100000 in
theorem oiX12_1 : Cond.methodLink RX12 1 Lib.objectInit ∈ TB := tbm 694 (by decide +kernel) rfl
set_option maxRecDepth 100000 in
theorem ac_n : Cond.native arraycopyName ∈ TB := tbm 203 (by decide +kernel) rfl
set_option maxRecDepth 100000 in
theorem ac_s : Cond.static arraycopyName ∈ TB := tbm 202 (by decide +kernel) rfl
set_option maxRecDepth 100000 in
theorem ac_i : Cond.initialized "java/lang/System" ∈ TB := tbm 42 (by decide +kernel) rfl
set_option maxRecDepth 100000 in
theorem oi_i : Cond.instanceMethod Lib.objectInit ∈ TB := tbm 54 (by decide +kernel) rfl
set_option maxRecDepth 100000 in
theorem oi_c : Cond.code Lib.objectInit ⟨#[0xb1]⟩ 1 none ∈ TB := tbm 55 (by decide +kernel) rfl
set_option maxRecDepth 100000 in
theorem aw_int : Cond.arrayClass .int ∈ TB := tbm 85 (by decide +kernel) rfl
set_option maxRecDepth 100000 in
theorem aw_char : Cond.arrayClass .char ∈ TB := tbm 294 (by decide +kernel) rfl
set_option maxRecDepth 100000 in
theorem aw_boolean : Cond.arrayClass .boolean ∈ TB := tbm 278 (by decide +kernel) rfl
set_option maxRecDepth 100000 in
theorem gnX1_9 : Cond.fieldLinkNest RX1 9 RX11 "FIRST_VALUES" "[I" "RainRecorder" ∈ TN := tnm 140 (by decide +kernel) rfl
set_option maxRecDepth 100000 in
theorem gnX9_57 : Cond.fieldLinkNest RX9 57 RX11 "FIRST_VALUES" "[I" "RainRecorder" ∈ TN := tnm 194 (by decide +kernel) rfl
