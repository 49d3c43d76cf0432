def R_law : String := "DotWarLaw"
theorem no_L_7 : NO R_law 7 10 12 [.null, .null, .null, .null, .null, .null, .null, .null, iv 0, .null, .null, .null] := ⟨RX11, TX11, tyX11, rfl, in_X11, tyX11_ok, Tb_mem 89 (by decide +kernel) (by decide +kernel), Tb_mem 90 (by decide +kernel) (by decide +kernel), Tb_mem 72 (by decide +kernel) (by decide +kernel), fun j hj => match j, hj with | 0, _ => rfl | 1, _ => rfl | 2, _ => rfl | 3, _ => rfl | 4, _ => rfl | 5, _ => rfl | 6, _ => rfl | 7, _ => rfl | 8, _ => rfl | 9, _ => rfl | 10, _ => rfl | 11, _ => rfl | j + 12, h => absurd h (by omega)⟩
theorem no_X11_9 : NO RX11 9 1 4 [.null, .null, .null, .null] := ⟨RX1, TX1, tyX1, rfl, in_X1, tyX1_ok, Tb_mem 97 (by decide +kernel) (by decide +kernel), Tb_mem 99 (by decide +kernel) (by decide +kernel), Tb_mem 73 (by decide +kernel) (by decide +kernel), fun j hj => match j, hj with | 0, _ => rfl | 1, _ => rfl | 2, _ => rfl | 3, _ => rfl | j + 4, h => absurd h (by omega)⟩
theorem no_X1_15 : NO RX1 15 8 4 [iv 0, .null, .null, iv 0] := ⟨RX9, TX9, tyX9, rfl, in_X9, tyX9_ok, Tb_mem 104 (by decide +kernel) (by decide +kernel), Tb_mem 105 (by decide +kernel) (by decide +kernel), Tb_mem 74 (by decide +kernel) (by decide +kernel), fun j hj => match j, hj with | 0, _ => rfl | 1, _ => rfl | 2, _ => rfl | 3, _ => rfl | j + 4, h => absurd h (by omega)⟩
theorem no_X11_16 : NO RX11 16 5 2 [.null, iv 0] := ⟨RX5, TX5, tyX5, rfl, in_X5, tyX5_ok, Tb_mem 161 (by decide +kernel) (by decide +kernel), Tb_mem 162 (by decide +kernel) (by decide +kernel), Tb_mem 76 (by decide +kernel) (by decide +kernel), fun j hj => match j, hj with | 0, _ => rfl | 1, _ => rfl | j + 2, h => absurd h (by omega)⟩
theorem no_X11_31 : NO RX11 31 9 3 [.null, .null, .null] := ⟨RX10, TX10, tyX10, rfl, in_X10, tyX10_ok, Tb_mem 183 (by decide +kernel) (by decide +kernel), Tb_mem 184 (by decide +kernel) (by decide +kernel), Tb_mem 77 (by decide +kernel) (by decide +kernel), fun j hj => match j, hj with | 0, _ => rfl | 1, _ => rfl | 2, _ => rfl | j + 3, h => absurd h (by omega)⟩
theorem no_X10_18 : NO RX10 18 5 2 [.null, iv 0] := ⟨RX5, TX5, tyX5, rfl, in_X5, tyX5_ok, Tb_mem 189 (by decide +kernel) (by decide +kernel), Tb_mem 162 (by decide +kernel) (by decide +kernel), Tb_mem 76 (by decide +kernel) (by decide +kernel), fun j hj => match j, hj with | 0, _ => rfl | 1, _ => rfl | j + 2, h => absurd h (by omega)⟩
theorem no_X11_38 : NO RX11 38 2 5 [.null, .null, .null, .null, .null] := ⟨RX2, TX2, tyX2, rfl, in_X2, tyX2_ok, Tb_mem 202 (by decide +kernel) (by decide +kernel), Tb_mem 203 (by decide +kernel) (by decide +kernel), Tb_mem 78 (by decide +kernel) (by decide +kernel), fun j hj => match j, hj with | 0, _ => rfl | 1, _ => rfl | 2, _ => rfl | 3, _ => rfl | 4, _ => rfl | j + 5, h => absurd h (by omega)⟩
theorem no_X2_15 : NO RX2 15 5 2 [.null, iv 0] := ⟨RX5, TX5, tyX5, rfl, in_X5, tyX5_ok, Tb_mem 208 (by decide +kernel) (by decide +kernel), Tb_mem 162 (by decide +kernel) (by decide +kernel), Tb_mem 76 (by decide +kernel) (by decide +kernel), fun j hj => match j, hj with | 0, _ => rfl | 1, _ => rfl | j + 2, h => absurd h (by omega)⟩
theorem no_X11_45 : NO RX11 45 0 9 [.null, .null, .null, .null, .null, .null, .null, .null, .null] := ⟨RX0, TX0, tyX0, rfl, in_X0, tyX0_ok, Tb_mem 228 (by decide +kernel) (by decide +kernel), Tb_mem 229 (by decide +kernel) (by decide +kernel), Tb_mem 79 (by decide +kernel) (by decide +kernel), fun j hj => match j, hj with | 0, _ => rfl | 1, _ => rfl | 2, _ => rfl | 3, _ => rfl | 4, _ => rfl | 5, _ => rfl | 6, _ => rfl | 7, _ => rfl | 8, _ => rfl | j + 9, h => absurd h (by omega)⟩
theorem no_X0_9 : NO RX0 9 8 4 [iv 0, .null, .null, iv 0] := ⟨RX9, TX9, tyX9, rfl, in_X9, tyX9_ok, Tb_mem 234 (by decide +kernel) (by decide +kernel), Tb_mem 105 (by decide +kernel) (by decide +kernel), Tb_mem 74 (by decide +kernel) (by decide +kernel), fun j hj => match j, hj with | 0, _ => rfl | 1, _ => rfl | 2, _ => rfl | 3, _ => rfl | j + 4, h => absurd h (by omega)⟩
theorem no_X11_54 : NO RX11 54 6 4 [iv 0, iv 0, iv 0, .null] := ⟨RX6, TX6, tyX6, rfl, in_X6, tyX6_ok, Tb_mem 270 (by decide +kernel) (by decide +kernel), Tb_mem 272 (by decide +kernel) (by decide +kernel), Tb_mem 80 (by decide +kernel) (by decide +kernel), fun j hj => match j, hj with | 0, _ => rfl | 1, _ => rfl | 2, _ => rfl | 3, _ => rfl | j + 4, h => absurd h (by omega)⟩
theorem no_X11_65 : NO RX11 65 7 2 [.null, .null] := ⟨RX8, TX8, tyX8, rfl, in_X8, tyX8_ok, Tb_mem 293 (by decide +kernel) (by decide +kernel), Tb_mem 295 (by decide +kernel) (by decide +kernel), Tb_mem 81 (by decide +kernel) (by decide +kernel), fun j hj => match j, hj with | 0, _ => rfl | 1, _ => rfl | j + 2, h => absurd h (by omega)⟩
theorem no_X8_16 : NO RX8 16 5 2 [.null, iv 0] := ⟨RX5, TX5, tyX5, rfl, in_X5, tyX5_ok, Tb_mem 301 (by decide +kernel) (by decide +kernel), Tb_mem 162 (by decide +kernel) (by decide +kernel), Tb_mem 76 (by decide +kernel) (by decide +kernel), fun j hj => match j, hj with | 0, _ => rfl | 1, _ => rfl | j + 2, h => absurd h (by omega)⟩
theorem no_X11_72 : NO RX11 72 3 6 [.null, .null, iv 0, iv 0, iv 0, iv 0] := ⟨RX3, TX3, tyX3, rfl, in_X3, tyX3_ok, Tb_mem 312 (by decide +kernel) (by decide +kernel), Tb_mem 313 (by decide +kernel) (by decide +kernel), Tb_mem 82 (by decide +kernel) (by decide +kernel), fun j hj => match j, hj with | 0, _ => rfl | 1, _ => rfl | 2, _ => rfl | 3, _ => rfl | 4, _ => rfl | 5, _ => rfl | j + 6, h => absurd h (by omega)⟩
theorem no_X11_79 : NO RX11 79 4 9 [.null, .null, .null, .null, .null, .null, .null, iv 0, iv 0] := ⟨RX4, TX4, tyX4, rfl, in_X4, tyX4_ok, Tb_mem 343 (by decide +kernel) (by decide +kernel), Tb_mem 344 (by decide +kernel) (by decide +kernel), Tb_mem 83 (by decide +kernel) (by decide +kernel), fun j hj => match j, hj with | 0, _ => rfl | 1, _ => rfl | 2, _ => rfl | 3, _ => rfl | 4, _ => rfl | 5, _ => rfl | 6, _ => rfl | 7, _ => rfl | 8, _ => rfl | j + 9, h => absurd h (by omega)⟩
theorem no_L_10 : NO R_law 10 11 48 [.null, .null, .null, .null, .null, .null, .null, iv 0, .null, iv 0, .null, iv 0, .null, .null, iv 0, .null, .null, .null, .null, .null, .null, .null, iv 0, .null, iv 0, iv 0, .null, .null, iv 0, .null, .null, .null, .null, iv 0, .null, iv 0, iv 0, iv 0, iv 0, .null, .null, .null, iv 0, .null, .null, .null, .null, .null] := ⟨RX12, TX12, tyX12, rfl, in_X12, tyX12_ok, Tb_mem 917 (by decide +kernel) (by decide +kernel), Tb_mem 918 (by decide +kernel) (by decide +kernel), Tb_mem 85 (by decide +kernel) (by decide +kernel), fun j hj => match j, hj with | 0, _ => rfl | 1, _ => rfl | 2, _ => rfl | 3, _ => rfl | 4, _ => rfl | 5, _ => rfl | 6, _ => rfl | 7, _ => rfl | 8, _ => rfl | 9, _ => rfl | 10, _ => rfl | 11, _ => rfl | 12, _ => rfl | 13, _ => rfl | 14, _ => rfl | 15, _ => rfl | 16, _ => rfl | 17, _ => rfl | 18, _ => rfl | 19, _ => rfl | 20, _ => rfl | 21, _ => rfl | 22, _ => rfl | 23, _ => rfl | 24, _ => rfl | 25, _ => rfl | 26, _ => rfl | 27, _ => rfl | 28, _ => rfl | 29, _ => rfl | 30, _ => rfl | 31, _ => rfl | 32, _ => rfl | 33, _ => rfl | 34, _ => rfl | 35, _ => rfl | 36, _ => rfl | 37, _ => rfl | 38, _ => rfl | 39, _ => rfl | 40, _ => rfl | 41, _ => rfl | 42, _ => rfl | 43, _ => rfl | 44, _ => rfl | 45, _ => rfl | 46, _ => rfl | 47, _ => rfl | j + 48, h => absurd h (by omega)⟩
theorem ff_X9_15 : FF RX9 15 8 0 false := ⟨RX9, TX9, 4, tyX9, rfl, by decide, Tb_mem 113 (by decide +kernel) (by decide +kernel), in_X9, tyX9_ok, nmX9, rfl, rfl, rfl, fun _ => rfl⟩
theorem ff_X9_21 : FF RX9 21 8 1 true := ⟨RX9, TX9, 4, tyX9, rfl, by decide, Tb_mem 114 (by decide +kernel) (by decide +kernel), in_X9, tyX9_ok, nmX9, rfl, rfl, rfl, fun h => by cases h⟩
theorem ff_X9_25 : FF RX9 25 8 2 true := ⟨RX9, TX9, 4, tyX9, rfl, by decide, Tb_mem 117 (by decide +kernel) (by decide +kernel), in_X9, tyX9_ok, nmX9, rfl, rfl, rfl, fun h => by cases h⟩
theorem ff_X1_9 : FF RX1 9 1 0 true := ⟨RX1, TX1, 4, tyX1, rfl, by decide, Tb_mem 136 (by decide +kernel) (by decide +kernel), in_X1, tyX1_ok, nmX1, rfl, rfl, rfl, fun h => by cases h⟩
theorem ff_X1_20 : FF RX1 20 1 1 true := ⟨RX1, TX1, 4, tyX1, rfl, by decide, Tb_mem 142 (by decide +kernel) (by decide +kernel), in_X1, tyX1_ok, nmX1, rfl, rfl, rfl, fun h => by cases h⟩
theorem ff_X1_24 : FF RX1 24 1 2 true := ⟨RX1, TX1, 4, tyX1, rfl, by decide, Tb_mem 146 (by decide +kernel) (by decide +kernel), in_X1, tyX1_ok, nmX1, rfl, rfl, rfl, fun h => by cases h⟩
theorem ff_X1_27 : FF RX1 27 1 3 true := ⟨RX1, TX1, 4, tyX1, rfl, by decide, Tb_mem 149 (by decide +kernel) (by decide +kernel), in_X1, tyX1_ok, nmX1, rfl, rfl, rfl, fun h => by cases h⟩
theorem ff_X5_15 : FF RX5 15 5 0 true := ⟨RX5, TX5, 2, tyX5, rfl, by decide, Tb_mem 168 (by decide +kernel) (by decide +kernel), in_X5, tyX5_ok, nmX5, rfl, rfl, rfl, fun h => by cases h⟩
theorem ff_X10_9 : FF RX10 9 9 0 true := ⟨RX10, TX10, 3, tyX10, rfl, by decide, Tb_mem 191 (by decide +kernel) (by decide +kernel), in_X10, tyX10_ok, nmX10, rfl, rfl, rfl, fun h => by cases h⟩
theorem ff_X10_15 : FF RX10 15 9 1 true := ⟨RX10, TX10, 3, tyX10, rfl, by decide, Tb_mem 192 (by decide +kernel) (by decide +kernel), in_X10, tyX10_ok, nmX10, rfl, rfl, rfl, fun h => by cases h⟩
theorem ff_X10_23 : FF RX10 23 9 2 true := ⟨RX10, TX10, 3, tyX10, rfl, by decide, Tb_mem 193 (by decide +kernel) (by decide +kernel), in_X10, tyX10_ok, nmX10, rfl, rfl, rfl, fun h => by cases h⟩
theorem ff_X2_9 : FF RX2 9 2 0 true := ⟨RX2, TX2, 5, tyX2, rfl, by decide, Tb_mem 210 (by decide +kernel) (by decide +kernel), in_X2, tyX2_ok, nmX2, rfl, rfl, rfl, fun h => by cases h⟩
theorem ff_X2_20 : FF RX2 20 2 1 true := ⟨RX2, TX2, 5, tyX2, rfl, by decide, Tb_mem 211 (by decide +kernel) (by decide +kernel), in_X2, tyX2_ok, nmX2, rfl, rfl, rfl, fun h => by cases h⟩
theorem ff_X2_24 : FF RX2 24 2 2 true := ⟨RX2, TX2, 5, tyX2, rfl, by decide, Tb_mem 213 (by decide +kernel) (by decide +kernel), in_X2, tyX2_ok, nmX2, rfl, rfl, rfl, fun h => by cases h⟩
theorem ff_X2_27 : FF RX2 27 2 3 true := ⟨RX2, TX2, 5, tyX2, rfl, by decide, Tb_mem 214 (by decide +kernel) (by decide +kernel), in_X2, tyX2_ok, nmX2, rfl, rfl, rfl, fun h => by cases h⟩
theorem ff_X2_30 : FF RX2 30 2 4 true := ⟨RX2, TX2, 5, tyX2, rfl, by decide, Tb_mem 215 (by decide +kernel) (by decide +kernel), in_X2, tyX2_ok, nmX2, rfl, rfl, rfl, fun h => by cases h⟩
theorem ff_X0_44 : FF RX0 44 0 0 true := ⟨RX0, TX0, 9, tyX0, rfl, by decide, Tb_mem 238 (by decide +kernel) (by decide +kernel), in_X0, tyX0_ok, nmX0, rfl, rfl, rfl, fun h => by cases h⟩
theorem ff_X0_14 : FF RX0 14 0 1 true := ⟨RX0, TX0, 9, tyX0, rfl, by decide, Tb_mem 239 (by decide +kernel) (by decide +kernel), in_X0, tyX0_ok, nmX0, rfl, rfl, rfl, fun h => by cases h⟩
theorem ff_X0_22 : FF RX0 22 0 2 true := ⟨RX0, TX0, 9, tyX0, rfl, by decide, Tb_mem 241 (by decide +kernel) (by decide +kernel), in_X0, tyX0_ok, nmX0, rfl, rfl, rfl, fun h => by cases h⟩
theorem ff_X0_25 : FF RX0 25 0 3 true := ⟨RX0, TX0, 9, tyX0, rfl, by decide, Tb_mem 243 (by decide +kernel) (by decide +kernel), in_X0, tyX0_ok, nmX0, rfl, rfl, rfl, fun h => by cases h⟩
theorem ff_X0_29 : FF RX0 29 0 4 true := ⟨RX0, TX0, 9, tyX0, rfl, by decide, Tb_mem 244 (by decide +kernel) (by decide +kernel), in_X0, tyX0_ok, nmX0, rfl, rfl, rfl, fun h => by cases h⟩
theorem ff_X0_32 : FF RX0 32 0 5 true := ⟨RX0, TX0, 9, tyX0, rfl, by decide, Tb_mem 246 (by decide +kernel) (by decide +kernel), in_X0, tyX0_ok, nmX0, rfl, rfl, rfl, fun h => by cases h⟩
theorem ff_X0_35 : FF RX0 35 0 6 true := ⟨RX0, TX0, 9, tyX0, rfl, by decide, Tb_mem 247 (by decide +kernel) (by decide +kernel), in_X0, tyX0_ok, nmX0, rfl, rfl, rfl, fun h => by cases h⟩
theorem ff_X0_38 : FF RX0 38 0 7 true := ⟨RX0, TX0, 9, tyX0, rfl, by decide, Tb_mem 248 (by decide +kernel) (by decide +kernel), in_X0, tyX0_ok, nmX0, rfl, rfl, rfl, fun h => by cases h⟩
theorem ff_X0_41 : FF RX0 41 0 8 true := ⟨RX0, TX0, 9, tyX0, rfl, by decide, Tb_mem 249 (by decide +kernel) (by decide +kernel), in_X0, tyX0_ok, nmX0, rfl, rfl, rfl, fun h => by cases h⟩
theorem ff_X6_9 : FF RX6 9 6 3 true := ⟨RX6, TX6, 4, tyX6, rfl, by decide, Tb_mem 282 (by decide +kernel) (by decide +kernel), in_X6, tyX6_ok, nmX6, rfl, rfl, rfl, fun h => by cases h⟩
theorem ff_X8_11 : FF RX8 11 7 0 true := ⟨RX8, TX8, 2, tyX8, rfl, by decide, Tb_mem 303 (by decide +kernel) (by decide +kernel), in_X8, tyX8_ok, nmX8, rfl, rfl, rfl, fun h => by cases h⟩
theorem ff_X8_21 : FF RX8 21 7 1 true := ⟨RX8, TX8, 2, tyX8, rfl, by decide, Tb_mem 305 (by decide +kernel) (by decide +kernel), in_X8, tyX8_ok, nmX8, rfl, rfl, rfl, fun h => by cases h⟩
theorem ff_X3_9 : FF RX3 9 3 0 true := ⟨RX3, TX3, 6, tyX3, rfl, by decide, Tb_mem 318 (by decide +kernel) (by decide +kernel), in_X3, tyX3_ok, nmX3, rfl, rfl, rfl, fun h => by cases h⟩
theorem ff_X3_15 : FF RX3 15 3 1 true := ⟨RX3, TX3, 6, tyX3, rfl, by decide, Tb_mem 320 (by decide +kernel) (by decide +kernel), in_X3, tyX3_ok, nmX3, rfl, rfl, rfl, fun h => by cases h⟩
theorem ff_X4_31 : FF RX4 31 4 0 true := ⟨RX4, TX4, 9, tyX4, rfl, by decide, Tb_mem 352 (by decide +kernel) (by decide +kernel), in_X4, tyX4_ok, nmX4, rfl, rfl, rfl, fun h => by cases h⟩
theorem ff_X4_9 : FF RX4 9 4 1 true := ⟨RX4, TX4, 9, tyX4, rfl, by decide, Tb_mem 353 (by decide +kernel) (by decide +kernel), in_X4, tyX4_ok, nmX4, rfl, rfl, rfl, fun h => by cases h⟩
theorem ff_X4_15 : FF RX4 15 4 2 true := ⟨RX4, TX4, 9, tyX4, rfl, by decide, Tb_mem 355 (by decide +kernel) (by decide +kernel), in_X4, tyX4_ok, nmX4, rfl, rfl, rfl, fun h => by cases h⟩
theorem ff_X4_18 : FF RX4 18 4 3 true := ⟨RX4, TX4, 9, tyX4, rfl, by decide, Tb_mem 357 (by decide +kernel) (by decide +kernel), in_X4, tyX4_ok, nmX4, rfl, rfl, rfl, fun h => by cases h⟩
theorem ff_X4_21 : FF RX4 21 4 4 true := ⟨RX4, TX4, 9, tyX4, rfl, by decide, Tb_mem 358 (by decide +kernel) (by decide +kernel), in_X4, tyX4_ok, nmX4, rfl, rfl, rfl, fun h => by cases h⟩
theorem ff_X4_25 : FF RX4 25 4 5 true := ⟨RX4, TX4, 9, tyX4, rfl, by decide, Tb_mem 359 (by decide +kernel) (by decide +kernel), in_X4, tyX4_ok, nmX4, rfl, rfl, rfl, fun h => by cases h⟩
theorem ff_X4_28 : FF RX4 28 4 6 true := ⟨RX4, TX4, 9, tyX4, rfl, by decide, Tb_mem 360 (by decide +kernel) (by decide +kernel), in_X4, tyX4_ok, nmX4, rfl, rfl, rfl, fun h => by cases h⟩
theorem ff_X11_11 : FF RX11 11 10 0 true := ⟨RX11, TX11, 12, tyX11, rfl, by decide, Tb_mem 383 (by decide +kernel) (by decide +kernel), in_X11, tyX11_ok, nmX11, rfl, rfl, rfl, fun h => by cases h⟩
theorem ff_X11_21 : FF RX11 21 10 1 true := ⟨RX11, TX11, 12, tyX11, rfl, by decide, Tb_mem 384 (by decide +kernel) (by decide +kernel), in_X11, tyX11_ok, nmX11, rfl, rfl, rfl, fun h => by cases h⟩
theorem ff_X11_25 : FF RX11 25 10 2 true := ⟨RX11, TX11, 12, tyX11, rfl, by decide, Tb_mem 385 (by decide +kernel) (by decide +kernel), in_X11, tyX11_ok, nmX11, rfl, rfl, rfl, fun h => by cases h⟩
theorem ff_X11_28 : FF RX11 28 10 3 true := ⟨RX11, TX11, 12, tyX11, rfl, by decide, Tb_mem 386 (by decide +kernel) (by decide +kernel), in_X11, tyX11_ok, nmX11, rfl, rfl, rfl, fun h => by cases h⟩
theorem ff_X11_34 : FF RX11 34 10 4 true := ⟨RX11, TX11, 12, tyX11, rfl, by decide, Tb_mem 387 (by decide +kernel) (by decide +kernel), in_X11, tyX11_ok, nmX11, rfl, rfl, rfl, fun h => by cases h⟩
theorem ff_X11_41 : FF RX11 41 10 5 true := ⟨RX11, TX11, 12, tyX11, rfl, by decide, Tb_mem 388 (by decide +kernel) (by decide +kernel), in_X11, tyX11_ok, nmX11, rfl, rfl, rfl, fun h => by cases h⟩
theorem ff_X11_50 : FF RX11 50 10 6 true := ⟨RX11, TX11, 12, tyX11, rfl, by decide, Tb_mem 389 (by decide +kernel) (by decide +kernel), in_X11, tyX11_ok, nmX11, rfl, rfl, rfl, fun h => by cases h⟩
theorem ff_X11_56 : FF RX11 56 10 7 true := ⟨RX11, TX11, 12, tyX11, rfl, by decide, Tb_mem 390 (by decide +kernel) (by decide +kernel), in_X11, tyX11_ok, nmX11, rfl, rfl, rfl, fun h => by cases h⟩
theorem ff_X11_67 : FF RX11 67 10 9 true := ⟨RX11, TX11, 12, tyX11, rfl, by decide, Tb_mem 392 (by decide +kernel) (by decide +kernel), in_X11, tyX11_ok, nmX11, rfl, rfl, rfl, fun h => by cases h⟩
theorem ff_X11_75 : FF RX11 75 10 10 true := ⟨RX11, TX11, 12, tyX11, rfl, by decide, Tb_mem 393 (by decide +kernel) (by decide +kernel), in_X11, tyX11_ok, nmX11, rfl, rfl, rfl, fun h => by cases h⟩
theorem ff_X11_84 : FF RX11 84 10 11 true := ⟨RX11, TX11, 12, tyX11, rfl, by decide, Tb_mem 394 (by decide +kernel) (by decide +kernel), in_X11, tyX11_ok, nmX11, rfl, rfl, rfl, fun h => by cases h⟩
theorem ff_X12_7 : FF RX12 7 11 0 true := ⟨RX12, TX12, 48, tyX12, rfl, by decide, Tb_mem 923 (by decide +kernel) (by decide +kernel), in_X12, tyX12_ok, nmX12, rfl, rfl, rfl, fun h => by cases h⟩
theorem ff_X12_13 : FF RX12 13 11 1 true := ⟨RX12, TX12, 48, tyX12, rfl, by decide, Tb_mem 924 (by decide +kernel) (by decide +kernel), in_X12, tyX12_ok, nmX12, rfl, rfl, rfl, fun h => by cases h⟩
theorem ff_X12_16 : FF RX12 16 11 2 true := ⟨RX12, TX12, 48, tyX12, rfl, by decide, Tb_mem 925 (by decide +kernel) (by decide +kernel), in_X12, tyX12_ok, nmX12, rfl, rfl, rfl, fun h => by cases h⟩
theorem ff_X12_19 : FF RX12 19 11 3 true := ⟨RX12, TX12, 48, tyX12, rfl, by decide, Tb_mem 926 (by decide +kernel) (by decide +kernel), in_X12, tyX12_ok, nmX12, rfl, rfl, rfl, fun h => by cases h⟩
theorem ff_X12_22 : FF RX12 22 11 4 true := ⟨RX12, TX12, 48, tyX12, rfl, by decide, Tb_mem 927 (by decide +kernel) (by decide +kernel), in_X12, tyX12_ok, nmX12, rfl, rfl, rfl, fun h => by cases h⟩
theorem ff_X12_25 : FF RX12 25 11 5 true := ⟨RX12, TX12, 48, tyX12, rfl, by decide, Tb_mem 928 (by decide +kernel) (by decide +kernel), in_X12, tyX12_ok, nmX12, rfl, rfl, rfl, fun h => by cases h⟩
theorem ff_X12_28 : FF RX12 28 11 6 true := ⟨RX12, TX12, 48, tyX12, rfl, by decide, Tb_mem 929 (by decide +kernel) (by decide +kernel), in_X12, tyX12_ok, nmX12, rfl, rfl, rfl, fun h => by cases h⟩
theorem ff_X12_31 : FF RX12 31 11 8 true := ⟨RX12, TX12, 48, tyX12, rfl, by decide, Tb_mem 931 (by decide +kernel) (by decide +kernel), in_X12, tyX12_ok, nmX12, rfl, rfl, rfl, fun h => by cases h⟩
theorem ff_X12_34 : FF RX12 34 11 10 true := ⟨RX12, TX12, 48, tyX12, rfl, by decide, Tb_mem 933 (by decide +kernel) (by decide +kernel), in_X12, tyX12_ok, nmX12, rfl, rfl, rfl, fun h => by cases h⟩
theorem ff_X12_37 : FF RX12 37 11 12 true := ⟨RX12, TX12, 48, tyX12, rfl, by decide, Tb_mem 935 (by decide +kernel) (by decide +kernel), in_X12, tyX12_ok, nmX12, rfl, rfl, rfl, fun h => by cases h⟩
theorem ff_X12_40 : FF RX12 40 11 13 true := ⟨RX12, TX12, 48, tyX12, rfl, by decide, Tb_mem 936 (by decide +kernel) (by decide +kernel), in_X12, tyX12_ok, nmX12, rfl, rfl, rfl, fun h => by cases h⟩
theorem ff_X12_43 : FF RX12 43 11 15 true := ⟨RX12, TX12, 48, tyX12, rfl, by decide, Tb_mem 938 (by decide +kernel) (by decide +kernel), in_X12, tyX12_ok, nmX12, rfl, rfl, rfl, fun h => by cases h⟩
theorem ff_X12_46 : FF RX12 46 11 16 true := ⟨RX12, TX12, 48, tyX12, rfl, by decide, Tb_mem 939 (by decide +kernel) (by decide +kernel), in_X12, tyX12_ok, nmX12, rfl, rfl, rfl, fun h => by cases h⟩
theorem ff_X12_49 : FF RX12 49 11 17 true := ⟨RX12, TX12, 48, tyX12, rfl, by decide, Tb_mem 940 (by decide +kernel) (by decide +kernel), in_X12, tyX12_ok, nmX12, rfl, rfl, rfl, fun h => by cases h⟩
theorem ff_X12_52 : FF RX12 52 11 18 true := ⟨RX12, TX12, 48, tyX12, rfl, by decide, Tb_mem 941 (by decide +kernel) (by decide +kernel), in_X12, tyX12_ok, nmX12, rfl, rfl, rfl, fun h => by cases h⟩
theorem ff_X12_56 : FF RX12 56 11 19 true := ⟨RX12, TX12, 48, tyX12, rfl, by decide, Tb_mem 942 (by decide +kernel) (by decide +kernel), in_X12, tyX12_ok, nmX12, rfl, rfl, rfl, fun h => by cases h⟩
theorem ff_X12_59 : FF RX12 59 11 20 true := ⟨RX12, TX12, 48, tyX12, rfl, by decide, Tb_mem 943 (by decide +kernel) (by decide +kernel), in_X12, tyX12_ok, nmX12, rfl, rfl, rfl, fun h => by cases h⟩
theorem ff_X12_62 : FF RX12 62 11 21 true := ⟨RX12, TX12, 48, tyX12, rfl, by decide, Tb_mem 944 (by decide +kernel) (by decide +kernel), in_X12, tyX12_ok, nmX12, rfl, rfl, rfl, fun h => by cases h⟩
theorem ff_X12_65 : FF RX12 65 11 23 true := ⟨RX12, TX12, 48, tyX12, rfl, by decide, Tb_mem 946 (by decide +kernel) (by decide +kernel), in_X12, tyX12_ok, nmX12, rfl, rfl, rfl, fun h => by cases h⟩
theorem ff_X12_68 : FF RX12 68 11 26 true := ⟨RX12, TX12, 48, tyX12, rfl, by decide, Tb_mem 949 (by decide +kernel) (by decide +kernel), in_X12, tyX12_ok, nmX12, rfl, rfl, rfl, fun h => by cases h⟩
theorem ff_X12_71 : FF RX12 71 11 27 true := ⟨RX12, TX12, 48, tyX12, rfl, by decide, Tb_mem 950 (by decide +kernel) (by decide +kernel), in_X12, tyX12_ok, nmX12, rfl, rfl, rfl, fun h => by cases h⟩
theorem ff_X12_74 : FF RX12 74 11 29 true := ⟨RX12, TX12, 48, tyX12, rfl, by decide, Tb_mem 952 (by decide +kernel) (by decide +kernel), in_X12, tyX12_ok, nmX12, rfl, rfl, rfl, fun h => by cases h⟩
theorem ff_X12_77 : FF RX12 77 11 30 true := ⟨RX12, TX12, 48, tyX12, rfl, by decide, Tb_mem 953 (by decide +kernel) (by decide +kernel), in_X12, tyX12_ok, nmX12, rfl, rfl, rfl, fun h => by cases h⟩
theorem ff_X12_80 : FF RX12 80 11 31 true := ⟨RX12, TX12, 48, tyX12, rfl, by decide, Tb_mem 954 (by decide +kernel) (by decide +kernel), in_X12, tyX12_ok, nmX12, rfl, rfl, rfl, fun h => by cases h⟩
theorem ff_X12_83 : FF RX12 83 11 32 true := ⟨RX12, TX12, 48, tyX12, rfl, by decide, Tb_mem 955 (by decide +kernel) (by decide +kernel), in_X12, tyX12_ok, nmX12, rfl, rfl, rfl, fun h => by cases h⟩
theorem ff_X12_86 : FF RX12 86 11 34 true := ⟨RX12, TX12, 48, tyX12, rfl, by decide, Tb_mem 957 (by decide +kernel) (by decide +kernel), in_X12, tyX12_ok, nmX12, rfl, rfl, rfl, fun h => by cases h⟩
theorem ff_X12_89 : FF RX12 89 11 39 true := ⟨RX12, TX12, 48, tyX12, rfl, by decide, Tb_mem 962 (by decide +kernel) (by decide +kernel), in_X12, tyX12_ok, nmX12, rfl, rfl, rfl, fun h => by cases h⟩
theorem ff_X12_92 : FF RX12 92 11 40 true := ⟨RX12, TX12, 48, tyX12, rfl, by decide, Tb_mem 963 (by decide +kernel) (by decide +kernel), in_X12, tyX12_ok, nmX12, rfl, rfl, rfl, fun h => by cases h⟩
theorem ff_X12_95 : FF RX12 95 11 41 true := ⟨RX12, TX12, 48, tyX12, rfl, by decide, Tb_mem 964 (by decide +kernel) (by decide +kernel), in_X12, tyX12_ok, nmX12, rfl, rfl, rfl, fun h => by cases h⟩
theorem ff_X12_98 : FF RX12 98 11 43 true := ⟨RX12, TX12, 48, tyX12, rfl, by decide, Tb_mem 966 (by decide +kernel) (by decide +kernel), in_X12, tyX12_ok, nmX12, rfl, rfl, rfl, fun h => by cases h⟩
theorem ff_X12_101 : FF RX12 101 11 44 true := ⟨RX12, TX12, 48, tyX12, rfl, by decide, Tb_mem 967 (by decide +kernel) (by decide +kernel), in_X12, tyX12_ok, nmX12, rfl, rfl, rfl, fun h => by cases h⟩
theorem ff_X12_104 : FF RX12 104 11 45 true := ⟨RX12, TX12, 48, tyX12, rfl, by decide, Tb_mem 968 (by decide +kernel) (by decide +kernel), in_X12, tyX12_ok, nmX12, rfl, rfl, rfl, fun h => by cases h⟩
theorem ff_X12_107 : FF RX12 107 11 46 true := ⟨RX12, TX12, 48, tyX12, rfl, by decide, Tb_mem 969 (by decide +kernel) (by decide +kernel), in_X12, tyX12_ok, nmX12, rfl, rfl, rfl, fun h => by cases h⟩
theorem ff_X12_110 : FF RX12 110 11 47 true := ⟨RX12, TX12, 48, tyX12, rfl, by decide, Tb_mem 970 (by decide +kernel) (by decide +kernel), in_X12, tyX12_ok, nmX12, rfl, rfl, rfl, fun h => by cases h⟩
theorem mi_L_9 : MI R_law 9 yX11_init 0 := ⟨Tb_mem 91 (by decide +kernel) (by decide +kernel), Tb_mem 92 (by decide +kernel) (by decide +kernel), Tb_mem 72 (by decide +kernel) (by decide +kernel), rfl, ⟨by decide, by decide⟩, by decide +kernel⟩
theorem mn_X11_15 : MN RX11 15 yX1_init 0 := ⟨by unfold NWL; simp only [List.mem_cons]; repeat (first | (left; rfl) | right), Tb_mem 101 (by decide +kernel) (by decide +kernel), Tb_mem 73 (by decide +kernel) (by decide +kernel), rfl, ⟨by decide, by decide⟩, by decide +kernel⟩
theorem mi_X1_17 : MI RX1 17 yX9_init 2 := ⟨Tb_mem 106 (by decide +kernel) (by decide +kernel), Tb_mem 107 (by decide +kernel) (by decide +kernel), Tb_mem 74 (by decide +kernel) (by decide +kernel), rfl, ⟨by decide, by decide⟩, by decide +kernel⟩
theorem mi_X11_18 : MI RX11 18 yX5_init 1 := ⟨Tb_mem 163 (by decide +kernel) (by decide +kernel), Tb_mem 164 (by decide +kernel) (by decide +kernel), Tb_mem 76 (by decide +kernel) (by decide +kernel), rfl, ⟨by decide, by decide⟩, by decide +kernel⟩
theorem mn_X11_33 : MN RX11 33 yX10_init 0 := ⟨by unfold NWL; simp only [List.mem_cons]; repeat (first | (left; rfl) | right), Tb_mem 186 (by decide +kernel) (by decide +kernel), Tb_mem 77 (by decide +kernel) (by decide +kernel), rfl, ⟨by decide, by decide⟩, by decide +kernel⟩
theorem mi_X10_20 : MI RX10 20 yX5_init 1 := ⟨Tb_mem 190 (by decide +kernel) (by decide +kernel), Tb_mem 164 (by decide +kernel) (by decide +kernel), Tb_mem 76 (by decide +kernel) (by decide +kernel), rfl, ⟨by decide, by decide⟩, by decide +kernel⟩
theorem mn_X11_40 : MN RX11 40 yX2_init 0 := ⟨by unfold NWL; simp only [List.mem_cons]; repeat (first | (left; rfl) | right), Tb_mem 205 (by decide +kernel) (by decide +kernel), Tb_mem 78 (by decide +kernel) (by decide +kernel), rfl, ⟨by decide, by decide⟩, by decide +kernel⟩
theorem mi_X2_17 : MI RX2 17 yX5_init 1 := ⟨Tb_mem 209 (by decide +kernel) (by decide +kernel), Tb_mem 164 (by decide +kernel) (by decide +kernel), Tb_mem 76 (by decide +kernel) (by decide +kernel), rfl, ⟨by decide, by decide⟩, by decide +kernel⟩
theorem mi_X11_47 : MI RX11 47 yX0_init 1 := ⟨Tb_mem 230 (by decide +kernel) (by decide +kernel), Tb_mem 231 (by decide +kernel) (by decide +kernel), Tb_mem 79 (by decide +kernel) (by decide +kernel), rfl, ⟨by decide, by decide⟩, by decide +kernel⟩
theorem mi_X0_11 : MI RX0 11 yX9_init 2 := ⟨Tb_mem 235 (by decide +kernel) (by decide +kernel), Tb_mem 107 (by decide +kernel) (by decide +kernel), Tb_mem 74 (by decide +kernel) (by decide +kernel), rfl, ⟨by decide, by decide⟩, by decide +kernel⟩
theorem mn_X11_60 : MN RX11 60 yX6_init 0 := ⟨by unfold NWL; simp only [List.mem_cons]; repeat (first | (left; rfl) | right), Tb_mem 274 (by decide +kernel) (by decide +kernel), Tb_mem 80 (by decide +kernel) (by decide +kernel), rfl, ⟨by decide, by decide⟩, by decide +kernel⟩
theorem mn_X11_71 : MN RX11 71 yX8_init 0 := ⟨by unfold NWL; simp only [List.mem_cons]; repeat (first | (left; rfl) | right), Tb_mem 297 (by decide +kernel) (by decide +kernel), Tb_mem 81 (by decide +kernel) (by decide +kernel), rfl, ⟨by decide, by decide⟩, by decide +kernel⟩
theorem mi_X8_18 : MI RX8 18 yX5_init 1 := ⟨Tb_mem 302 (by decide +kernel) (by decide +kernel), Tb_mem 164 (by decide +kernel) (by decide +kernel), Tb_mem 76 (by decide +kernel) (by decide +kernel), rfl, ⟨by decide, by decide⟩, by decide +kernel⟩
theorem mn_X11_74 : MN RX11 74 yX3_init 0 := ⟨by unfold NWL; simp only [List.mem_cons]; repeat (first | (left; rfl) | right), Tb_mem 315 (by decide +kernel) (by decide +kernel), Tb_mem 82 (by decide +kernel) (by decide +kernel), rfl, ⟨by decide, by decide⟩, by decide +kernel⟩
theorem mi_X11_81 : MI RX11 81 yX4_init 1 := ⟨Tb_mem 345 (by decide +kernel) (by decide +kernel), Tb_mem 346 (by decide +kernel) (by decide +kernel), Tb_mem 83 (by decide +kernel) (by decide +kernel), rfl, ⟨by decide, by decide⟩, by decide +kernel⟩
theorem mi_L_12 : MI R_law 12 yX12_init 0 := ⟨Tb_mem 919 (by decide +kernel) (by decide +kernel), Tb_mem 920 (by decide +kernel) (by decide +kernel), Tb_mem 85 (by decide +kernel) (by decide +kernel), rfl, ⟨by decide, by decide⟩, by decide +kernel⟩
theorem ob_X11 : Cond.methodLink RX11 1 Lib.objectInit ∈ Tb := Tb_mem 94 (by decide +kernel) (by decide +kernel)
theorem ob_X1 : Cond.methodLink RX1 3 Lib.objectInit ∈ Tb := Tb_mem 103 (by decide +kernel) (by decide +kernel)
theorem ob_X9 : Cond.methodLink RX9 3 Lib.objectInit ∈ Tb := Tb_mem 109 (by decide +kernel) (by decide +kernel)
theorem ob_X5 : Cond.methodLink RX5 3 Lib.objectInit ∈ Tb := Tb_mem 166 (by decide +kernel) (by decide +kernel)
theorem ob_X10 : Cond.methodLink RX10 3 Lib.objectInit ∈ Tb := Tb_mem 188 (by decide +kernel) (by decide +kernel)
theorem ob_X2 : Cond.methodLink RX2 3 Lib.objectInit ∈ Tb := Tb_mem 207 (by decide +kernel) (by decide +kernel)
theorem ob_X0 : Cond.methodLink RX0 3 Lib.objectInit ∈ Tb := Tb_mem 233 (by decide +kernel) (by decide +kernel)
theorem ob_X6 : Cond.methodLink RX6 3 Lib.objectInit ∈ Tb := Tb_mem 276 (by decide +kernel) (by decide +kernel)
theorem ob_X8 : Cond.methodLink RX8 3 Lib.objectInit ∈ Tb := Tb_mem 299 (by decide +kernel) (by decide +kernel)
theorem ob_X3 : Cond.methodLink RX3 3 Lib.objectInit ∈ Tb := Tb_mem 317 (by decide +kernel) (by decide +kernel)
theorem ob_X4 : Cond.methodLink RX4 3 Lib.objectInit ∈ Tb := Tb_mem 348 (by decide +kernel) (by decide +kernel)
theorem ob_X12 : Cond.methodLink RX12 1 Lib.objectInit ∈ Tb := Tb_mem 922 (by decide +kernel) (by decide +kernel)
theorem cl_X11_9 : Cond.classLink RX11 9 "DotWar$Code" ∈ Tb := Tb_mem 97 (by decide +kernel) (by decide +kernel)
theorem cl_X0_20 : Cond.classLink RX0 20 "[[I" ∈ Tb := Tb_mem 236 (by decide +kernel) (by decide +kernel)
theorem cl_X11_54 : Cond.classLink RX11 54 "DotWar$Reader" ∈ Tb := Tb_mem 270 (by decide +kernel) (by decide +kernel)
theorem cl_X11_65 : Cond.classLink RX11 65 "DotWar$School" ∈ Tb := Tb_mem 293 (by decide +kernel) (by decide +kernel)
theorem cl_X8_9 : Cond.classLink RX8 9 "[[I" ∈ Tb := Tb_mem 300 (by decide +kernel) (by decide +kernel)
theorem n_st {E : EE} {X : XX} {R : Room} {Q : State → Prop} {b n pc cells slots : Nat} {ls : List (Option Value)} {st st' : List Value} {xs : List va_E} (h : st = st') (k : JN E X R Q b n pc ls st' xs cells slots) : JN E X R Q b n pc ls st xs cells slots := h ▸ k
theorem mul_len (E : EE) (b N M : Nat) : (mulL E b N M).length = N + 1 := by unfold mulL; rw [List.length_cons, List.length_replicate]
def padL (E : EE) (b : Nat) (a : Nat) : List va_E := (.inr (5, [.ref (b + 1), iv 0])) :: ([aI E a])
theorem pad_len (E : EE) (b : Nat) (a : Nat) : (padL E b a).length = 2 := by unfold padL; simp only [List.length_append, List.length_cons, List.length_nil, mul_len]
set_option maxHeartbeats 4000000 in
set_option maxRecDepth 100000 in
theorem nX5_init (E : EE) (b : Nat) (a : Nat) (h_a : a ≤ 5000) : CN E 1 1 a yX5_init [.ref b, iv ((a : Nat) : Int)] b [.inr (5, [.null, iv 0])] (padL E b a) := by
  refine CN.ofJ (own := RX5) (ls := [some (.ref b), some (iv ((a : Nat) : Int))]) (by decide) rfl rfl cw_X5_init (by decide) (by rw [pad_len]; rfl) (Nat.le_of_ble_eq_true rfl) (by decide) rfl (fun X G hin hend => ?_)
  refine n_aload_n G dX5_init_0 rfl ?_
  refine n_obj G ob_X5 dX5_init_1 (by show 1 ≤ 1; decide) (by show 20 ≤ 64 * 1; decide) (Nat.le_of_ble_eq_true rfl) ?_
  refine n_aload_n G dX5_init_4 rfl ?_
  refine n_iload_n G dX5_init_5 rfl ?_
  refine n_iconst G dX5_init_6 ?_
  refine n_max G ms_X5_9 dX5_init_7 (by omega) (by omega) (by show 1 ≤ 1; decide) (by show 21 ≤ 64 * 1; decide) (by show _ ≤ 1; omega) (by show _ ≤ a; omega) (Nat.le_of_ble_eq_true rfl) ?_
  refine n_st (st' := [iv ((a : Nat) : Int), .ref b]) (by rw [Int.max_eq_left (by omega)]) ?_
  refine n_newa (N := a) (L := 1) (xs' := (.inr (5, [.null, iv 0])) :: ([aI E a])) (c2 := 1) (s2 := a) G rfl (by omega) dX5_init_10 (by simp only [List.length_append, List.length_cons, List.length_nil, pad_len, mul_len] <;> omega) (by simp only [List.append_assoc, List.cons_append, List.nil_append, List.singleton_append]) (by omega) (by omega) (by show _ ≤ 1; omega) (by show _ ≤ a; omega) ?_
  refine n_putF (k := 0) (xs' := (.inr (5, [.ref (b + 1), iv 0])) :: ([aI E a])) G ff_X5_15 hin dX5_init_12 rfl (Nat.le_of_ble_eq_true rfl) rfl ?_
  refine n_aload_n G dX5_init_15 rfl ?_
  refine n_iconst G dX5_init_16 ?_
  refine n_puti (k := 0) (xs' := (.inr (5, [.ref (b + 1), iv 0])) :: ([aI E a])) G fp_X5_21 dX5_init_17 rfl (Nat.le_of_ble_eq_true rfl) rfl ?_
  exact hend _ _ dX5_init_20
def texL (E : EE) (b : Nat) (a w : Nat) : List va_E := (.inr (8, [iv ((w : Nat) : Int), .ref (b + 1), .ref (b + 2), iv 0])) :: ([aI E (a * w), aI E a])
theorem tex_len (E : EE) (b : Nat) (a w : Nat) : (texL E b a w).length = 3 := by unfold texL; simp only [List.length_append, List.length_cons, List.length_nil, pad_len, mul_len]
set_option maxHeartbeats 4000000 in
set_option maxRecDepth 100000 in
theorem nX9_init (E : EE) (b : Nat) (a w : Nat) (h_a : a ≤ 4000) (h_b : w ≤ 4000) (h_w : a * w ≤ 5000) : CN E 1 2 (a * w + a) yX9_init [.ref b, iv ((a : Nat) : Int), iv ((w : Nat) : Int)] b [.inr (8, [iv 0, .null, .null, iv 0])] (texL E b a w) := by
  refine CN.ofJ (own := RX9) (ls := [some (.ref b), some (iv ((a : Nat) : Int)), some (iv ((w : Nat) : Int))]) (by decide) rfl rfl cw_X9_init (by decide) (by rw [tex_len]; rfl) (Nat.le_of_ble_eq_true rfl) (by decide) rfl (fun X G hin hend => ?_)
  refine n_aload_n G dX9_init_0 rfl ?_
  refine n_obj G ob_X9 dX9_init_1 (by show 1 ≤ 1; decide) (by show 20 ≤ 64 * 1; decide) (Nat.le_of_ble_eq_true rfl) ?_
  refine n_aload_n G dX9_init_4 rfl ?_
  refine n_iload_n G dX9_init_5 rfl ?_
  refine n_iconst G dX9_init_6 ?_
  refine n_max G ms_X9_9 dX9_init_7 (by omega) (by omega) (by show 1 ≤ 1; decide) (by show 21 ≤ 64 * 1; decide) (by show _ ≤ 2; omega) (by show _ ≤ a * w + a; omega) (Nat.le_of_ble_eq_true rfl) ?_
  refine n_st (st' := [iv ((w : Nat) : Int), .ref b]) (by rw [Int.max_eq_left (by omega)]) ?_
  refine n_putFi (k := 0) (xs' := [.inr (8, [iv ((w : Nat) : Int), .null, .null, iv 0])]) G ff_X9_15 hin dX9_init_10 rfl (Nat.le_of_ble_eq_true rfl) rfl ?_
  refine n_aload_n G dX9_init_13 rfl ?_
  refine n_iload_n G dX9_init_14 rfl ?_
  refine n_iconst G dX9_init_15 ?_
  refine n_max G ms_X9_9 dX9_init_16 (by omega) (by omega) (by show 1 ≤ 1; decide) (by show 21 ≤ 64 * 1; decide) (by show _ ≤ 2; omega) (by show _ ≤ a * w + a; omega) (Nat.le_of_ble_eq_true rfl) ?_
  refine n_st (st' := [iv ((a : Nat) : Int), .ref b]) (by rw [Int.max_eq_left (by omega)]) ?_
  refine n_aload_n G dX9_init_19 rfl ?_
  refine n_get (k := 0) G fl_X9_15 dX9_init_20 rfl rfl ?_
  refine n_imul G dX9_init_23 ?_
  refine n_newa (N := a * w) (L := 1) (xs' := (.inr (8, [iv ((w : Nat) : Int), .null, .null, iv 0])) :: ([aI E (a * w)])) (c2 := 1) (s2 := a * w) G (Int.natCast_mul _ _).symm (by omega) dX9_init_24 (by simp only [List.length_append, List.length_cons, List.length_nil, pad_len, tex_len, mul_len] <;> omega) (by simp only [List.append_assoc, List.cons_append, List.nil_append, List.singleton_append]) (by omega) (by omega) (by show _ ≤ 2; omega) (by show _ ≤ a * w + a; omega) ?_
  refine n_putF (k := 0) (xs' := (.inr (8, [iv ((w : Nat) : Int), .ref (b + 1), .null, iv 0])) :: ([aI E (a * w)])) G ff_X9_21 hin dX9_init_26 rfl (Nat.le_of_ble_eq_true rfl) rfl ?_
  refine n_aload_n G dX9_init_29 rfl ?_
  refine n_iload_n G dX9_init_30 rfl ?_
  refine n_iconst G dX9_init_31 ?_
  refine n_max G ms_X9_9 dX9_init_32 (by omega) (by omega) (by show 1 ≤ 1; decide) (by show 21 ≤ 64 * 1; decide) (by show _ ≤ 2; omega) (by show _ ≤ a * w + a; omega) (Nat.le_of_ble_eq_true rfl) ?_
  refine n_st (st' := [iv ((a : Nat) : Int), .ref b]) (by rw [Int.max_eq_left (by omega)]) ?_
  refine n_newa (N := a) (L := 2) (xs' := (.inr (8, [iv ((w : Nat) : Int), .ref (b + 1), .null, iv 0])) :: ([aI E (a * w), aI E a])) (c2 := 2) (s2 := a * w + a) G rfl (by omega) dX9_init_35 (by simp only [List.length_append, List.length_cons, List.length_nil, pad_len, tex_len, mul_len] <;> omega) (by simp only [List.append_assoc, List.cons_append, List.nil_append, List.singleton_append]) (by omega) (by omega) (by show _ ≤ 2; omega) (by show _ ≤ a * w + a; omega) ?_
  refine n_putF (k := 0) (xs' := (.inr (8, [iv ((w : Nat) : Int), .ref (b + 1), .ref (b + 2), iv 0])) :: ([aI E (a * w), aI E a])) G ff_X9_25 hin dX9_init_37 rfl (Nat.le_of_ble_eq_true rfl) rfl ?_
  refine n_aload_n G dX9_init_40 rfl ?_
  refine n_iconst G dX9_init_41 ?_
  refine n_puti (k := 0) (xs' := (.inr (8, [iv ((w : Nat) : Int), .ref (b + 1), .ref (b + 2), iv 0])) :: ([aI E (a * w), aI E a])) G fp_X9_28 dX9_init_42 rfl (Nat.le_of_ble_eq_true rfl) rfl ?_
  exact hend _ _ dX9_init_45
def codL (E : EE) (b : Nat) : List va_E := (.inr (1, [.ref (b + 1), .ref (b + 2), .ref (b + 5), .ref (b + 6)])) :: ([aI E 26] ++ (texL E (b + 2) 12 4 ++ ([aI E 12, aI E 12])))
theorem cod_len (E : EE) (b : Nat) : (codL E b).length = 7 := by unfold codL; simp only [List.length_append, List.length_cons, List.length_nil, pad_len, tex_len, mul_len]
set_option maxHeartbeats 4000000 in
set_option maxRecDepth 100000 in
theorem nX1_init (E : EE) (b : Nat) : CN E 2 6 114 yX1_init [.ref b] b [.inr (1, [.null, .null, .null, .null])] (codL E b) := by
  refine CN.ofJ (own := RX1) (ls := [some (.ref b)]) (by decide) rfl rfl cw_X1_init (by decide) (by rw [cod_len]; rfl) (Nat.le_of_ble_eq_true rfl) (by decide) rfl (fun X G hin hend => ?_)
  refine n_aload_n G dX1_init_0 rfl ?_
  refine n_obj G ob_X1 dX1_init_1 (by show 1 ≤ 2; decide) (by show 20 ≤ 64 * 2; decide) (Nat.le_of_ble_eq_true rfl) ?_
  refine n_aload_n G dX1_init_4 rfl ?_
  refine n_bipush G dX1_init_5 (by decide) ?_
  refine n_newa (N := 26) (L := 1) (xs' := (.inr (1, [.null, .null, .null, .null])) :: ([aI E 26])) (c2 := 1) (s2 := 26) G rfl (by decide) dX1_init_7 (by simp only [List.length_append, List.length_cons, List.length_nil, pad_len, tex_len, mul_len, cod_len] <;> omega) (by simp only [List.append_assoc, List.cons_append, List.nil_append, List.singleton_append]) (by omega) (by omega) (by show _ ≤ 6; omega) (by show _ ≤ 114; omega) ?_
  refine n_putF (k := 0) (xs' := (.inr (1, [.ref (b + 1), .null, .null, .null])) :: ([aI E 26])) G ff_X1_9 hin dX1_init_9 rfl (Nat.le_of_ble_eq_true rfl) rfl ?_
  refine n_aload_n G dX1_init_12 rfl ?_
  refine n_new (L := 2) (xs' := (.inr (1, [.ref (b + 1), .null, .null, .null])) :: ([aI E 26, .inr (8, [iv 0, .null, .null, iv 0])])) (c2 := 2) (s2 := 30) G no_X1_15 dX1_init_13 (by simp only [List.length_append, List.length_cons, List.length_nil, pad_len, tex_len, mul_len, cod_len] <;> omega) (by simp only [List.append_assoc, List.cons_append, List.nil_append, List.singleton_append]) (by omega) (by omega) (by show _ ≤ 6; omega) (by show _ ≤ 114; omega) ?_
  refine n_dup G dX1_init_16 rfl ?_
  refine n_bipush G dX1_init_17 (by decide) ?_
  refine n_iconst G dX1_init_19 ?_
  refine n_callC (L := 2) (xs0 := (.inr (1, [.ref (b + 1), .null, .null, .null])) :: ([aI E 26])) (As := [iv 12, iv 4]) (xs' := (.inr (1, [.ref (b + 1), .null, .null, .null])) :: ([aI E 26] ++ (texL E (b + 2) 12 4))) (c2 := 4) (s2 := 90) G (Or.inl mi_X1_17) dX1_init_20 (nX9_init E (b + 2) 12 4 (by decide) (by decide) (by decide)) (by simp only [List.append_assoc, List.cons_append, List.nil_append, List.singleton_append]) (by simp only [List.length_append, List.length_cons, List.length_nil, pad_len, tex_len, mul_len, cod_len] <;> omega) rfl rfl (Nat.le_of_ble_eq_true rfl) (by show 1 + 1 ≤ 2; decide) (by show 64 * 1 + 59 ≤ 64 * 2; decide) (by omega) (by omega) (by show _ ≤ 6; omega) (by show _ ≤ 114; omega) (by simp only [List.append_assoc, List.cons_append, List.nil_append, List.singleton_append]) ?_
  refine n_putF (k := 0) (xs' := (.inr (1, [.ref (b + 1), .ref (b + 2), .null, .null])) :: ([aI E 26] ++ (texL E (b + 2) 12 4))) G ff_X1_20 hin dX1_init_23 rfl (Nat.le_of_ble_eq_true rfl) rfl ?_
  refine n_aload_n G dX1_init_26 rfl ?_
  refine n_bipush G dX1_init_27 (by decide) ?_
  refine n_newa (N := 12) (L := 5) (xs' := (.inr (1, [.ref (b + 1), .ref (b + 2), .null, .null])) :: ([aI E 26] ++ (texL E (b + 2) 12 4 ++ ([aI E 12])))) (c2 := 5) (s2 := 102) G rfl (by decide) dX1_init_29 (by simp only [List.length_append, List.length_cons, List.length_nil, pad_len, tex_len, mul_len, cod_len] <;> omega) (by simp only [List.append_assoc, List.cons_append, List.nil_append, List.singleton_append]) (by omega) (by omega) (by show _ ≤ 6; omega) (by show _ ≤ 114; omega) ?_
  refine n_putF (k := 0) (xs' := (.inr (1, [.ref (b + 1), .ref (b + 2), .ref (b + 5), .null])) :: ([aI E 26] ++ (texL E (b + 2) 12 4 ++ ([aI E 12])))) G ff_X1_24 hin dX1_init_31 rfl (Nat.le_of_ble_eq_true rfl) rfl ?_
  refine n_aload_n G dX1_init_34 rfl ?_
  refine n_bipush G dX1_init_35 (by decide) ?_
  refine n_newa (N := 12) (L := 6) (xs' := (.inr (1, [.ref (b + 1), .ref (b + 2), .ref (b + 5), .null])) :: ([aI E 26] ++ (texL E (b + 2) 12 4 ++ ([aI E 12, aI E 12])))) (c2 := 6) (s2 := 114) G rfl (by decide) dX1_init_37 (by simp only [List.length_append, List.length_cons, List.length_nil, pad_len, tex_len, mul_len, cod_len] <;> omega) (by simp only [List.append_assoc, List.cons_append, List.nil_append, List.singleton_append]) (by omega) (by omega) (by show _ ≤ 6; omega) (by show _ ≤ 114; omega) ?_
  refine n_putF (k := 0) (xs' := (.inr (1, [.ref (b + 1), .ref (b + 2), .ref (b + 5), .ref (b + 6)])) :: ([aI E 26] ++ (texL E (b + 2) 12 4 ++ ([aI E 12, aI E 12])))) G ff_X1_27 hin dX1_init_39 rfl (Nat.le_of_ble_eq_true rfl) rfl ?_
  exact hend _ _ dX1_init_42
def wriL (E : EE) (b : Nat) : List va_E := (.inr (9, [.ref (b + 1), .ref (b + 2), .ref (b + 3)])) :: ([aI E 11, aI E 11] ++ (padL E (b + 3) 20))
theorem wri_len (E : EE) (b : Nat) : (wriL E b).length = 5 := by unfold wriL; simp only [List.length_append, List.length_cons, List.length_nil, pad_len, tex_len, mul_len, cod_len]
set_option maxHeartbeats 4000000 in
set_option maxRecDepth 100000 in
theorem nX10_init (E : EE) (b : Nat) : CN E 2 4 44 yX10_init [.ref b] b [.inr (9, [.null, .null, .null])] (wriL E b) := by
  refine CN.ofJ (own := RX10) (ls := [some (.ref b)]) (by decide) rfl rfl cw_X10_init (by decide) (by rw [wri_len]; rfl) (Nat.le_of_ble_eq_true rfl) (by decide) rfl (fun X G hin hend => ?_)
  refine n_aload_n G dX10_init_0 rfl ?_
  refine n_obj G ob_X10 dX10_init_1 (by show 1 ≤ 2; decide) (by show 20 ≤ 64 * 2; decide) (Nat.le_of_ble_eq_true rfl) ?_
  refine n_aload_n G dX10_init_4 rfl ?_
  refine n_bipush G dX10_init_5 (by decide) ?_
  refine n_newa (N := 11) (L := 1) (xs' := (.inr (9, [.null, .null, .null])) :: ([aI E 11])) (c2 := 1) (s2 := 11) G rfl (by decide) dX10_init_7 (by simp only [List.length_append, List.length_cons, List.length_nil, pad_len, tex_len, mul_len, cod_len, wri_len] <;> omega) (by simp only [List.append_assoc, List.cons_append, List.nil_append, List.singleton_append]) (by omega) (by omega) (by show _ ≤ 4; omega) (by show _ ≤ 44; omega) ?_
  refine n_putF (k := 0) (xs' := (.inr (9, [.ref (b + 1), .null, .null])) :: ([aI E 11])) G ff_X10_9 hin dX10_init_9 rfl (Nat.le_of_ble_eq_true rfl) rfl ?_
  refine n_aload_n G dX10_init_12 rfl ?_
  refine n_bipush G dX10_init_13 (by decide) ?_
  refine n_newa (N := 11) (L := 2) (xs' := (.inr (9, [.ref (b + 1), .null, .null])) :: ([aI E 11, aI E 11])) (c2 := 2) (s2 := 22) G rfl (by decide) dX10_init_15 (by simp only [List.length_append, List.length_cons, List.length_nil, pad_len, tex_len, mul_len, cod_len, wri_len] <;> omega) (by simp only [List.append_assoc, List.cons_append, List.nil_append, List.singleton_append]) (by omega) (by omega) (by show _ ≤ 4; omega) (by show _ ≤ 44; omega) ?_
  refine n_putF (k := 0) (xs' := (.inr (9, [.ref (b + 1), .ref (b + 2), .null])) :: ([aI E 11, aI E 11])) G ff_X10_15 hin dX10_init_17 rfl (Nat.le_of_ble_eq_true rfl) rfl ?_
  refine n_aload_n G dX10_init_20 rfl ?_
  refine n_new (L := 3) (xs' := (.inr (9, [.ref (b + 1), .ref (b + 2), .null])) :: ([aI E 11, aI E 11, .inr (5, [.null, iv 0])])) (c2 := 3) (s2 := 24) G no_X10_18 dX10_init_21 (by simp only [List.length_append, List.length_cons, List.length_nil, pad_len, tex_len, mul_len, cod_len, wri_len] <;> omega) (by simp only [List.append_assoc, List.cons_append, List.nil_append, List.singleton_append]) (by omega) (by omega) (by show _ ≤ 4; omega) (by show _ ≤ 44; omega) ?_
  refine n_dup G dX10_init_24 rfl ?_
  refine n_bipush G dX10_init_25 (by decide) ?_
  refine n_callC (L := 3) (xs0 := (.inr (9, [.ref (b + 1), .ref (b + 2), .null])) :: ([aI E 11, aI E 11])) (As := [iv 20]) (xs' := (.inr (9, [.ref (b + 1), .ref (b + 2), .null])) :: ([aI E 11, aI E 11] ++ (padL E (b + 3) 20))) (c2 := 4) (s2 := 44) G (Or.inl mi_X10_20) dX10_init_27 (nX5_init E (b + 3) 20 (by decide)) (by simp only [List.append_assoc, List.cons_append, List.nil_append, List.singleton_append]) (by simp only [List.length_append, List.length_cons, List.length_nil, pad_len, tex_len, mul_len, cod_len, wri_len] <;> omega) rfl rfl (Nat.le_of_ble_eq_true rfl) (by show 1 + 1 ≤ 2; decide) (by show 64 * 1 + 59 ≤ 64 * 2; decide) (by omega) (by omega) (by show _ ≤ 4; omega) (by show _ ≤ 44; omega) (by simp only [List.append_assoc, List.cons_append, List.nil_append, List.singleton_append]) ?_
  refine n_putF (k := 0) (xs' := (.inr (9, [.ref (b + 1), .ref (b + 2), .ref (b + 3)])) :: ([aI E 11, aI E 11] ++ (padL E (b + 3) 20))) G ff_X10_23 hin dX10_init_30 rfl (Nat.le_of_ble_eq_true rfl) rfl ?_
  exact hend _ _ dX10_init_33
def decL (E : EE) (b : Nat) : List va_E := (.inr (2, [.ref (b + 1), .ref (b + 2), .ref (b + 4), .ref (b + 5), .ref (b + 6)])) :: ([aI E 13] ++ (padL E (b + 2) 48 ++ ([aI E 64, aI E 64] ++ (padL E (b + 6) 14))))
theorem dec_len (E : EE) (b : Nat) : (decL E b).length = 8 := by unfold decL; simp only [List.length_append, List.length_cons, List.length_nil, pad_len, tex_len, mul_len, cod_len, wri_len]
set_option maxHeartbeats 4000000 in
set_option maxRecDepth 100000 in
theorem nX2_init (E : EE) (b : Nat) : CN E 2 7 207 yX2_init [.ref b] b [.inr (2, [.null, .null, .null, .null, .null])] (decL E b) := by
  refine CN.ofJ (own := RX2) (ls := [some (.ref b)]) (by decide) rfl rfl cw_X2_init (by decide) (by rw [dec_len]; rfl) (Nat.le_of_ble_eq_true rfl) (by decide) rfl (fun X G hin hend => ?_)
  refine n_aload_n G dX2_init_0 rfl ?_
  refine n_obj G ob_X2 dX2_init_1 (by show 1 ≤ 2; decide) (by show 20 ≤ 64 * 2; decide) (Nat.le_of_ble_eq_true rfl) ?_
  refine n_aload_n G dX2_init_4 rfl ?_
  refine n_bipush G dX2_init_5 (by decide) ?_
  refine n_newa (N := 13) (L := 1) (xs' := (.inr (2, [.null, .null, .null, .null, .null])) :: ([aI E 13])) (c2 := 1) (s2 := 13) G rfl (by decide) dX2_init_7 (by simp only [List.length_append, List.length_cons, List.length_nil, pad_len, tex_len, mul_len, cod_len, wri_len, dec_len] <;> omega) (by simp only [List.append_assoc, List.cons_append, List.nil_append, List.singleton_append]) (by omega) (by omega) (by show _ ≤ 7; omega) (by show _ ≤ 207; omega) ?_
  refine n_putF (k := 0) (xs' := (.inr (2, [.ref (b + 1), .null, .null, .null, .null])) :: ([aI E 13])) G ff_X2_9 hin dX2_init_9 rfl (Nat.le_of_ble_eq_true rfl) rfl ?_
  refine n_aload_n G dX2_init_12 rfl ?_
  refine n_new (L := 2) (xs' := (.inr (2, [.ref (b + 1), .null, .null, .null, .null])) :: ([aI E 13, .inr (5, [.null, iv 0])])) (c2 := 2) (s2 := 15) G no_X2_15 dX2_init_13 (by simp only [List.length_append, List.length_cons, List.length_nil, pad_len, tex_len, mul_len, cod_len, wri_len, dec_len] <;> omega) (by simp only [List.append_assoc, List.cons_append, List.nil_append, List.singleton_append]) (by omega) (by omega) (by show _ ≤ 7; omega) (by show _ ≤ 207; omega) ?_
  refine n_dup G dX2_init_16 rfl ?_
  refine n_bipush G dX2_init_17 (by decide) ?_
  refine n_callC (L := 2) (xs0 := (.inr (2, [.ref (b + 1), .null, .null, .null, .null])) :: ([aI E 13])) (As := [iv 48]) (xs' := (.inr (2, [.ref (b + 1), .null, .null, .null, .null])) :: ([aI E 13] ++ (padL E (b + 2) 48))) (c2 := 3) (s2 := 63) G (Or.inl mi_X2_17) dX2_init_19 (nX5_init E (b + 2) 48 (by decide)) (by simp only [List.append_assoc, List.cons_append, List.nil_append, List.singleton_append]) (by simp only [List.length_append, List.length_cons, List.length_nil, pad_len, tex_len, mul_len, cod_len, wri_len, dec_len] <;> omega) rfl rfl (Nat.le_of_ble_eq_true rfl) (by show 1 + 1 ≤ 2; decide) (by show 64 * 1 + 59 ≤ 64 * 2; decide) (by omega) (by omega) (by show _ ≤ 7; omega) (by show _ ≤ 207; omega) (by simp only [List.append_assoc, List.cons_append, List.nil_append, List.singleton_append]) ?_
  refine n_putF (k := 0) (xs' := (.inr (2, [.ref (b + 1), .ref (b + 2), .null, .null, .null])) :: ([aI E 13] ++ (padL E (b + 2) 48))) G ff_X2_20 hin dX2_init_22 rfl (Nat.le_of_ble_eq_true rfl) rfl ?_
  refine n_aload_n G dX2_init_25 rfl ?_
  refine n_bipush G dX2_init_26 (by decide) ?_
  refine n_newa (N := 64) (L := 4) (xs' := (.inr (2, [.ref (b + 1), .ref (b + 2), .null, .null, .null])) :: ([aI E 13] ++ (padL E (b + 2) 48 ++ ([aI E 64])))) (c2 := 4) (s2 := 127) G rfl (by decide) dX2_init_28 (by simp only [List.length_append, List.length_cons, List.length_nil, pad_len, tex_len, mul_len, cod_len, wri_len, dec_len] <;> omega) (by simp only [List.append_assoc, List.cons_append, List.nil_append, List.singleton_append]) (by omega) (by omega) (by show _ ≤ 7; omega) (by show _ ≤ 207; omega) ?_
  refine n_putF (k := 0) (xs' := (.inr (2, [.ref (b + 1), .ref (b + 2), .ref (b + 4), .null, .null])) :: ([aI E 13] ++ (padL E (b + 2) 48 ++ ([aI E 64])))) G ff_X2_24 hin dX2_init_30 rfl (Nat.le_of_ble_eq_true rfl) rfl ?_
  refine n_aload_n G dX2_init_33 rfl ?_
  refine n_bipush G dX2_init_34 (by decide) ?_
  refine n_newa (N := 64) (L := 5) (xs' := (.inr (2, [.ref (b + 1), .ref (b + 2), .ref (b + 4), .null, .null])) :: ([aI E 13] ++ (padL E (b + 2) 48 ++ ([aI E 64, aI E 64])))) (c2 := 5) (s2 := 191) G rfl (by decide) dX2_init_36 (by simp only [List.length_append, List.length_cons, List.length_nil, pad_len, tex_len, mul_len, cod_len, wri_len, dec_len] <;> omega) (by simp only [List.append_assoc, List.cons_append, List.nil_append, List.singleton_append]) (by omega) (by omega) (by show _ ≤ 7; omega) (by show _ ≤ 207; omega) ?_
  refine n_putF (k := 0) (xs' := (.inr (2, [.ref (b + 1), .ref (b + 2), .ref (b + 4), .ref (b + 5), .null])) :: ([aI E 13] ++ (padL E (b + 2) 48 ++ ([aI E 64, aI E 64])))) G ff_X2_27 hin dX2_init_38 rfl (Nat.le_of_ble_eq_true rfl) rfl ?_
  refine n_aload_n G dX2_init_41 rfl ?_
  refine n_new (L := 6) (xs' := (.inr (2, [.ref (b + 1), .ref (b + 2), .ref (b + 4), .ref (b + 5), .null])) :: ([aI E 13] ++ (padL E (b + 2) 48 ++ ([aI E 64, aI E 64, .inr (5, [.null, iv 0])])))) (c2 := 6) (s2 := 193) G no_X2_15 dX2_init_42 (by simp only [List.length_append, List.length_cons, List.length_nil, pad_len, tex_len, mul_len, cod_len, wri_len, dec_len] <;> omega) (by simp only [List.append_assoc, List.cons_append, List.nil_append, List.singleton_append]) (by omega) (by omega) (by show _ ≤ 7; omega) (by show _ ≤ 207; omega) ?_
  refine n_dup G dX2_init_45 rfl ?_
  refine n_bipush G dX2_init_46 (by decide) ?_
  refine n_callC (L := 6) (xs0 := (.inr (2, [.ref (b + 1), .ref (b + 2), .ref (b + 4), .ref (b + 5), .null])) :: ([aI E 13] ++ (padL E (b + 2) 48 ++ ([aI E 64, aI E 64])))) (As := [iv 14]) (xs' := (.inr (2, [.ref (b + 1), .ref (b + 2), .ref (b + 4), .ref (b + 5), .null])) :: ([aI E 13] ++ (padL E (b + 2) 48 ++ ([aI E 64, aI E 64] ++ (padL E (b + 6) 14))))) (c2 := 7) (s2 := 207) G (Or.inl mi_X2_17) dX2_init_48 (nX5_init E (b + 6) 14 (by decide)) (by simp only [List.append_assoc, List.cons_append, List.nil_append, List.singleton_append]) (by simp only [List.length_append, List.length_cons, List.length_nil, pad_len, tex_len, mul_len, cod_len, wri_len, dec_len] <;> omega) rfl rfl (Nat.le_of_ble_eq_true rfl) (by show 1 + 1 ≤ 2; decide) (by show 64 * 1 + 59 ≤ 64 * 2; decide) (by omega) (by omega) (by show _ ≤ 7; omega) (by show _ ≤ 207; omega) (by simp only [List.append_assoc, List.cons_append, List.nil_append, List.singleton_append]) ?_
  refine n_putF (k := 0) (xs' := (.inr (2, [.ref (b + 1), .ref (b + 2), .ref (b + 4), .ref (b + 5), .ref (b + 6)])) :: ([aI E 13] ++ (padL E (b + 2) 48 ++ ([aI E 64, aI E 64] ++ (padL E (b + 6) 14))))) G ff_X2_30 hin dX2_init_51 rfl (Nat.le_of_ble_eq_true rfl) rfl ?_
  exact hend _ _ dX2_init_54
def booL (E : EE) (b : Nat) (c : Nat) : List va_E := (.inr (0, [.ref c, .ref (b + 1), .ref (b + 4), .ref (b + 13), .ref (b + 14), .ref (b + 17), .ref (b + 18), .ref (b + 19), .ref (b + 20)])) :: (texL E (b + 1) 30 10 ++ (mulL E (b + 4) 8 30 ++ ([aI E 30] ++ (texL E (b + 14) 12 4 ++ ([aI E 50, aI E 11, aI E 4096, aI E 4096])))))
theorem boo_len (E : EE) (b : Nat) (c : Nat) : (booL E b c).length = 21 := by unfold booL; simp only [List.length_append, List.length_cons, List.length_nil, pad_len, tex_len, mul_len, cod_len, wri_len, dec_len]
set_option maxHeartbeats 4000000 in
set_option maxRecDepth 100000 in
theorem nX0_init (E : EE) (b : Nat) (c : Nat) : CN E 2 20 8929 yX0_init [.ref b, .ref c] b [.inr (0, [.null, .null, .null, .null, .null, .null, .null, .null, .null])] (booL E b c) := by
  refine CN.ofJ (own := RX0) (ls := [some (.ref b), some (.ref c)]) (by decide) rfl rfl cw_X0_init (by decide) (by rw [boo_len]; rfl) (Nat.le_of_ble_eq_true rfl) (by decide) rfl (fun X G hin hend => ?_)
  refine n_aload_n G dX0_init_0 rfl ?_
  refine n_obj G ob_X0 dX0_init_1 (by show 1 ≤ 2; decide) (by show 20 ≤ 64 * 2; decide) (Nat.le_of_ble_eq_true rfl) ?_
  refine n_aload_n G dX0_init_4 rfl ?_
  refine n_new (L := 1) (xs' := (.inr (0, [.null, .null, .null, .null, .null, .null, .null, .null, .null])) :: ([.inr (8, [iv 0, .null, .null, iv 0])])) (c2 := 1) (s2 := 4) G no_X0_9 dX0_init_5 (by simp only [List.length_append, List.length_cons, List.length_nil, pad_len, tex_len, mul_len, cod_len, wri_len, dec_len, boo_len] <;> omega) (by simp only [List.append_assoc, List.cons_append, List.nil_append, List.singleton_append]) (by omega) (by omega) (by show _ ≤ 20; omega) (by show _ ≤ 8929; omega) ?_
  refine n_dup G dX0_init_8 rfl ?_
  refine n_bipush G dX0_init_9 (by decide) ?_
  refine n_bipush G dX0_init_11 (by decide) ?_
  refine n_callC (L := 1) (xs0 := [.inr (0, [.null, .null, .null, .null, .null, .null, .null, .null, .null])]) (As := [iv 30, iv 10]) (xs' := (.inr (0, [.null, .null, .null, .null, .null, .null, .null, .null, .null])) :: (texL E (b + 1) 30 10)) (c2 := 3) (s2 := 334) G (Or.inl mi_X0_11) dX0_init_13 (nX9_init E (b + 1) 30 10 (by decide) (by decide) (by decide)) (by simp only [List.append_assoc, List.cons_append, List.nil_append, List.singleton_append]) (by simp only [List.length_append, List.length_cons, List.length_nil, pad_len, tex_len, mul_len, cod_len, wri_len, dec_len, boo_len] <;> omega) rfl rfl (Nat.le_of_ble_eq_true rfl) (by show 1 + 1 ≤ 2; decide) (by show 64 * 1 + 59 ≤ 64 * 2; decide) (by omega) (by omega) (by show _ ≤ 20; omega) (by show _ ≤ 8929; omega) (by simp only [List.append_assoc, List.cons_append, List.nil_append, List.singleton_append]) ?_
  refine n_putF (k := 0) (xs' := (.inr (0, [.null, .ref (b + 1), .null, .null, .null, .null, .null, .null, .null])) :: (texL E (b + 1) 30 10)) G ff_X0_14 hin dX0_init_16 rfl (Nat.le_of_ble_eq_true rfl) rfl ?_
  refine n_aload_n G dX0_init_19 rfl ?_
  refine n_bipush G dX0_init_20 (by decide) ?_
  refine n_bipush G dX0_init_22 (by decide) ?_
  refine n_multi (N := 8) (M := 30) (L := 4) (xs' := (.inr (0, [.null, .ref (b + 1), .null, .null, .null, .null, .null, .null, .null])) :: (texL E (b + 1) 30 10 ++ (mulL E (b + 4) 8 30))) (c2 := 12) (s2 := 582) G cl_X0_20 rfl rfl (by decide) (by decide) dX0_init_24 (by simp only [List.length_append, List.length_cons, List.length_nil, pad_len, tex_len, mul_len, cod_len, wri_len, dec_len, boo_len] <;> omega) (by simp only [List.append_assoc, List.cons_append, List.nil_append, List.singleton_append]) (by omega) (by omega) (by show _ ≤ 20; omega) (by show _ ≤ 8929; omega) ?_
  refine n_putF (k := 0) (xs' := (.inr (0, [.null, .ref (b + 1), .ref (b + 4), .null, .null, .null, .null, .null, .null])) :: (texL E (b + 1) 30 10 ++ (mulL E (b + 4) 8 30))) G ff_X0_22 hin dX0_init_28 rfl (Nat.le_of_ble_eq_true rfl) rfl ?_
  refine n_aload_n G dX0_init_31 rfl ?_
  refine n_bipush G dX0_init_32 (by decide) ?_
  refine n_newa (N := 30) (L := 13) (xs' := (.inr (0, [.null, .ref (b + 1), .ref (b + 4), .null, .null, .null, .null, .null, .null])) :: (texL E (b + 1) 30 10 ++ (mulL E (b + 4) 8 30 ++ ([aI E 30])))) (c2 := 13) (s2 := 612) G rfl (by decide) dX0_init_34 (by simp only [List.length_append, List.length_cons, List.length_nil, pad_len, tex_len, mul_len, cod_len, wri_len, dec_len, boo_len] <;> omega) (by simp only [List.append_assoc, List.cons_append, List.nil_append, List.singleton_append]) (by omega) (by omega) (by show _ ≤ 20; omega) (by show _ ≤ 8929; omega) ?_
  refine n_putF (k := 0) (xs' := (.inr (0, [.null, .ref (b + 1), .ref (b + 4), .ref (b + 13), .null, .null, .null, .null, .null])) :: (texL E (b + 1) 30 10 ++ (mulL E (b + 4) 8 30 ++ ([aI E 30])))) G ff_X0_25 hin dX0_init_36 rfl (Nat.le_of_ble_eq_true rfl) rfl ?_
  refine n_aload_n G dX0_init_39 rfl ?_
  refine n_new (L := 14) (xs' := (.inr (0, [.null, .ref (b + 1), .ref (b + 4), .ref (b + 13), .null, .null, .null, .null, .null])) :: (texL E (b + 1) 30 10 ++ (mulL E (b + 4) 8 30 ++ ([aI E 30, .inr (8, [iv 0, .null, .null, iv 0])])))) (c2 := 14) (s2 := 616) G no_X0_9 dX0_init_40 (by simp only [List.length_append, List.length_cons, List.length_nil, pad_len, tex_len, mul_len, cod_len, wri_len, dec_len, boo_len] <;> omega) (by simp only [List.append_assoc, List.cons_append, List.nil_append, List.singleton_append]) (by omega) (by omega) (by show _ ≤ 20; omega) (by show _ ≤ 8929; omega) ?_
  refine n_dup G dX0_init_43 rfl ?_
  refine n_bipush G dX0_init_44 (by decide) ?_
  refine n_iconst G dX0_init_46 ?_
  refine n_callC (L := 14) (xs0 := (.inr (0, [.null, .ref (b + 1), .ref (b + 4), .ref (b + 13), .null, .null, .null, .null, .null])) :: (texL E (b + 1) 30 10 ++ (mulL E (b + 4) 8 30 ++ ([aI E 30])))) (As := [iv 12, iv 4]) (xs' := (.inr (0, [.null, .ref (b + 1), .ref (b + 4), .ref (b + 13), .null, .null, .null, .null, .null])) :: (texL E (b + 1) 30 10 ++ (mulL E (b + 4) 8 30 ++ ([aI E 30] ++ (texL E (b + 14) 12 4))))) (c2 := 16) (s2 := 676) G (Or.inl mi_X0_11) dX0_init_47 (nX9_init E (b + 14) 12 4 (by decide) (by decide) (by decide)) (by simp only [List.append_assoc, List.cons_append, List.nil_append, List.singleton_append]) (by simp only [List.length_append, List.length_cons, List.length_nil, pad_len, tex_len, mul_len, cod_len, wri_len, dec_len, boo_len] <;> omega) rfl rfl (Nat.le_of_ble_eq_true rfl) (by show 1 + 1 ≤ 2; decide) (by show 64 * 1 + 59 ≤ 64 * 2; decide) (by omega) (by omega) (by show _ ≤ 20; omega) (by show _ ≤ 8929; omega) (by simp only [List.append_assoc, List.cons_append, List.nil_append, List.singleton_append]) ?_
  refine n_putF (k := 0) (xs' := (.inr (0, [.null, .ref (b + 1), .ref (b + 4), .ref (b + 13), .ref (b + 14), .null, .null, .null, .null])) :: (texL E (b + 1) 30 10 ++ (mulL E (b + 4) 8 30 ++ ([aI E 30] ++ (texL E (b + 14) 12 4))))) G ff_X0_29 hin dX0_init_50 rfl (Nat.le_of_ble_eq_true rfl) rfl ?_
  refine n_aload_n G dX0_init_53 rfl ?_
  refine n_bipush G dX0_init_54 (by decide) ?_
  refine n_newa (N := 50) (L := 17) (xs' := (.inr (0, [.null, .ref (b + 1), .ref (b + 4), .ref (b + 13), .ref (b + 14), .null, .null, .null, .null])) :: (texL E (b + 1) 30 10 ++ (mulL E (b + 4) 8 30 ++ ([aI E 30] ++ (texL E (b + 14) 12 4 ++ ([aI E 50])))))) (c2 := 17) (s2 := 726) G rfl (by decide) dX0_init_56 (by simp only [List.length_append, List.length_cons, List.length_nil, pad_len, tex_len, mul_len, cod_len, wri_len, dec_len, boo_len] <;> omega) (by simp only [List.append_assoc, List.cons_append, List.nil_append, List.singleton_append]) (by omega) (by omega) (by show _ ≤ 20; omega) (by show _ ≤ 8929; omega) ?_
  refine n_putF (k := 0) (xs' := (.inr (0, [.null, .ref (b + 1), .ref (b + 4), .ref (b + 13), .ref (b + 14), .ref (b + 17), .null, .null, .null])) :: (texL E (b + 1) 30 10 ++ (mulL E (b + 4) 8 30 ++ ([aI E 30] ++ (texL E (b + 14) 12 4 ++ ([aI E 50])))))) G ff_X0_32 hin dX0_init_58 rfl (Nat.le_of_ble_eq_true rfl) rfl ?_
  refine n_aload_n G dX0_init_61 rfl ?_
  refine n_bipush G dX0_init_62 (by decide) ?_
  refine n_newa (N := 11) (L := 18) (xs' := (.inr (0, [.null, .ref (b + 1), .ref (b + 4), .ref (b + 13), .ref (b + 14), .ref (b + 17), .null, .null, .null])) :: (texL E (b + 1) 30 10 ++ (mulL E (b + 4) 8 30 ++ ([aI E 30] ++ (texL E (b + 14) 12 4 ++ ([aI E 50, aI E 11])))))) (c2 := 18) (s2 := 737) G rfl (by decide) dX0_init_64 (by simp only [List.length_append, List.length_cons, List.length_nil, pad_len, tex_len, mul_len, cod_len, wri_len, dec_len, boo_len] <;> omega) (by simp only [List.append_assoc, List.cons_append, List.nil_append, List.singleton_append]) (by omega) (by omega) (by show _ ≤ 20; omega) (by show _ ≤ 8929; omega) ?_
  refine n_putF (k := 0) (xs' := (.inr (0, [.null, .ref (b + 1), .ref (b + 4), .ref (b + 13), .ref (b + 14), .ref (b + 17), .ref (b + 18), .null, .null])) :: (texL E (b + 1) 30 10 ++ (mulL E (b + 4) 8 30 ++ ([aI E 30] ++ (texL E (b + 14) 12 4 ++ ([aI E 50, aI E 11])))))) G ff_X0_35 hin dX0_init_66 rfl (Nat.le_of_ble_eq_true rfl) rfl ?_
  refine n_aload_n G dX0_init_69 rfl ?_
  refine n_sipush G dX0_init_70 (by decide) ?_
  refine n_newa (N := 4096) (L := 19) (xs' := (.inr (0, [.null, .ref (b + 1), .ref (b + 4), .ref (b + 13), .ref (b + 14), .ref (b + 17), .ref (b + 18), .null, .null])) :: (texL E (b + 1) 30 10 ++ (mulL E (b + 4) 8 30 ++ ([aI E 30] ++ (texL E (b + 14) 12 4 ++ ([aI E 50, aI E 11, aI E 4096])))))) (c2 := 19) (s2 := 4833) G rfl (by decide) dX0_init_73 (by simp only [List.length_append, List.length_cons, List.length_nil, pad_len, tex_len, mul_len, cod_len, wri_len, dec_len, boo_len] <;> omega) (by simp only [List.append_assoc, List.cons_append, List.nil_append, List.singleton_append]) (by omega) (by omega) (by show _ ≤ 20; omega) (by show _ ≤ 8929; omega) ?_
  refine n_putF (k := 0) (xs' := (.inr (0, [.null, .ref (b + 1), .ref (b + 4), .ref (b + 13), .ref (b + 14), .ref (b + 17), .ref (b + 18), .ref (b + 19), .null])) :: (texL E (b + 1) 30 10 ++ (mulL E (b + 4) 8 30 ++ ([aI E 30] ++ (texL E (b + 14) 12 4 ++ ([aI E 50, aI E 11, aI E 4096])))))) G ff_X0_38 hin dX0_init_75 rfl (Nat.le_of_ble_eq_true rfl) rfl ?_
  refine n_aload_n G dX0_init_78 rfl ?_
  refine n_sipush G dX0_init_79 (by decide) ?_
  refine n_newa (N := 4096) (L := 20) (xs' := (.inr (0, [.null, .ref (b + 1), .ref (b + 4), .ref (b + 13), .ref (b + 14), .ref (b + 17), .ref (b + 18), .ref (b + 19), .null])) :: (texL E (b + 1) 30 10 ++ (mulL E (b + 4) 8 30 ++ ([aI E 30] ++ (texL E (b + 14) 12 4 ++ ([aI E 50, aI E 11, aI E 4096, aI E 4096])))))) (c2 := 20) (s2 := 8929) G rfl (by decide) dX0_init_82 (by simp only [List.length_append, List.length_cons, List.length_nil, pad_len, tex_len, mul_len, cod_len, wri_len, dec_len, boo_len] <;> omega) (by simp only [List.append_assoc, List.cons_append, List.nil_append, List.singleton_append]) (by omega) (by omega) (by show _ ≤ 20; omega) (by show _ ≤ 8929; omega) ?_
  refine n_putF (k := 0) (xs' := (.inr (0, [.null, .ref (b + 1), .ref (b + 4), .ref (b + 13), .ref (b + 14), .ref (b + 17), .ref (b + 18), .ref (b + 19), .ref (b + 20)])) :: (texL E (b + 1) 30 10 ++ (mulL E (b + 4) 8 30 ++ ([aI E 30] ++ (texL E (b + 14) 12 4 ++ ([aI E 50, aI E 11, aI E 4096, aI E 4096])))))) G ff_X0_41 hin dX0_init_84 rfl (Nat.le_of_ble_eq_true rfl) rfl ?_
  refine n_aload_n G dX0_init_87 rfl ?_
  refine n_aload_n G dX0_init_88 rfl ?_
  refine n_putF (k := 0) (xs' := (.inr (0, [.ref c, .ref (b + 1), .ref (b + 4), .ref (b + 13), .ref (b + 14), .ref (b + 17), .ref (b + 18), .ref (b + 19), .ref (b + 20)])) :: (texL E (b + 1) 30 10 ++ (mulL E (b + 4) 8 30 ++ ([aI E 30] ++ (texL E (b + 14) 12 4 ++ ([aI E 50, aI E 11, aI E 4096, aI E 4096])))))) G ff_X0_44 hin dX0_init_89 rfl (Nat.le_of_ble_eq_true rfl) rfl ?_
  exact hend _ _ dX0_init_92
def reaL (E : EE) (b : Nat) : List va_E := (.inr (6, [iv 0, iv 0, iv 0, .ref (b + 1)])) :: ([aI E 5])
theorem rea_len (E : EE) (b : Nat) : (reaL E b).length = 2 := by unfold reaL; simp only [List.length_append, List.length_cons, List.length_nil, pad_len, tex_len, mul_len, cod_len, wri_len, dec_len, boo_len]
set_option maxHeartbeats 4000000 in
set_option maxRecDepth 100000 in
theorem nX6_init (E : EE) (b : Nat) : CN E 1 1 5 yX6_init [.ref b] b [.inr (6, [iv 0, iv 0, iv 0, .null])] (reaL E b) := by
  refine CN.ofJ (own := RX6) (ls := [some (.ref b)]) (by decide) rfl rfl cw_X6_init (by decide) (by rw [rea_len]; rfl) (Nat.le_of_ble_eq_true rfl) (by decide) rfl (fun X G hin hend => ?_)
  refine n_aload_n G dX6_init_0 rfl ?_
  refine n_obj G ob_X6 dX6_init_1 (by show 1 ≤ 1; decide) (by show 20 ≤ 64 * 1; decide) (Nat.le_of_ble_eq_true rfl) ?_
  refine n_aload_n G dX6_init_4 rfl ?_
  refine n_iconst G dX6_init_5 ?_
  refine n_newa (N := 5) (L := 1) (xs' := (.inr (6, [iv 0, iv 0, iv 0, .null])) :: ([aI E 5])) (c2 := 1) (s2 := 5) G rfl (by decide) dX6_init_6 (by simp only [List.length_append, List.length_cons, List.length_nil, pad_len, tex_len, mul_len, cod_len, wri_len, dec_len, boo_len, rea_len] <;> omega) (by simp only [List.append_assoc, List.cons_append, List.nil_append, List.singleton_append]) (by omega) (by omega) (by show _ ≤ 1; omega) (by show _ ≤ 5; omega) ?_
  refine n_putF (k := 0) (xs' := (.inr (6, [iv 0, iv 0, iv 0, .ref (b + 1)])) :: ([aI E 5])) G ff_X6_9 hin dX6_init_8 rfl (Nat.le_of_ble_eq_true rfl) rfl ?_
  exact hend _ _ dX6_init_11
def schL (E : EE) (b : Nat) : List va_E := (.inr (7, [.ref (b + 1), .ref (b + 10)])) :: (mulL E (b + 1) 8 5 ++ (padL E (b + 10) 40))
theorem sch_len (E : EE) (b : Nat) : (schL E b).length = 12 := by unfold schL; simp only [List.length_append, List.length_cons, List.length_nil, pad_len, tex_len, mul_len, cod_len, wri_len, dec_len, boo_len, rea_len]
set_option maxHeartbeats 4000000 in
set_option maxRecDepth 100000 in
theorem nX8_init (E : EE) (b : Nat) : CN E 2 11 90 yX8_init [.ref b] b [.inr (7, [.null, .null])] (schL E b) := by
  refine CN.ofJ (own := RX8) (ls := [some (.ref b)]) (by decide) rfl rfl cw_X8_init (by decide) (by rw [sch_len]; rfl) (Nat.le_of_ble_eq_true rfl) (by decide) rfl (fun X G hin hend => ?_)
  refine n_aload_n G dX8_init_0 rfl ?_
  refine n_obj G ob_X8 dX8_init_1 (by show 1 ≤ 2; decide) (by show 20 ≤ 64 * 2; decide) (Nat.le_of_ble_eq_true rfl) ?_
  refine n_aload_n G dX8_init_4 rfl ?_
  refine n_bipush G dX8_init_5 (by decide) ?_
  refine n_iconst G dX8_init_7 ?_
  refine n_multi (N := 8) (M := 5) (L := 1) (xs' := (.inr (7, [.null, .null])) :: (mulL E (b + 1) 8 5)) (c2 := 9) (s2 := 48) G cl_X8_9 rfl rfl (by decide) (by decide) dX8_init_8 (by simp only [List.length_append, List.length_cons, List.length_nil, pad_len, tex_len, mul_len, cod_len, wri_len, dec_len, boo_len, rea_len, sch_len] <;> omega) (by simp only [List.append_assoc, List.cons_append, List.nil_append, List.singleton_append]) (by omega) (by omega) (by show _ ≤ 11; omega) (by show _ ≤ 90; omega) ?_
  refine n_putF (k := 0) (xs' := (.inr (7, [.ref (b + 1), .null])) :: (mulL E (b + 1) 8 5)) G ff_X8_11 hin dX8_init_12 rfl (Nat.le_of_ble_eq_true rfl) rfl ?_
  refine n_aload_n G dX8_init_15 rfl ?_
  refine n_new (L := 10) (xs' := (.inr (7, [.ref (b + 1), .null])) :: (mulL E (b + 1) 8 5 ++ ([.inr (5, [.null, iv 0])]))) (c2 := 10) (s2 := 50) G no_X8_16 dX8_init_16 (by simp only [List.length_append, List.length_cons, List.length_nil, pad_len, tex_len, mul_len, cod_len, wri_len, dec_len, boo_len, rea_len, sch_len] <;> omega) (by simp only [List.append_assoc, List.cons_append, List.nil_append, List.singleton_append]) (by omega) (by omega) (by show _ ≤ 11; omega) (by show _ ≤ 90; omega) ?_
  refine n_dup G dX8_init_19 rfl ?_
  refine n_bipush G dX8_init_20 (by decide) ?_
  refine n_callC (L := 10) (xs0 := (.inr (7, [.ref (b + 1), .null])) :: (mulL E (b + 1) 8 5)) (As := [iv 40]) (xs' := (.inr (7, [.ref (b + 1), .null])) :: (mulL E (b + 1) 8 5 ++ (padL E (b + 10) 40))) (c2 := 11) (s2 := 90) G (Or.inl mi_X8_18) dX8_init_22 (nX5_init E (b + 10) 40 (by decide)) (by simp only [List.append_assoc, List.cons_append, List.nil_append, List.singleton_append]) (by simp only [List.length_append, List.length_cons, List.length_nil, pad_len, tex_len, mul_len, cod_len, wri_len, dec_len, boo_len, rea_len, sch_len] <;> omega) rfl rfl (Nat.le_of_ble_eq_true rfl) (by show 1 + 1 ≤ 2; decide) (by show 64 * 1 + 59 ≤ 64 * 2; decide) (by omega) (by omega) (by show _ ≤ 11; omega) (by show _ ≤ 90; omega) (by simp only [List.append_assoc, List.cons_append, List.nil_append, List.singleton_append]) ?_
  refine n_putF (k := 0) (xs' := (.inr (7, [.ref (b + 1), .ref (b + 10)])) :: (mulL E (b + 1) 8 5 ++ (padL E (b + 10) 40))) G ff_X8_21 hin dX8_init_25 rfl (Nat.le_of_ble_eq_true rfl) rfl ?_
  exact hend _ _ dX8_init_28
def funL (E : EE) (b : Nat) : List va_E := (.inr (3, [.ref (b + 1), .ref (b + 2), iv 0, iv 0, iv 0, iv 0])) :: ([aI E 8, aI E 8])
theorem fun_len (E : EE) (b : Nat) : (funL E b).length = 3 := by unfold funL; simp only [List.length_append, List.length_cons, List.length_nil, pad_len, tex_len, mul_len, cod_len, wri_len, dec_len, boo_len, rea_len, sch_len]
set_option maxHeartbeats 4000000 in
set_option maxRecDepth 100000 in
theorem nX3_init (E : EE) (b : Nat) : CN E 1 2 16 yX3_init [.ref b] b [.inr (3, [.null, .null, iv 0, iv 0, iv 0, iv 0])] (funL E b) := by
  refine CN.ofJ (own := RX3) (ls := [some (.ref b)]) (by decide) rfl rfl cw_X3_init (by decide) (by rw [fun_len]; rfl) (Nat.le_of_ble_eq_true rfl) (by decide) rfl (fun X G hin hend => ?_)
  refine n_aload_n G dX3_init_0 rfl ?_
  refine n_obj G ob_X3 dX3_init_1 (by show 1 ≤ 1; decide) (by show 20 ≤ 64 * 1; decide) (Nat.le_of_ble_eq_true rfl) ?_
  refine n_aload_n G dX3_init_4 rfl ?_
  refine n_bipush G dX3_init_5 (by decide) ?_
  refine n_newa (N := 8) (L := 1) (xs' := (.inr (3, [.null, .null, iv 0, iv 0, iv 0, iv 0])) :: ([aI E 8])) (c2 := 1) (s2 := 8) G rfl (by decide) dX3_init_7 (by simp only [List.length_append, List.length_cons, List.length_nil, pad_len, tex_len, mul_len, cod_len, wri_len, dec_len, boo_len, rea_len, sch_len, fun_len] <;> omega) (by simp only [List.append_assoc, List.cons_append, List.nil_append, List.singleton_append]) (by omega) (by omega) (by show _ ≤ 2; omega) (by show _ ≤ 16; omega) ?_
  refine n_putF (k := 0) (xs' := (.inr (3, [.ref (b + 1), .null, iv 0, iv 0, iv 0, iv 0])) :: ([aI E 8])) G ff_X3_9 hin dX3_init_9 rfl (Nat.le_of_ble_eq_true rfl) rfl ?_
  refine n_aload_n G dX3_init_12 rfl ?_
  refine n_bipush G dX3_init_13 (by decide) ?_
  refine n_newa (N := 8) (L := 2) (xs' := (.inr (3, [.ref (b + 1), .null, iv 0, iv 0, iv 0, iv 0])) :: ([aI E 8, aI E 8])) (c2 := 2) (s2 := 16) G rfl (by decide) dX3_init_15 (by simp only [List.length_append, List.length_cons, List.length_nil, pad_len, tex_len, mul_len, cod_len, wri_len, dec_len, boo_len, rea_len, sch_len, fun_len] <;> omega) (by simp only [List.append_assoc, List.cons_append, List.nil_append, List.singleton_append]) (by omega) (by omega) (by show _ ≤ 2; omega) (by show _ ≤ 16; omega) ?_
  refine n_putF (k := 0) (xs' := (.inr (3, [.ref (b + 1), .ref (b + 2), iv 0, iv 0, iv 0, iv 0])) :: ([aI E 8, aI E 8])) G ff_X3_15 hin dX3_init_17 rfl (Nat.le_of_ble_eq_true rfl) rfl ?_
  exact hend _ _ dX3_init_20
def mixL (E : EE) (b : Nat) (c : Nat) : List va_E := (.inr (4, [.ref c, .ref (b + 1), .ref (b + 2), .ref (b + 3), .ref (b + 4), .ref (b + 5), .ref (b + 6), iv 0, iv 0])) :: ([.inl (eA E 20, 26, .inl (fun j => Int32.ofInt (if 0 ≤ (j : Int) ∧ (j : Int) < (26 : Nat) then (-1) else 0))), aI E 5, aI E 7, aL E 35, aI E 35, aI E 8])
theorem mix_len (E : EE) (b : Nat) (c : Nat) : (mixL E b c).length = 7 := by unfold mixL; simp only [List.length_append, List.length_cons, List.length_nil, pad_len, tex_len, mul_len, cod_len, wri_len, dec_len, boo_len, rea_len, sch_len, fun_len]
set_option maxHeartbeats 4000000 in
set_option maxRecDepth 100000 in
theorem nX4_init (E : EE) (b : Nat) (c : Nat) : CN E 1 6 116 yX4_init [.ref b, .ref c] b [.inr (4, [.null, .null, .null, .null, .null, .null, .null, iv 0, iv 0])] (mixL E b c) := by
  refine CN.ofJ (own := RX4) (ls := [some (.ref b), some (.ref c)]) (by decide) rfl rfl cw_X4_init (by decide) (by rw [mix_len]; rfl) (Nat.le_of_ble_eq_true rfl) (by decide) rfl (fun X G hin hend => ?_)
  refine n_aload_n G dX4_init_0 rfl ?_
  refine n_obj G ob_X4 dX4_init_1 (by show 1 ≤ 1; decide) (by show 20 ≤ 64 * 1; decide) (Nat.le_of_ble_eq_true rfl) ?_
  refine n_aload_n G dX4_init_4 rfl ?_
  refine n_bipush G dX4_init_5 (by decide) ?_
  refine n_newa (N := 26) (L := 1) (xs' := (.inr (4, [.null, .null, .null, .null, .null, .null, .null, iv 0, iv 0])) :: ([aI E 26])) (c2 := 1) (s2 := 26) G rfl (by decide) dX4_init_7 (by simp only [List.length_append, List.length_cons, List.length_nil, pad_len, tex_len, mul_len, cod_len, wri_len, dec_len, boo_len, rea_len, sch_len, fun_len, mix_len] <;> omega) (by simp only [List.append_assoc, List.cons_append, List.nil_append, List.singleton_append]) (by omega) (by omega) (by show _ ≤ 6; omega) (by show _ ≤ 116; omega) ?_
  refine n_putF (k := 0) (xs' := (.inr (4, [.null, .ref (b + 1), .null, .null, .null, .null, .null, iv 0, iv 0])) :: ([aI E 26])) G ff_X4_9 hin dX4_init_9 rfl (Nat.le_of_ble_eq_true rfl) rfl ?_
  refine n_aload_n G dX4_init_12 rfl ?_
  refine n_iconst G dX4_init_13 ?_
  refine n_newa (N := 5) (L := 2) (xs' := (.inr (4, [.null, .ref (b + 1), .null, .null, .null, .null, .null, iv 0, iv 0])) :: ([aI E 26, aI E 5])) (c2 := 2) (s2 := 31) G rfl (by decide) dX4_init_14 (by simp only [List.length_append, List.length_cons, List.length_nil, pad_len, tex_len, mul_len, cod_len, wri_len, dec_len, boo_len, rea_len, sch_len, fun_len, mix_len] <;> omega) (by simp only [List.append_assoc, List.cons_append, List.nil_append, List.singleton_append]) (by omega) (by omega) (by show _ ≤ 6; omega) (by show _ ≤ 116; omega) ?_
  refine n_putF (k := 0) (xs' := (.inr (4, [.null, .ref (b + 1), .ref (b + 2), .null, .null, .null, .null, iv 0, iv 0])) :: ([aI E 26, aI E 5])) G ff_X4_15 hin dX4_init_16 rfl (Nat.le_of_ble_eq_true rfl) rfl ?_
  refine n_aload_n G dX4_init_19 rfl ?_
  refine n_bipush G dX4_init_20 (by decide) ?_
  refine n_newa (N := 7) (L := 3) (xs' := (.inr (4, [.null, .ref (b + 1), .ref (b + 2), .null, .null, .null, .null, iv 0, iv 0])) :: ([aI E 26, aI E 5, aI E 7])) (c2 := 3) (s2 := 38) G rfl (by decide) dX4_init_22 (by simp only [List.length_append, List.length_cons, List.length_nil, pad_len, tex_len, mul_len, cod_len, wri_len, dec_len, boo_len, rea_len, sch_len, fun_len, mix_len] <;> omega) (by simp only [List.append_assoc, List.cons_append, List.nil_append, List.singleton_append]) (by omega) (by omega) (by show _ ≤ 6; omega) (by show _ ≤ 116; omega) ?_
  refine n_putF (k := 0) (xs' := (.inr (4, [.null, .ref (b + 1), .ref (b + 2), .ref (b + 3), .null, .null, .null, iv 0, iv 0])) :: ([aI E 26, aI E 5, aI E 7])) G ff_X4_18 hin dX4_init_24 rfl (Nat.le_of_ble_eq_true rfl) rfl ?_
  refine n_aload_n G dX4_init_27 rfl ?_
  refine n_bipush G dX4_init_28 (by decide) ?_
  refine n_newaL (N := 35) (L := 4) (xs' := (.inr (4, [.null, .ref (b + 1), .ref (b + 2), .ref (b + 3), .null, .null, .null, iv 0, iv 0])) :: ([aI E 26, aI E 5, aI E 7, aL E 35])) (c2 := 4) (s2 := 73) G rfl (by decide) dX4_init_30 (by simp only [List.length_append, List.length_cons, List.length_nil, pad_len, tex_len, mul_len, cod_len, wri_len, dec_len, boo_len, rea_len, sch_len, fun_len, mix_len] <;> omega) (by simp only [List.append_assoc, List.cons_append, List.nil_append, List.singleton_append]) (by omega) (by omega) (by show _ ≤ 6; omega) (by show _ ≤ 116; omega) ?_
  refine n_putF (k := 0) (xs' := (.inr (4, [.null, .ref (b + 1), .ref (b + 2), .ref (b + 3), .ref (b + 4), .null, .null, iv 0, iv 0])) :: ([aI E 26, aI E 5, aI E 7, aL E 35])) G ff_X4_21 hin dX4_init_32 rfl (Nat.le_of_ble_eq_true rfl) rfl ?_
  refine n_aload_n G dX4_init_35 rfl ?_
  refine n_bipush G dX4_init_36 (by decide) ?_
  refine n_newa (N := 35) (L := 5) (xs' := (.inr (4, [.null, .ref (b + 1), .ref (b + 2), .ref (b + 3), .ref (b + 4), .null, .null, iv 0, iv 0])) :: ([aI E 26, aI E 5, aI E 7, aL E 35, aI E 35])) (c2 := 5) (s2 := 108) G rfl (by decide) dX4_init_38 (by simp only [List.length_append, List.length_cons, List.length_nil, pad_len, tex_len, mul_len, cod_len, wri_len, dec_len, boo_len, rea_len, sch_len, fun_len, mix_len] <;> omega) (by simp only [List.append_assoc, List.cons_append, List.nil_append, List.singleton_append]) (by omega) (by omega) (by show _ ≤ 6; omega) (by show _ ≤ 116; omega) ?_
  refine n_putF (k := 0) (xs' := (.inr (4, [.null, .ref (b + 1), .ref (b + 2), .ref (b + 3), .ref (b + 4), .ref (b + 5), .null, iv 0, iv 0])) :: ([aI E 26, aI E 5, aI E 7, aL E 35, aI E 35])) G ff_X4_25 hin dX4_init_40 rfl (Nat.le_of_ble_eq_true rfl) rfl ?_
  refine n_aload_n G dX4_init_43 rfl ?_
  refine n_bipush G dX4_init_44 (by decide) ?_
  refine n_newa (N := 8) (L := 6) (xs' := (.inr (4, [.null, .ref (b + 1), .ref (b + 2), .ref (b + 3), .ref (b + 4), .ref (b + 5), .null, iv 0, iv 0])) :: ([aI E 26, aI E 5, aI E 7, aL E 35, aI E 35, aI E 8])) (c2 := 6) (s2 := 116) G rfl (by decide) dX4_init_46 (by simp only [List.length_append, List.length_cons, List.length_nil, pad_len, tex_len, mul_len, cod_len, wri_len, dec_len, boo_len, rea_len, sch_len, fun_len, mix_len] <;> omega) (by simp only [List.append_assoc, List.cons_append, List.nil_append, List.singleton_append]) (by omega) (by omega) (by show _ ≤ 6; omega) (by show _ ≤ 116; omega) ?_
  refine n_putF (k := 0) (xs' := (.inr (4, [.null, .ref (b + 1), .ref (b + 2), .ref (b + 3), .ref (b + 4), .ref (b + 5), .ref (b + 6), iv 0, iv 0])) :: ([aI E 26, aI E 5, aI E 7, aL E 35, aI E 35, aI E 8])) G ff_X4_28 hin dX4_init_48 rfl (Nat.le_of_ble_eq_true rfl) rfl ?_
  refine n_aload_n G dX4_init_51 rfl ?_
  refine n_aload_n G dX4_init_52 rfl ?_
  refine n_putF (k := 0) (xs' := (.inr (4, [.ref c, .ref (b + 1), .ref (b + 2), .ref (b + 3), .ref (b + 4), .ref (b + 5), .ref (b + 6), iv 0, iv 0])) :: ([aI E 26, aI E 5, aI E 7, aL E 35, aI E 35, aI E 8])) G ff_X4_31 hin dX4_init_53 rfl (Nat.le_of_ble_eq_true rfl) rfl ?_
  refine n_aload_n G dX4_init_56 rfl ?_
  refine n_get (k := 0) G fl_X4_9 dX4_init_57 rfl rfl ?_
  refine n_iconst G dX4_init_60 ?_
  refine n_fill (k := 1) (N := 26) (z := -1) (xs' := (.inr (4, [.ref c, .ref (b + 1), .ref (b + 2), .ref (b + 3), .ref (b + 4), .ref (b + 5), .ref (b + 6), iv 0, iv 0])) :: ([.inl (eA E 20, 26, .inl (fun j => Int32.ofInt (if 0 ≤ (j : Int) ∧ (j : Int) < (26 : Nat) then (-1) else 0))), aI E 5, aI E 7, aL E 35, aI E 35, aI E 8])) G ms_X4_35 dX4_init_61 rfl (by decide) (by decide) (Nat.le_of_ble_eq_true rfl) (by show 1 ≤ 1; decide) (by show 59 ≤ 64 * 1; decide) (by show _ ≤ 6; omega) (by show _ ≤ 116; omega) rfl ?_
  exact hend _ _ dX4_init_64
